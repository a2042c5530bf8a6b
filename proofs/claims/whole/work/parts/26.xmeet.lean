/-! the class: work, meet, pass -/
theorem wk_comm (σ : Sg) (d : Nat) : wkF σ d = sI (sI σ 26 0 (σ.1 26 0 + 1)) 11 d (σ.1 11 d + 1) := sI_comm σ (show 11 ≠ 26 by decide) d 0 _ _
theorem give_comm (σ : Sg) (d t : Nat) : giveF σ d t = sI (sI (sI (sI σ 12 d (σ.1 12 d + 1)) 13 d (nI t)) 14 d 1) 19 0 (σ.1 19 0 + 1) := by
  unfold giveF
  rw [sI_comm _ (show 14 ≠ 13 by decide)]
section ACT
variable {sp : Sg → Nat → Sg} {σ : Sg} {d t : Nat}
theorem act_0 (h : σ.1 7 d = 0) : actF sp d σ t = (some t, sI σ 9 d (σ.1 9 d + placesF σ t)) := by unfold actF; rw [if_pos h]
theorem act_1 (h : σ.1 7 d = 1) : actF sp d σ t = (some t, turnF σ t) := by unfold actF; rw [h, if_neg (by decide), if_pos rfl]
theorem act_2 (h : σ.1 7 d = 2) : actF sp d σ t = (some t, stampAllF σ t) := by unfold actF; rw [h, if_neg (by decide), if_neg (by decide), if_pos rfl]
theorem act_3 (h : σ.1 7 d = 3) : actF sp d σ t = (some t, if isThF (σ.1 1 t) = 0 then σ else eachF sp t (szS σ t) 0 σ) := by unfold actF; rw [h, if_neg (by decide), if_neg (by decide), if_neg (by decide), if_pos rfl]
theorem act_4 (h : σ.1 7 d = 4) : actF sp d σ t = (dec (σ.1 10 d), sI σ 10 d (nI t)) := by unfold actF; rw [h, if_neg (by decide), if_neg (by decide), if_neg (by decide), if_neg (by decide)]
theorem meet_work (h : ¬ goesF (σ.1 1 t) (σ.1 6 d) = 0) : meetF sp d σ t = actF sp d (wkF σ d) t := by unfold meetF; rw [if_neg h]
theorem meet_asks (h : goesF (σ.1 1 t) (σ.1 6 d) = 0) (h8 : σ.1 8 d = 1) : meetF sp d σ t = (some t, σ) := by unfold meetF; rw [if_pos h, h8, if_neg (by decide)]
theorem meet_gave (h : goesF (σ.1 1 t) (σ.1 6 d) = 0) (h8 : σ.1 8 d = 0) (h14 : σ.1 14 d = 1) : meetF sp d σ t = (some t, σ) := by unfold meetF; rw [if_pos h, if_pos h8, h14, if_neg (by decide)]
theorem meet_give (h : goesF (σ.1 1 t) (σ.1 6 d) = 0) (h8 : σ.1 8 d = 0) (h14 : σ.1 14 d = 0) : meetF sp d σ t = (none, giveF σ d t) := by unfold meetF; rw [if_pos h, if_pos h8, if_pos h14]
end ACT
theorem places_row {σ : Sg} {k : Nat} (hok : okM σ) (h6 : k < 60) (hO : isOneK (σ.1 1 k) = false) : placesF σ k = nI (szS σ k) := by
  unfold placesF
  rw [oneF0 hO, if_pos rfl, (okZ hok h6).2]
theorem places_one {σ : Sg} {k : Nat} (hO : isOneK (σ.1 1 k) = true) : placesF σ k = 1 := by
  unfold placesF
  rw [oneF1 hO, if_neg (by decide)]
theorem nlow_num {κ : Int32} (hN : isNumK κ = true) : ¬ 11 ≤ κ := fun h => by rw [albK h] at hN; cases hN
theorem nlow_one {κ : Int32} (hO : isOneK κ = true) : ¬ 11 ≤ κ := fun h => by
  have := (oneK hO).2
  rw [Int32.le_iff_toInt_le] at this h
  have e1 : (11 : Int32).toInt = 11 := by decide
  have e2 : (7 : Int32).toInt = 7 := by decide
  omega
theorem isOf_d {σ : Sg} {B r d k : Nat} (hV : INV σ B) (hr : r < 8) (hc : d < dcS σ r) (hn : k < nS σ) : isOfX (σ.1 1 k) (σ.1 6 (4 * r + d)) = goesF (σ.1 1 k) (σ.1 6 (4 * r + d)) := by
  obtain ⟨a, ha, ea⟩ := (hV.2.2.2.1 r d hr hc).2.2.1
  obtain ⟨q, hq, eq⟩ := hV.2.1 k hn
  rw [ea, eq]
  exact isOf_goes ⟨q, by omega⟩ ⟨a, by omega⟩

set_option maxHeartbeats 2000000 in
set_option maxRecDepth 100000 in
theorem c_X6_work_0num (l : Launch) (D : tw_G) (ad : Nat → Nat) (b : tw_W) (σ0 : Sg) (h : Int32) (Q : Nat → Int32) (sz : Nat) (n r d k B : Nat) (hP : passC l D ad b h Q n (r + 1)) (er : r + 1 + n = 8) (hV0 : INV σ0 B) (hB : B + (12 + 3 * cN n) < 2 ^ 62) (hr8 : r < 8) (hd4 : d < 4) (hc0 : d < dcS σ0 r) (hn0 : k < nS σ0) (h6 : k < 60) (ea0 : σ0.1 7 (4 * r + d) = 0) (hN0 : isNumK (σ0.1 1 k) = true) : Met l yX6_work (tw_w yX6_work cX6_work 4 (some (.object "MailRooms$Item"))) (tw_R (4 * n + 5) 0 0) (tw_Pc D ad (wX b σ0 h Q) sz [.ref (ad 0), .ref (ad (30 + (4 * r + d))), .ref (ad (100 + k)), .int (nI r)]) (tw_Q D ad (wX b ((actF (spF n (r + 1)) (4 * r + d) (wkF σ0 (4 * r + d)) k).2) h Q) (tw_A ad (wX b σ0 h Q) sz) (some (rfv ad (actF (spF n (r + 1)) (4 * r + d) (wkF σ0 (4 * r + d)) k).1))) 0 0 (tw_A ad (wX b σ0 h Q) sz) := by
  refine tw_met (by decide) rfl (by simp [lg_sl, Value.category]) (fun p e s m below meth c ls S hK hr hlocks hnm hsz hI hl => ?_)
  have hx := S.1
  have hb := S.2.1
  have hl : lv_has ls 4 [(0, .ref (ad 0)), (1, .ref (ad (30 + (4 * r + d)))), (2, .ref (ad (100 + k))), (3, .int (nI r))] := hl
  refine lv_aload_n hx hb dX6_work_0 rfl (lv_at hl 0 rfl) ?_
  refine lv_dup hx hb dX6_work_1 rfl ?_
  refine gx_28 S hK hI dX6_work_2 ?_
  refine lv_topi (fun x1 e1 => ?_)
  refine lv_iconst (v := 1) hx hb dX6_work_5 (by decide) ?_
  refine lv_iadd hx hb dX6_work_6 ?_
  refine lv_topi (fun x2 e2 => ?_)
  refine px_28 S hK hI dX6_work_7 (fun H locs hI => ?_)
  refine lv_aload_n hx hb dX6_work_10 rfl (lv_at hl 1 rfl) ?_
  refine lv_dup hx hb dX6_work_11 rfl ?_
  refine f6_156_0 S hK hI (wX_desk hr8 hd4 hc0) rfl (v' := .int (σ0.1 11 (4 * r + d))) rfl dX6_work_12 ?_
  refine lv_topi (fun x3 e3 => ?_)
  refine lv_iconst (v := 1) hx hb dX6_work_15 (by decide) ?_
  refine lv_iadd hx hb dX6_work_16 ?_
  refine lv_topi (fun x4 e4 => ?_)
  refine pd_156 (d := 4 * r + d) S hK hI (by omega) (deskC hd4 hc0) dX6_work_17 (fun H locs hI => ?_)
  subst e4
  subst e3
  subst e2
  subst e1
  have hI : tw_I D (tw_A ad (wX b σ0 h Q) sz) ad (wX b (wkF σ0 (4 * r + d)) h Q) s.heap H locs := by rw [wk_comm]; exact hI
  have hk := wk_Kp (d := 4 * r + d) hV0
  generalize wkF σ0 (4 * r + d) = σ at hI hk ⊢
  have hV := hk.1
  have hn : k < nS σ := by rw [hk.n]; exact hn0
  have hc : d < dcS σ r := by rw [hk.dc]; exact hc0
  have ea : σ.1 7 (4 * r + d) = 0 := by rw [hk.2 7 (by decide)]; exact ea0
  have hN : isNumK (σ.1 1 k) = true := by rw [hk.2 1 (by decide)]; exact hN0
  refine lv_aload_n hx hb dX6_work_20 rfl (lv_at hl 1 rfl) ?_
  refine f6_138_0 S hK hI (wX_desk hr8 hd4 hc) rfl (v' := .int (σ.1 7 (4 * r + d))) rfl dX6_work_21 ?_
  refine lv_eqi (v := 0) ea ?_
  refine lv_tableIn (off := 36) (tgt := 60) hx hb dX6_work_24 (by decide) (by decide) (by decide) (by decide) ?_
  refine lv_aload_n hx hb dX6_work_60 rfl (lv_at hl 1 rfl) ?_
  refine lv_dup hx hb dX6_work_61 rfl ?_
  refine f6_149_0 S hK hI (wX_desk hr8 hd4 hc) rfl (v' := .int (σ.1 9 (4 * r + d))) rfl dX6_work_62 ?_
  refine lv_topi (fun x6 e6 => ?_)
  refine lv_aload_n hx hb dX6_work_65 rfl (lv_at hl 2 rfl) ?_
  refine tw_calli (tw_rA (As := []) (rest := [.int x6, .ref (ad (30 + (4 * r + d)))]) S hK hI kX6_192_X2 (c_X2_places l D ad _ _ _ _ _ _ hn h6 hN) (xI_num hn h6 hN) rfl rfl (tw_lvl (by omega) (by decide)) ⟨Nat.le_of_ble_eq_true rfl, Nat.le_of_ble_eq_true rfl⟩ rfl hl.1 rfl (Nat.le_of_ble_eq_true rfl) dX6_work_66) hI (fun H locs hI => ?_)
  refine lv_topi (fun x7 e7 => ?_)
  refine lv_iadd hx hb dX6_work_69 ?_
  refine lv_topi (fun x8 e8 => ?_)
  refine pd_149 (d := 4 * r + d) S hK hI (by omega) (deskC hd4 hc) dX6_work_70 (fun H locs hI => ?_)
  refine lv_goto (tgt := 108) hx hb dX6_work_73 (by decide) ?_
  refine lv_aload_n hx hb dX6_work_108 rfl (lv_at hl 2 rfl) ?_
  subst e8
  subst e7
  subst e6
  rw [act_0 ea, places_row hV.1 h6 (oneF_num hN)]
  exact tw_aret S hr (Or.inr ⟨_, rfl⟩) hlocks hI dX6_work_109

set_option maxHeartbeats 2000000 in
set_option maxRecDepth 100000 in
theorem c_X6_work_0one (l : Launch) (D : tw_G) (ad : Nat → Nat) (b : tw_W) (σ0 : Sg) (h : Int32) (Q : Nat → Int32) (sz : Nat) (n r d k B : Nat) (hP : passC l D ad b h Q n (r + 1)) (er : r + 1 + n = 8) (hV0 : INV σ0 B) (hB : B + (12 + 3 * cN n) < 2 ^ 62) (hr8 : r < 8) (hd4 : d < 4) (hc0 : d < dcS σ0 r) (hn0 : k < nS σ0) (h6 : k < 60) (ea0 : σ0.1 7 (4 * r + d) = 0) (hN0 : isNumK (σ0.1 1 k) = false) (hO0 : isOneK (σ0.1 1 k) = true) : Met l yX6_work (tw_w yX6_work cX6_work 4 (some (.object "MailRooms$Item"))) (tw_R (4 * n + 5) 0 0) (tw_Pc D ad (wX b σ0 h Q) sz [.ref (ad 0), .ref (ad (30 + (4 * r + d))), .ref (ad (100 + k)), .int (nI r)]) (tw_Q D ad (wX b ((actF (spF n (r + 1)) (4 * r + d) (wkF σ0 (4 * r + d)) k).2) h Q) (tw_A ad (wX b σ0 h Q) sz) (some (rfv ad (actF (spF n (r + 1)) (4 * r + d) (wkF σ0 (4 * r + d)) k).1))) 0 0 (tw_A ad (wX b σ0 h Q) sz) := by
  refine tw_met (by decide) rfl (by simp [lg_sl, Value.category]) (fun p e s m below meth c ls S hK hr hlocks hnm hsz hI hl => ?_)
  have hx := S.1
  have hb := S.2.1
  have hl : lv_has ls 4 [(0, .ref (ad 0)), (1, .ref (ad (30 + (4 * r + d)))), (2, .ref (ad (100 + k))), (3, .int (nI r))] := hl
  refine lv_aload_n hx hb dX6_work_0 rfl (lv_at hl 0 rfl) ?_
  refine lv_dup hx hb dX6_work_1 rfl ?_
  refine gx_28 S hK hI dX6_work_2 ?_
  refine lv_topi (fun x1 e1 => ?_)
  refine lv_iconst (v := 1) hx hb dX6_work_5 (by decide) ?_
  refine lv_iadd hx hb dX6_work_6 ?_
  refine lv_topi (fun x2 e2 => ?_)
  refine px_28 S hK hI dX6_work_7 (fun H locs hI => ?_)
  refine lv_aload_n hx hb dX6_work_10 rfl (lv_at hl 1 rfl) ?_
  refine lv_dup hx hb dX6_work_11 rfl ?_
  refine f6_156_0 S hK hI (wX_desk hr8 hd4 hc0) rfl (v' := .int (σ0.1 11 (4 * r + d))) rfl dX6_work_12 ?_
  refine lv_topi (fun x3 e3 => ?_)
  refine lv_iconst (v := 1) hx hb dX6_work_15 (by decide) ?_
  refine lv_iadd hx hb dX6_work_16 ?_
  refine lv_topi (fun x4 e4 => ?_)
  refine pd_156 (d := 4 * r + d) S hK hI (by omega) (deskC hd4 hc0) dX6_work_17 (fun H locs hI => ?_)
  subst e4
  subst e3
  subst e2
  subst e1
  have hI : tw_I D (tw_A ad (wX b σ0 h Q) sz) ad (wX b (wkF σ0 (4 * r + d)) h Q) s.heap H locs := by rw [wk_comm]; exact hI
  have hk := wk_Kp (d := 4 * r + d) hV0
  generalize wkF σ0 (4 * r + d) = σ at hI hk ⊢
  have hV := hk.1
  have hn : k < nS σ := by rw [hk.n]; exact hn0
  have hc : d < dcS σ r := by rw [hk.dc]; exact hc0
  have ea : σ.1 7 (4 * r + d) = 0 := by rw [hk.2 7 (by decide)]; exact ea0
  have hN : isNumK (σ.1 1 k) = false := by rw [hk.2 1 (by decide)]; exact hN0
  have hO : isOneK (σ.1 1 k) = true := by rw [hk.2 1 (by decide)]; exact hO0
  refine lv_aload_n hx hb dX6_work_20 rfl (lv_at hl 1 rfl) ?_
  refine f6_138_0 S hK hI (wX_desk hr8 hd4 hc) rfl (v' := .int (σ.1 7 (4 * r + d))) rfl dX6_work_21 ?_
  refine lv_eqi (v := 0) ea ?_
  refine lv_tableIn (off := 36) (tgt := 60) hx hb dX6_work_24 (by decide) (by decide) (by decide) (by decide) ?_
  refine lv_aload_n hx hb dX6_work_60 rfl (lv_at hl 1 rfl) ?_
  refine lv_dup hx hb dX6_work_61 rfl ?_
  refine f6_149_0 S hK hI (wX_desk hr8 hd4 hc) rfl (v' := .int (σ.1 9 (4 * r + d))) rfl dX6_work_62 ?_
  refine lv_topi (fun x6 e6 => ?_)
  refine lv_aload_n hx hb dX6_work_65 rfl (lv_at hl 2 rfl) ?_
  refine tw_calli (tw_rA (As := []) (rest := [.int x6, .ref (ad (30 + (4 * r + d)))]) S hK hI kX6_192_X3 (c_X3_places l D ad _ _ _ _ _ _) (xI_one hn h6 hN hO) rfl rfl (tw_lvl (by omega) (by decide)) ⟨Nat.le_of_ble_eq_true rfl, Nat.le_of_ble_eq_true rfl⟩ rfl hl.1 rfl (Nat.le_of_ble_eq_true rfl) dX6_work_66) hI (fun H locs hI => ?_)
  refine lv_iadd hx hb dX6_work_69 ?_
  refine lv_topi (fun x7 e7 => ?_)
  refine pd_149 (d := 4 * r + d) S hK hI (by omega) (deskC hd4 hc) dX6_work_70 (fun H locs hI => ?_)
  refine lv_goto (tgt := 108) hx hb dX6_work_73 (by decide) ?_
  refine lv_aload_n hx hb dX6_work_108 rfl (lv_at hl 2 rfl) ?_
  subst e7
  subst e6
  rw [act_0 ea, places_one hO]
  exact tw_aret S hr (Or.inr ⟨_, rfl⟩) hlocks hI dX6_work_109

set_option maxHeartbeats 2000000 in
set_option maxRecDepth 100000 in
theorem c_X6_work_0th (l : Launch) (D : tw_G) (ad : Nat → Nat) (b : tw_W) (σ0 : Sg) (h : Int32) (Q : Nat → Int32) (sz : Nat) (n r d k B : Nat) (hP : passC l D ad b h Q n (r + 1)) (er : r + 1 + n = 8) (hV0 : INV σ0 B) (hB : B + (12 + 3 * cN n) < 2 ^ 62) (hr8 : r < 8) (hd4 : d < 4) (hc0 : d < dcS σ0 r) (hn0 : k < nS σ0) (h6 : k < 60) (ea0 : σ0.1 7 (4 * r + d) = 0) (hN0 : isNumK (σ0.1 1 k) = false) (hO0 : isOneK (σ0.1 1 k) = false) : Met l yX6_work (tw_w yX6_work cX6_work 4 (some (.object "MailRooms$Item"))) (tw_R (4 * n + 5) 0 0) (tw_Pc D ad (wX b σ0 h Q) sz [.ref (ad 0), .ref (ad (30 + (4 * r + d))), .ref (ad (100 + k)), .int (nI r)]) (tw_Q D ad (wX b ((actF (spF n (r + 1)) (4 * r + d) (wkF σ0 (4 * r + d)) k).2) h Q) (tw_A ad (wX b σ0 h Q) sz) (some (rfv ad (actF (spF n (r + 1)) (4 * r + d) (wkF σ0 (4 * r + d)) k).1))) 0 0 (tw_A ad (wX b σ0 h Q) sz) := by
  refine tw_met (by decide) rfl (by simp [lg_sl, Value.category]) (fun p e s m below meth c ls S hK hr hlocks hnm hsz hI hl => ?_)
  have hx := S.1
  have hb := S.2.1
  have hl : lv_has ls 4 [(0, .ref (ad 0)), (1, .ref (ad (30 + (4 * r + d)))), (2, .ref (ad (100 + k))), (3, .int (nI r))] := hl
  refine lv_aload_n hx hb dX6_work_0 rfl (lv_at hl 0 rfl) ?_
  refine lv_dup hx hb dX6_work_1 rfl ?_
  refine gx_28 S hK hI dX6_work_2 ?_
  refine lv_topi (fun x1 e1 => ?_)
  refine lv_iconst (v := 1) hx hb dX6_work_5 (by decide) ?_
  refine lv_iadd hx hb dX6_work_6 ?_
  refine lv_topi (fun x2 e2 => ?_)
  refine px_28 S hK hI dX6_work_7 (fun H locs hI => ?_)
  refine lv_aload_n hx hb dX6_work_10 rfl (lv_at hl 1 rfl) ?_
  refine lv_dup hx hb dX6_work_11 rfl ?_
  refine f6_156_0 S hK hI (wX_desk hr8 hd4 hc0) rfl (v' := .int (σ0.1 11 (4 * r + d))) rfl dX6_work_12 ?_
  refine lv_topi (fun x3 e3 => ?_)
  refine lv_iconst (v := 1) hx hb dX6_work_15 (by decide) ?_
  refine lv_iadd hx hb dX6_work_16 ?_
  refine lv_topi (fun x4 e4 => ?_)
  refine pd_156 (d := 4 * r + d) S hK hI (by omega) (deskC hd4 hc0) dX6_work_17 (fun H locs hI => ?_)
  subst e4
  subst e3
  subst e2
  subst e1
  have hI : tw_I D (tw_A ad (wX b σ0 h Q) sz) ad (wX b (wkF σ0 (4 * r + d)) h Q) s.heap H locs := by rw [wk_comm]; exact hI
  have hk := wk_Kp (d := 4 * r + d) hV0
  generalize wkF σ0 (4 * r + d) = σ at hI hk ⊢
  have hV := hk.1
  have hn : k < nS σ := by rw [hk.n]; exact hn0
  have hc : d < dcS σ r := by rw [hk.dc]; exact hc0
  have ea : σ.1 7 (4 * r + d) = 0 := by rw [hk.2 7 (by decide)]; exact ea0
  have hN : isNumK (σ.1 1 k) = false := by rw [hk.2 1 (by decide)]; exact hN0
  have hO : isOneK (σ.1 1 k) = false := by rw [hk.2 1 (by decide)]; exact hO0
  refine lv_aload_n hx hb dX6_work_20 rfl (lv_at hl 1 rfl) ?_
  refine f6_138_0 S hK hI (wX_desk hr8 hd4 hc) rfl (v' := .int (σ.1 7 (4 * r + d))) rfl dX6_work_21 ?_
  refine lv_eqi (v := 0) ea ?_
  refine lv_tableIn (off := 36) (tgt := 60) hx hb dX6_work_24 (by decide) (by decide) (by decide) (by decide) ?_
  refine lv_aload_n hx hb dX6_work_60 rfl (lv_at hl 1 rfl) ?_
  refine lv_dup hx hb dX6_work_61 rfl ?_
  refine f6_149_0 S hK hI (wX_desk hr8 hd4 hc) rfl (v' := .int (σ.1 9 (4 * r + d))) rfl dX6_work_62 ?_
  refine lv_topi (fun x6 e6 => ?_)
  refine lv_aload_n hx hb dX6_work_65 rfl (lv_at hl 2 rfl) ?_
  refine tw_calli (tw_rA (As := []) (rest := [.int x6, .ref (ad (30 + (4 * r + d)))]) S hK hI kX6_192_X5 (c_X5_places l D ad _ _ _ _ _ _ hn h6 hN hO) (xI_th hn h6 hN hO) rfl rfl (tw_lvl (by omega) (by decide)) ⟨Nat.le_of_ble_eq_true rfl, Nat.le_of_ble_eq_true rfl⟩ rfl hl.1 rfl (Nat.le_of_ble_eq_true rfl) dX6_work_66) hI (fun H locs hI => ?_)
  refine lv_topi (fun x7 e7 => ?_)
  refine lv_iadd hx hb dX6_work_69 ?_
  refine lv_topi (fun x8 e8 => ?_)
  refine pd_149 (d := 4 * r + d) S hK hI (by omega) (deskC hd4 hc) dX6_work_70 (fun H locs hI => ?_)
  refine lv_goto (tgt := 108) hx hb dX6_work_73 (by decide) ?_
  refine lv_aload_n hx hb dX6_work_108 rfl (lv_at hl 2 rfl) ?_
  subst e8
  subst e7
  subst e6
  rw [act_0 ea, places_row hV.1 h6 hO]
  exact tw_aret S hr (Or.inr ⟨_, rfl⟩) hlocks hI dX6_work_109

set_option maxHeartbeats 2000000 in
set_option maxRecDepth 100000 in
theorem c_X6_work_1num (l : Launch) (D : tw_G) (ad : Nat → Nat) (b : tw_W) (σ0 : Sg) (h : Int32) (Q : Nat → Int32) (sz : Nat) (n r d k B : Nat) (hP : passC l D ad b h Q n (r + 1)) (er : r + 1 + n = 8) (hV0 : INV σ0 B) (hB : B + (12 + 3 * cN n) < 2 ^ 62) (hr8 : r < 8) (hd4 : d < 4) (hc0 : d < dcS σ0 r) (hn0 : k < nS σ0) (h6 : k < 60) (ea0 : σ0.1 7 (4 * r + d) = 1) (hN0 : isNumK (σ0.1 1 k) = true) : Met l yX6_work (tw_w yX6_work cX6_work 4 (some (.object "MailRooms$Item"))) (tw_R (4 * n + 5) 0 0) (tw_Pc D ad (wX b σ0 h Q) sz [.ref (ad 0), .ref (ad (30 + (4 * r + d))), .ref (ad (100 + k)), .int (nI r)]) (tw_Q D ad (wX b ((actF (spF n (r + 1)) (4 * r + d) (wkF σ0 (4 * r + d)) k).2) h Q) (tw_A ad (wX b σ0 h Q) sz) (some (rfv ad (actF (spF n (r + 1)) (4 * r + d) (wkF σ0 (4 * r + d)) k).1))) 0 0 (tw_A ad (wX b σ0 h Q) sz) := by
  refine tw_met (by decide) rfl (by simp [lg_sl, Value.category]) (fun p e s m below meth c ls S hK hr hlocks hnm hsz hI hl => ?_)
  have hx := S.1
  have hb := S.2.1
  have hl : lv_has ls 4 [(0, .ref (ad 0)), (1, .ref (ad (30 + (4 * r + d)))), (2, .ref (ad (100 + k))), (3, .int (nI r))] := hl
  refine lv_aload_n hx hb dX6_work_0 rfl (lv_at hl 0 rfl) ?_
  refine lv_dup hx hb dX6_work_1 rfl ?_
  refine gx_28 S hK hI dX6_work_2 ?_
  refine lv_topi (fun x1 e1 => ?_)
  refine lv_iconst (v := 1) hx hb dX6_work_5 (by decide) ?_
  refine lv_iadd hx hb dX6_work_6 ?_
  refine lv_topi (fun x2 e2 => ?_)
  refine px_28 S hK hI dX6_work_7 (fun H locs hI => ?_)
  refine lv_aload_n hx hb dX6_work_10 rfl (lv_at hl 1 rfl) ?_
  refine lv_dup hx hb dX6_work_11 rfl ?_
  refine f6_156_0 S hK hI (wX_desk hr8 hd4 hc0) rfl (v' := .int (σ0.1 11 (4 * r + d))) rfl dX6_work_12 ?_
  refine lv_topi (fun x3 e3 => ?_)
  refine lv_iconst (v := 1) hx hb dX6_work_15 (by decide) ?_
  refine lv_iadd hx hb dX6_work_16 ?_
  refine lv_topi (fun x4 e4 => ?_)
  refine pd_156 (d := 4 * r + d) S hK hI (by omega) (deskC hd4 hc0) dX6_work_17 (fun H locs hI => ?_)
  subst e4
  subst e3
  subst e2
  subst e1
  have hI : tw_I D (tw_A ad (wX b σ0 h Q) sz) ad (wX b (wkF σ0 (4 * r + d)) h Q) s.heap H locs := by rw [wk_comm]; exact hI
  have hk := wk_Kp (d := 4 * r + d) hV0
  generalize wkF σ0 (4 * r + d) = σ at hI hk ⊢
  have hV := hk.1
  have hn : k < nS σ := by rw [hk.n]; exact hn0
  have hc : d < dcS σ r := by rw [hk.dc]; exact hc0
  have ea : σ.1 7 (4 * r + d) = 1 := by rw [hk.2 7 (by decide)]; exact ea0
  have hN : isNumK (σ.1 1 k) = true := by rw [hk.2 1 (by decide)]; exact hN0
  refine lv_aload_n hx hb dX6_work_20 rfl (lv_at hl 1 rfl) ?_
  refine f6_138_0 S hK hI (wX_desk hr8 hd4 hc) rfl (v' := .int (σ.1 7 (4 * r + d))) rfl dX6_work_21 ?_
  refine lv_eqi (v := 1) ea ?_
  refine lv_tableIn (off := 52) (tgt := 76) hx hb dX6_work_24 (by decide) (by decide) (by decide) (by decide) ?_
  refine lv_aload_n hx hb dX6_work_76 rfl (lv_at hl 2 rfl) ?_
  refine tw_callv (tw_rA (As := []) (rest := []) S hK hI kX6_196_X2 (c_X2_turn l D ad _ _ _ _ _ _ hV.1 hn h6 hN) (xI_num hn h6 hN) rfl rfl (tw_lvl (by omega) (by decide)) ⟨Nat.le_of_ble_eq_true rfl, Nat.le_of_ble_eq_true rfl⟩ rfl hl.1 rfl (Nat.le_of_ble_eq_true rfl) dX6_work_77) hI (fun H locs hI => ?_)
  refine lv_goto (tgt := 108) hx hb dX6_work_80 (by decide) ?_
  refine lv_aload_n hx hb dX6_work_108 rfl (lv_at hl 2 rfl) ?_
  rw [act_1 ea]
  exact tw_aret S hr (Or.inr ⟨_, rfl⟩) hlocks hI dX6_work_109

set_option maxHeartbeats 2000000 in
set_option maxRecDepth 100000 in
theorem c_X6_work_1one (l : Launch) (D : tw_G) (ad : Nat → Nat) (b : tw_W) (σ0 : Sg) (h : Int32) (Q : Nat → Int32) (sz : Nat) (n r d k B : Nat) (hP : passC l D ad b h Q n (r + 1)) (er : r + 1 + n = 8) (hV0 : INV σ0 B) (hB : B + (12 + 3 * cN n) < 2 ^ 62) (hr8 : r < 8) (hd4 : d < 4) (hc0 : d < dcS σ0 r) (hn0 : k < nS σ0) (h6 : k < 60) (ea0 : σ0.1 7 (4 * r + d) = 1) (hN0 : isNumK (σ0.1 1 k) = false) (hO0 : isOneK (σ0.1 1 k) = true) : Met l yX6_work (tw_w yX6_work cX6_work 4 (some (.object "MailRooms$Item"))) (tw_R (4 * n + 5) 0 0) (tw_Pc D ad (wX b σ0 h Q) sz [.ref (ad 0), .ref (ad (30 + (4 * r + d))), .ref (ad (100 + k)), .int (nI r)]) (tw_Q D ad (wX b ((actF (spF n (r + 1)) (4 * r + d) (wkF σ0 (4 * r + d)) k).2) h Q) (tw_A ad (wX b σ0 h Q) sz) (some (rfv ad (actF (spF n (r + 1)) (4 * r + d) (wkF σ0 (4 * r + d)) k).1))) 0 0 (tw_A ad (wX b σ0 h Q) sz) := by
  refine tw_met (by decide) rfl (by simp [lg_sl, Value.category]) (fun p e s m below meth c ls S hK hr hlocks hnm hsz hI hl => ?_)
  have hx := S.1
  have hb := S.2.1
  have hl : lv_has ls 4 [(0, .ref (ad 0)), (1, .ref (ad (30 + (4 * r + d)))), (2, .ref (ad (100 + k))), (3, .int (nI r))] := hl
  refine lv_aload_n hx hb dX6_work_0 rfl (lv_at hl 0 rfl) ?_
  refine lv_dup hx hb dX6_work_1 rfl ?_
  refine gx_28 S hK hI dX6_work_2 ?_
  refine lv_topi (fun x1 e1 => ?_)
  refine lv_iconst (v := 1) hx hb dX6_work_5 (by decide) ?_
  refine lv_iadd hx hb dX6_work_6 ?_
  refine lv_topi (fun x2 e2 => ?_)
  refine px_28 S hK hI dX6_work_7 (fun H locs hI => ?_)
  refine lv_aload_n hx hb dX6_work_10 rfl (lv_at hl 1 rfl) ?_
  refine lv_dup hx hb dX6_work_11 rfl ?_
  refine f6_156_0 S hK hI (wX_desk hr8 hd4 hc0) rfl (v' := .int (σ0.1 11 (4 * r + d))) rfl dX6_work_12 ?_
  refine lv_topi (fun x3 e3 => ?_)
  refine lv_iconst (v := 1) hx hb dX6_work_15 (by decide) ?_
  refine lv_iadd hx hb dX6_work_16 ?_
  refine lv_topi (fun x4 e4 => ?_)
  refine pd_156 (d := 4 * r + d) S hK hI (by omega) (deskC hd4 hc0) dX6_work_17 (fun H locs hI => ?_)
  subst e4
  subst e3
  subst e2
  subst e1
  have hI : tw_I D (tw_A ad (wX b σ0 h Q) sz) ad (wX b (wkF σ0 (4 * r + d)) h Q) s.heap H locs := by rw [wk_comm]; exact hI
  have hk := wk_Kp (d := 4 * r + d) hV0
  generalize wkF σ0 (4 * r + d) = σ at hI hk ⊢
  have hV := hk.1
  have hn : k < nS σ := by rw [hk.n]; exact hn0
  have hc : d < dcS σ r := by rw [hk.dc]; exact hc0
  have ea : σ.1 7 (4 * r + d) = 1 := by rw [hk.2 7 (by decide)]; exact ea0
  have hN : isNumK (σ.1 1 k) = false := by rw [hk.2 1 (by decide)]; exact hN0
  have hO : isOneK (σ.1 1 k) = true := by rw [hk.2 1 (by decide)]; exact hO0
  refine lv_aload_n hx hb dX6_work_20 rfl (lv_at hl 1 rfl) ?_
  refine f6_138_0 S hK hI (wX_desk hr8 hd4 hc) rfl (v' := .int (σ.1 7 (4 * r + d))) rfl dX6_work_21 ?_
  refine lv_eqi (v := 1) ea ?_
  refine lv_tableIn (off := 52) (tgt := 76) hx hb dX6_work_24 (by decide) (by decide) (by decide) (by decide) ?_
  refine lv_aload_n hx hb dX6_work_76 rfl (lv_at hl 2 rfl) ?_
  refine tw_callv (tw_rA (As := []) (rest := []) S hK hI kX6_196_X3 (c_X3_turn l D ad _ _ _ _ _ _) (xI_one hn h6 hN hO) rfl rfl (tw_lvl (by omega) (by decide)) ⟨Nat.le_of_ble_eq_true rfl, Nat.le_of_ble_eq_true rfl⟩ rfl hl.1 rfl (Nat.le_of_ble_eq_true rfl) dX6_work_77) hI (fun H locs hI => ?_)
  refine lv_goto (tgt := 108) hx hb dX6_work_80 (by decide) ?_
  refine lv_aload_n hx hb dX6_work_108 rfl (lv_at hl 2 rfl) ?_
  rw [act_1 ea, turn_0 (hV.2.2.2.2.1 k hn hO)]
  exact tw_aret S hr (Or.inr ⟨_, rfl⟩) hlocks hI dX6_work_109

set_option maxHeartbeats 2000000 in
set_option maxRecDepth 100000 in
theorem c_X6_work_1th (l : Launch) (D : tw_G) (ad : Nat → Nat) (b : tw_W) (σ0 : Sg) (h : Int32) (Q : Nat → Int32) (sz : Nat) (n r d k B : Nat) (hP : passC l D ad b h Q n (r + 1)) (er : r + 1 + n = 8) (hV0 : INV σ0 B) (hB : B + (12 + 3 * cN n) < 2 ^ 62) (hr8 : r < 8) (hd4 : d < 4) (hc0 : d < dcS σ0 r) (hn0 : k < nS σ0) (h6 : k < 60) (ea0 : σ0.1 7 (4 * r + d) = 1) (hN0 : isNumK (σ0.1 1 k) = false) (hO0 : isOneK (σ0.1 1 k) = false) : Met l yX6_work (tw_w yX6_work cX6_work 4 (some (.object "MailRooms$Item"))) (tw_R (4 * n + 5) 0 0) (tw_Pc D ad (wX b σ0 h Q) sz [.ref (ad 0), .ref (ad (30 + (4 * r + d))), .ref (ad (100 + k)), .int (nI r)]) (tw_Q D ad (wX b ((actF (spF n (r + 1)) (4 * r + d) (wkF σ0 (4 * r + d)) k).2) h Q) (tw_A ad (wX b σ0 h Q) sz) (some (rfv ad (actF (spF n (r + 1)) (4 * r + d) (wkF σ0 (4 * r + d)) k).1))) 0 0 (tw_A ad (wX b σ0 h Q) sz) := by
  refine tw_met (by decide) rfl (by simp [lg_sl, Value.category]) (fun p e s m below meth c ls S hK hr hlocks hnm hsz hI hl => ?_)
  have hx := S.1
  have hb := S.2.1
  have hl : lv_has ls 4 [(0, .ref (ad 0)), (1, .ref (ad (30 + (4 * r + d)))), (2, .ref (ad (100 + k))), (3, .int (nI r))] := hl
  refine lv_aload_n hx hb dX6_work_0 rfl (lv_at hl 0 rfl) ?_
  refine lv_dup hx hb dX6_work_1 rfl ?_
  refine gx_28 S hK hI dX6_work_2 ?_
  refine lv_topi (fun x1 e1 => ?_)
  refine lv_iconst (v := 1) hx hb dX6_work_5 (by decide) ?_
  refine lv_iadd hx hb dX6_work_6 ?_
  refine lv_topi (fun x2 e2 => ?_)
  refine px_28 S hK hI dX6_work_7 (fun H locs hI => ?_)
  refine lv_aload_n hx hb dX6_work_10 rfl (lv_at hl 1 rfl) ?_
  refine lv_dup hx hb dX6_work_11 rfl ?_
  refine f6_156_0 S hK hI (wX_desk hr8 hd4 hc0) rfl (v' := .int (σ0.1 11 (4 * r + d))) rfl dX6_work_12 ?_
  refine lv_topi (fun x3 e3 => ?_)
  refine lv_iconst (v := 1) hx hb dX6_work_15 (by decide) ?_
  refine lv_iadd hx hb dX6_work_16 ?_
  refine lv_topi (fun x4 e4 => ?_)
  refine pd_156 (d := 4 * r + d) S hK hI (by omega) (deskC hd4 hc0) dX6_work_17 (fun H locs hI => ?_)
  subst e4
  subst e3
  subst e2
  subst e1
  have hI : tw_I D (tw_A ad (wX b σ0 h Q) sz) ad (wX b (wkF σ0 (4 * r + d)) h Q) s.heap H locs := by rw [wk_comm]; exact hI
  have hk := wk_Kp (d := 4 * r + d) hV0
  generalize wkF σ0 (4 * r + d) = σ at hI hk ⊢
  have hV := hk.1
  have hn : k < nS σ := by rw [hk.n]; exact hn0
  have hc : d < dcS σ r := by rw [hk.dc]; exact hc0
  have ea : σ.1 7 (4 * r + d) = 1 := by rw [hk.2 7 (by decide)]; exact ea0
  have hN : isNumK (σ.1 1 k) = false := by rw [hk.2 1 (by decide)]; exact hN0
  have hO : isOneK (σ.1 1 k) = false := by rw [hk.2 1 (by decide)]; exact hO0
  refine lv_aload_n hx hb dX6_work_20 rfl (lv_at hl 1 rfl) ?_
  refine f6_138_0 S hK hI (wX_desk hr8 hd4 hc) rfl (v' := .int (σ.1 7 (4 * r + d))) rfl dX6_work_21 ?_
  refine lv_eqi (v := 1) ea ?_
  refine lv_tableIn (off := 52) (tgt := 76) hx hb dX6_work_24 (by decide) (by decide) (by decide) (by decide) ?_
  refine lv_aload_n hx hb dX6_work_76 rfl (lv_at hl 2 rfl) ?_
  refine tw_callv (tw_rA (As := []) (rest := []) S hK hI kX6_196_X5 (c_X5_turn l D ad _ _ _ _ _ _ hV.1 hV.2.2.1 hn h6 hN hO) (xI_th hn h6 hN hO) rfl rfl (tw_lvl (by omega) (by decide)) ⟨Nat.le_of_ble_eq_true rfl, Nat.le_of_ble_eq_true rfl⟩ rfl hl.1 rfl (Nat.le_of_ble_eq_true rfl) dX6_work_77) hI (fun H locs hI => ?_)
  refine lv_goto (tgt := 108) hx hb dX6_work_80 (by decide) ?_
  refine lv_aload_n hx hb dX6_work_108 rfl (lv_at hl 2 rfl) ?_
  rw [act_1 ea]
  exact tw_aret S hr (Or.inr ⟨_, rfl⟩) hlocks hI dX6_work_109

set_option maxHeartbeats 2000000 in
set_option maxRecDepth 100000 in
theorem c_X6_work_2num (l : Launch) (D : tw_G) (ad : Nat → Nat) (b : tw_W) (σ0 : Sg) (h : Int32) (Q : Nat → Int32) (sz : Nat) (n r d k B : Nat) (hP : passC l D ad b h Q n (r + 1)) (er : r + 1 + n = 8) (hV0 : INV σ0 B) (hB : B + (12 + 3 * cN n) < 2 ^ 62) (hr8 : r < 8) (hd4 : d < 4) (hc0 : d < dcS σ0 r) (hn0 : k < nS σ0) (h6 : k < 60) (ea0 : σ0.1 7 (4 * r + d) = 2) (hN0 : isNumK (σ0.1 1 k) = true) : Met l yX6_work (tw_w yX6_work cX6_work 4 (some (.object "MailRooms$Item"))) (tw_R (4 * n + 5) 0 0) (tw_Pc D ad (wX b σ0 h Q) sz [.ref (ad 0), .ref (ad (30 + (4 * r + d))), .ref (ad (100 + k)), .int (nI r)]) (tw_Q D ad (wX b ((actF (spF n (r + 1)) (4 * r + d) (wkF σ0 (4 * r + d)) k).2) h Q) (tw_A ad (wX b σ0 h Q) sz) (some (rfv ad (actF (spF n (r + 1)) (4 * r + d) (wkF σ0 (4 * r + d)) k).1))) 0 0 (tw_A ad (wX b σ0 h Q) sz) := by
  refine tw_met (by decide) rfl (by simp [lg_sl, Value.category]) (fun p e s m below meth c ls S hK hr hlocks hnm hsz hI hl => ?_)
  have hx := S.1
  have hb := S.2.1
  have hl : lv_has ls 4 [(0, .ref (ad 0)), (1, .ref (ad (30 + (4 * r + d)))), (2, .ref (ad (100 + k))), (3, .int (nI r))] := hl
  refine lv_aload_n hx hb dX6_work_0 rfl (lv_at hl 0 rfl) ?_
  refine lv_dup hx hb dX6_work_1 rfl ?_
  refine gx_28 S hK hI dX6_work_2 ?_
  refine lv_topi (fun x1 e1 => ?_)
  refine lv_iconst (v := 1) hx hb dX6_work_5 (by decide) ?_
  refine lv_iadd hx hb dX6_work_6 ?_
  refine lv_topi (fun x2 e2 => ?_)
  refine px_28 S hK hI dX6_work_7 (fun H locs hI => ?_)
  refine lv_aload_n hx hb dX6_work_10 rfl (lv_at hl 1 rfl) ?_
  refine lv_dup hx hb dX6_work_11 rfl ?_
  refine f6_156_0 S hK hI (wX_desk hr8 hd4 hc0) rfl (v' := .int (σ0.1 11 (4 * r + d))) rfl dX6_work_12 ?_
  refine lv_topi (fun x3 e3 => ?_)
  refine lv_iconst (v := 1) hx hb dX6_work_15 (by decide) ?_
  refine lv_iadd hx hb dX6_work_16 ?_
  refine lv_topi (fun x4 e4 => ?_)
  refine pd_156 (d := 4 * r + d) S hK hI (by omega) (deskC hd4 hc0) dX6_work_17 (fun H locs hI => ?_)
  subst e4
  subst e3
  subst e2
  subst e1
  have hI : tw_I D (tw_A ad (wX b σ0 h Q) sz) ad (wX b (wkF σ0 (4 * r + d)) h Q) s.heap H locs := by rw [wk_comm]; exact hI
  have hk := wk_Kp (d := 4 * r + d) hV0
  generalize wkF σ0 (4 * r + d) = σ at hI hk ⊢
  have hV := hk.1
  have hn : k < nS σ := by rw [hk.n]; exact hn0
  have hc : d < dcS σ r := by rw [hk.dc]; exact hc0
  have ea : σ.1 7 (4 * r + d) = 2 := by rw [hk.2 7 (by decide)]; exact ea0
  have hN : isNumK (σ.1 1 k) = true := by rw [hk.2 1 (by decide)]; exact hN0
  refine lv_aload_n hx hb dX6_work_20 rfl (lv_at hl 1 rfl) ?_
  refine f6_138_0 S hK hI (wX_desk hr8 hd4 hc) rfl (v' := .int (σ.1 7 (4 * r + d))) rfl dX6_work_21 ?_
  refine lv_eqi (v := 2) ea ?_
  refine lv_tableIn (off := 59) (tgt := 83) hx hb dX6_work_24 (by decide) (by decide) (by decide) (by decide) ?_
  refine lv_aload_n hx hb dX6_work_83 rfl (lv_at hl 2 rfl) ?_
  refine lv_iconst (v := 3) hx hb dX6_work_84 (by decide) ?_
  refine tw_callv (tw_rA (As := [.int 3]) (rest := []) S hK hI kX6_199_X2 (c_X2_grow l D ad _ _ _ _ _ _ _ hV.1 hV.2.1 hn h6 hN) (xI_num hn h6 hN) rfl rfl (tw_lvl (by omega) (by decide)) ⟨Nat.le_of_ble_eq_true rfl, Nat.le_of_ble_eq_true rfl⟩ rfl hl.1 rfl (Nat.le_of_ble_eq_true rfl) dX6_work_85) hI (fun H locs hI => ?_)
  refine lv_goto (tgt := 108) hx hb dX6_work_88 (by decide) ?_
  refine lv_aload_n hx hb dX6_work_108 rfl (lv_at hl 2 rfl) ?_
  rw [act_2 ea, all_low (nlow_num hN), row_ln (thF0 hN)]
  exact tw_aret S hr (Or.inr ⟨_, rfl⟩) hlocks hI dX6_work_109

set_option maxHeartbeats 2000000 in
set_option maxRecDepth 100000 in
theorem c_X6_work_2one (l : Launch) (D : tw_G) (ad : Nat → Nat) (b : tw_W) (σ0 : Sg) (h : Int32) (Q : Nat → Int32) (sz : Nat) (n r d k B : Nat) (hP : passC l D ad b h Q n (r + 1)) (er : r + 1 + n = 8) (hV0 : INV σ0 B) (hB : B + (12 + 3 * cN n) < 2 ^ 62) (hr8 : r < 8) (hd4 : d < 4) (hc0 : d < dcS σ0 r) (hn0 : k < nS σ0) (h6 : k < 60) (ea0 : σ0.1 7 (4 * r + d) = 2) (hN0 : isNumK (σ0.1 1 k) = false) (hO0 : isOneK (σ0.1 1 k) = true) : Met l yX6_work (tw_w yX6_work cX6_work 4 (some (.object "MailRooms$Item"))) (tw_R (4 * n + 5) 0 0) (tw_Pc D ad (wX b σ0 h Q) sz [.ref (ad 0), .ref (ad (30 + (4 * r + d))), .ref (ad (100 + k)), .int (nI r)]) (tw_Q D ad (wX b ((actF (spF n (r + 1)) (4 * r + d) (wkF σ0 (4 * r + d)) k).2) h Q) (tw_A ad (wX b σ0 h Q) sz) (some (rfv ad (actF (spF n (r + 1)) (4 * r + d) (wkF σ0 (4 * r + d)) k).1))) 0 0 (tw_A ad (wX b σ0 h Q) sz) := by
  refine tw_met (by decide) rfl (by simp [lg_sl, Value.category]) (fun p e s m below meth c ls S hK hr hlocks hnm hsz hI hl => ?_)
  have hx := S.1
  have hb := S.2.1
  have hl : lv_has ls 4 [(0, .ref (ad 0)), (1, .ref (ad (30 + (4 * r + d)))), (2, .ref (ad (100 + k))), (3, .int (nI r))] := hl
  refine lv_aload_n hx hb dX6_work_0 rfl (lv_at hl 0 rfl) ?_
  refine lv_dup hx hb dX6_work_1 rfl ?_
  refine gx_28 S hK hI dX6_work_2 ?_
  refine lv_topi (fun x1 e1 => ?_)
  refine lv_iconst (v := 1) hx hb dX6_work_5 (by decide) ?_
  refine lv_iadd hx hb dX6_work_6 ?_
  refine lv_topi (fun x2 e2 => ?_)
  refine px_28 S hK hI dX6_work_7 (fun H locs hI => ?_)
  refine lv_aload_n hx hb dX6_work_10 rfl (lv_at hl 1 rfl) ?_
  refine lv_dup hx hb dX6_work_11 rfl ?_
  refine f6_156_0 S hK hI (wX_desk hr8 hd4 hc0) rfl (v' := .int (σ0.1 11 (4 * r + d))) rfl dX6_work_12 ?_
  refine lv_topi (fun x3 e3 => ?_)
  refine lv_iconst (v := 1) hx hb dX6_work_15 (by decide) ?_
  refine lv_iadd hx hb dX6_work_16 ?_
  refine lv_topi (fun x4 e4 => ?_)
  refine pd_156 (d := 4 * r + d) S hK hI (by omega) (deskC hd4 hc0) dX6_work_17 (fun H locs hI => ?_)
  subst e4
  subst e3
  subst e2
  subst e1
  have hI : tw_I D (tw_A ad (wX b σ0 h Q) sz) ad (wX b (wkF σ0 (4 * r + d)) h Q) s.heap H locs := by rw [wk_comm]; exact hI
  have hk := wk_Kp (d := 4 * r + d) hV0
  generalize wkF σ0 (4 * r + d) = σ at hI hk ⊢
  have hV := hk.1
  have hn : k < nS σ := by rw [hk.n]; exact hn0
  have hc : d < dcS σ r := by rw [hk.dc]; exact hc0
  have ea : σ.1 7 (4 * r + d) = 2 := by rw [hk.2 7 (by decide)]; exact ea0
  have hN : isNumK (σ.1 1 k) = false := by rw [hk.2 1 (by decide)]; exact hN0
  have hO : isOneK (σ.1 1 k) = true := by rw [hk.2 1 (by decide)]; exact hO0
  refine lv_aload_n hx hb dX6_work_20 rfl (lv_at hl 1 rfl) ?_
  refine f6_138_0 S hK hI (wX_desk hr8 hd4 hc) rfl (v' := .int (σ.1 7 (4 * r + d))) rfl dX6_work_21 ?_
  refine lv_eqi (v := 2) ea ?_
  refine lv_tableIn (off := 59) (tgt := 83) hx hb dX6_work_24 (by decide) (by decide) (by decide) (by decide) ?_
  refine lv_aload_n hx hb dX6_work_83 rfl (lv_at hl 2 rfl) ?_
  refine lv_iconst (v := 3) hx hb dX6_work_84 (by decide) ?_
  refine tw_callv (tw_rA (As := [.int 3]) (rest := []) S hK hI kX6_199_X3 (c_X3_grow l D ad _ _ _ _ _ _ _ hn h6 hN hO) (xI_one hn h6 hN hO) rfl rfl (tw_lvl (by omega) (by decide)) ⟨Nat.le_of_ble_eq_true rfl, Nat.le_of_ble_eq_true rfl⟩ rfl hl.1 rfl (Nat.le_of_ble_eq_true rfl) dX6_work_85) hI (fun H locs hI => ?_)
  refine lv_goto (tgt := 108) hx hb dX6_work_88 (by decide) ?_
  refine lv_aload_n hx hb dX6_work_108 rfl (lv_at hl 2 rfl) ?_
  rw [act_2 ea, all_low (nlow_one hO), row_ln (thF1 hO)]
  exact tw_aret S hr (Or.inr ⟨_, rfl⟩) hlocks hI dX6_work_109

set_option maxHeartbeats 2000000 in
set_option maxRecDepth 100000 in
theorem c_X6_work_2low (l : Launch) (D : tw_G) (ad : Nat → Nat) (b : tw_W) (σ0 : Sg) (h : Int32) (Q : Nat → Int32) (sz : Nat) (n r d k B : Nat) (hP : passC l D ad b h Q n (r + 1)) (er : r + 1 + n = 8) (hV0 : INV σ0 B) (hB : B + (12 + 3 * cN n) < 2 ^ 62) (hr8 : r < 8) (hd4 : d < 4) (hc0 : d < dcS σ0 r) (hn0 : k < nS σ0) (h6 : k < 60) (ea0 : σ0.1 7 (4 * r + d) = 2) (hN0 : isNumK (σ0.1 1 k) = false) (hO0 : isOneK (σ0.1 1 k) = false) (hlow0 : ¬ 11 ≤ σ0.1 1 k) : Met l yX6_work (tw_w yX6_work cX6_work 4 (some (.object "MailRooms$Item"))) (tw_R (4 * n + 5) 0 0) (tw_Pc D ad (wX b σ0 h Q) sz [.ref (ad 0), .ref (ad (30 + (4 * r + d))), .ref (ad (100 + k)), .int (nI r)]) (tw_Q D ad (wX b ((actF (spF n (r + 1)) (4 * r + d) (wkF σ0 (4 * r + d)) k).2) h Q) (tw_A ad (wX b σ0 h Q) sz) (some (rfv ad (actF (spF n (r + 1)) (4 * r + d) (wkF σ0 (4 * r + d)) k).1))) 0 0 (tw_A ad (wX b σ0 h Q) sz) := by
  refine tw_met (by decide) rfl (by simp [lg_sl, Value.category]) (fun p e s m below meth c ls S hK hr hlocks hnm hsz hI hl => ?_)
  have hx := S.1
  have hb := S.2.1
  have hl : lv_has ls 4 [(0, .ref (ad 0)), (1, .ref (ad (30 + (4 * r + d)))), (2, .ref (ad (100 + k))), (3, .int (nI r))] := hl
  refine lv_aload_n hx hb dX6_work_0 rfl (lv_at hl 0 rfl) ?_
  refine lv_dup hx hb dX6_work_1 rfl ?_
  refine gx_28 S hK hI dX6_work_2 ?_
  refine lv_topi (fun x1 e1 => ?_)
  refine lv_iconst (v := 1) hx hb dX6_work_5 (by decide) ?_
  refine lv_iadd hx hb dX6_work_6 ?_
  refine lv_topi (fun x2 e2 => ?_)
  refine px_28 S hK hI dX6_work_7 (fun H locs hI => ?_)
  refine lv_aload_n hx hb dX6_work_10 rfl (lv_at hl 1 rfl) ?_
  refine lv_dup hx hb dX6_work_11 rfl ?_
  refine f6_156_0 S hK hI (wX_desk hr8 hd4 hc0) rfl (v' := .int (σ0.1 11 (4 * r + d))) rfl dX6_work_12 ?_
  refine lv_topi (fun x3 e3 => ?_)
  refine lv_iconst (v := 1) hx hb dX6_work_15 (by decide) ?_
  refine lv_iadd hx hb dX6_work_16 ?_
  refine lv_topi (fun x4 e4 => ?_)
  refine pd_156 (d := 4 * r + d) S hK hI (by omega) (deskC hd4 hc0) dX6_work_17 (fun H locs hI => ?_)
  subst e4
  subst e3
  subst e2
  subst e1
  have hI : tw_I D (tw_A ad (wX b σ0 h Q) sz) ad (wX b (wkF σ0 (4 * r + d)) h Q) s.heap H locs := by rw [wk_comm]; exact hI
  have hk := wk_Kp (d := 4 * r + d) hV0
  generalize wkF σ0 (4 * r + d) = σ at hI hk ⊢
  have hV := hk.1
  have hn : k < nS σ := by rw [hk.n]; exact hn0
  have hc : d < dcS σ r := by rw [hk.dc]; exact hc0
  have ea : σ.1 7 (4 * r + d) = 2 := by rw [hk.2 7 (by decide)]; exact ea0
  have hN : isNumK (σ.1 1 k) = false := by rw [hk.2 1 (by decide)]; exact hN0
  have hO : isOneK (σ.1 1 k) = false := by rw [hk.2 1 (by decide)]; exact hO0
  have hlow : ¬ 11 ≤ σ.1 1 k := by rw [hk.2 1 (by decide)]; exact hlow0
  refine lv_aload_n hx hb dX6_work_20 rfl (lv_at hl 1 rfl) ?_
  refine f6_138_0 S hK hI (wX_desk hr8 hd4 hc) rfl (v' := .int (σ.1 7 (4 * r + d))) rfl dX6_work_21 ?_
  refine lv_eqi (v := 2) ea ?_
  refine lv_tableIn (off := 59) (tgt := 83) hx hb dX6_work_24 (by decide) (by decide) (by decide) (by decide) ?_
  refine lv_aload_n hx hb dX6_work_83 rfl (lv_at hl 2 rfl) ?_
  refine lv_iconst (v := 3) hx hb dX6_work_84 (by decide) ?_
  refine tw_callv (tw_rA (As := [.int 3]) (rest := []) S hK hI kX6_199_X5 (c_X5_grow_low l D ad _ _ _ _ _ _ _ _ hV (by omega) (by decide) hn h6 hN hO hlow) (xI_th hn h6 hN hO) rfl rfl (tw_lvl (by omega) (by decide)) ⟨Nat.le_of_ble_eq_true rfl, Nat.le_of_ble_eq_true rfl⟩ rfl hl.1 rfl (Nat.le_of_ble_eq_true rfl) dX6_work_85) hI (fun H locs hI => ?_)
  refine lv_goto (tgt := 108) hx hb dX6_work_88 (by decide) ?_
  refine lv_aload_n hx hb dX6_work_108 rfl (lv_at hl 2 rfl) ?_
  rw [act_2 ea, all_low hlow]
  exact tw_aret S hr (Or.inr ⟨_, rfl⟩) hlocks hI dX6_work_109

set_option maxHeartbeats 2000000 in
set_option maxRecDepth 100000 in
theorem c_X6_work_2alb (l : Launch) (D : tw_G) (ad : Nat → Nat) (b : tw_W) (σ0 : Sg) (h : Int32) (Q : Nat → Int32) (sz : Nat) (n r d k B : Nat) (hP : passC l D ad b h Q n (r + 1)) (er : r + 1 + n = 8) (hV0 : INV σ0 B) (hB : B + (12 + 3 * cN n) < 2 ^ 62) (hr8 : r < 8) (hd4 : d < 4) (hc0 : d < dcS σ0 r) (hn0 : k < nS σ0) (h6 : k < 60) (ea0 : σ0.1 7 (4 * r + d) = 2) (hN0 : isNumK (σ0.1 1 k) = false) (hO0 : isOneK (σ0.1 1 k) = false) (hlow0 : 11 ≤ σ0.1 1 k) : Met l yX6_work (tw_w yX6_work cX6_work 4 (some (.object "MailRooms$Item"))) (tw_R (4 * n + 5) 0 0) (tw_Pc D ad (wX b σ0 h Q) sz [.ref (ad 0), .ref (ad (30 + (4 * r + d))), .ref (ad (100 + k)), .int (nI r)]) (tw_Q D ad (wX b ((actF (spF n (r + 1)) (4 * r + d) (wkF σ0 (4 * r + d)) k).2) h Q) (tw_A ad (wX b σ0 h Q) sz) (some (rfv ad (actF (spF n (r + 1)) (4 * r + d) (wkF σ0 (4 * r + d)) k).1))) 0 0 (tw_A ad (wX b σ0 h Q) sz) := by
  refine tw_met (by decide) rfl (by simp [lg_sl, Value.category]) (fun p e s m below meth c ls S hK hr hlocks hnm hsz hI hl => ?_)
  have hx := S.1
  have hb := S.2.1
  have hl : lv_has ls 4 [(0, .ref (ad 0)), (1, .ref (ad (30 + (4 * r + d)))), (2, .ref (ad (100 + k))), (3, .int (nI r))] := hl
  refine lv_aload_n hx hb dX6_work_0 rfl (lv_at hl 0 rfl) ?_
  refine lv_dup hx hb dX6_work_1 rfl ?_
  refine gx_28 S hK hI dX6_work_2 ?_
  refine lv_topi (fun x1 e1 => ?_)
  refine lv_iconst (v := 1) hx hb dX6_work_5 (by decide) ?_
  refine lv_iadd hx hb dX6_work_6 ?_
  refine lv_topi (fun x2 e2 => ?_)
  refine px_28 S hK hI dX6_work_7 (fun H locs hI => ?_)
  refine lv_aload_n hx hb dX6_work_10 rfl (lv_at hl 1 rfl) ?_
  refine lv_dup hx hb dX6_work_11 rfl ?_
  refine f6_156_0 S hK hI (wX_desk hr8 hd4 hc0) rfl (v' := .int (σ0.1 11 (4 * r + d))) rfl dX6_work_12 ?_
  refine lv_topi (fun x3 e3 => ?_)
  refine lv_iconst (v := 1) hx hb dX6_work_15 (by decide) ?_
  refine lv_iadd hx hb dX6_work_16 ?_
  refine lv_topi (fun x4 e4 => ?_)
  refine pd_156 (d := 4 * r + d) S hK hI (by omega) (deskC hd4 hc0) dX6_work_17 (fun H locs hI => ?_)
  subst e4
  subst e3
  subst e2
  subst e1
  have hI : tw_I D (tw_A ad (wX b σ0 h Q) sz) ad (wX b (wkF σ0 (4 * r + d)) h Q) s.heap H locs := by rw [wk_comm]; exact hI
  have hk := wk_Kp (d := 4 * r + d) hV0
  generalize wkF σ0 (4 * r + d) = σ at hI hk ⊢
  have hV := hk.1
  have hn : k < nS σ := by rw [hk.n]; exact hn0
  have hc : d < dcS σ r := by rw [hk.dc]; exact hc0
  have ea : σ.1 7 (4 * r + d) = 2 := by rw [hk.2 7 (by decide)]; exact ea0
  have hN : isNumK (σ.1 1 k) = false := by rw [hk.2 1 (by decide)]; exact hN0
  have hO : isOneK (σ.1 1 k) = false := by rw [hk.2 1 (by decide)]; exact hO0
  have hlow : 11 ≤ σ.1 1 k := by rw [hk.2 1 (by decide)]; exact hlow0
  refine lv_aload_n hx hb dX6_work_20 rfl (lv_at hl 1 rfl) ?_
  refine f6_138_0 S hK hI (wX_desk hr8 hd4 hc) rfl (v' := .int (σ.1 7 (4 * r + d))) rfl dX6_work_21 ?_
  refine lv_eqi (v := 2) ea ?_
  refine lv_tableIn (off := 59) (tgt := 83) hx hb dX6_work_24 (by decide) (by decide) (by decide) (by decide) ?_
  refine lv_aload_n hx hb dX6_work_83 rfl (lv_at hl 2 rfl) ?_
  refine lv_iconst (v := 3) hx hb dX6_work_84 (by decide) ?_
  refine tw_callv (tw_rA (As := [.int 3]) (rest := []) S hK hI kX6_199_X5 (c_X5_grow_alb l D ad _ _ _ _ _ _ _ hV (by omega) hn h6 hN hO hlow) (xI_th hn h6 hN hO) rfl rfl (tw_lvl (by omega) (by decide)) ⟨Nat.le_of_ble_eq_true rfl, Nat.le_of_ble_eq_true rfl⟩ rfl hl.1 rfl (Nat.le_of_ble_eq_true rfl) dX6_work_85) hI (fun H locs hI => ?_)
  refine lv_goto (tgt := 108) hx hb dX6_work_88 (by decide) ?_
  refine lv_aload_n hx hb dX6_work_108 rfl (lv_at hl 2 rfl) ?_
  rw [act_2 ea]
  exact tw_aret S hr (Or.inr ⟨_, rfl⟩) hlocks hI dX6_work_109

set_option maxHeartbeats 2000000 in
set_option maxRecDepth 100000 in
theorem c_X6_work_3 (l : Launch) (D : tw_G) (ad : Nat → Nat) (b : tw_W) (σ0 : Sg) (h : Int32) (Q : Nat → Int32) (sz : Nat) (n r d k B : Nat) (hP : passC l D ad b h Q n (r + 1)) (er : r + 1 + n = 8) (hV0 : INV σ0 B) (hB : B + (12 + 3 * cN n) < 2 ^ 62) (hr8 : r < 8) (hd4 : d < 4) (hc0 : d < dcS σ0 r) (hn0 : k < nS σ0) (h6 : k < 60) (ea0 : σ0.1 7 (4 * r + d) = 3) : Met l yX6_work (tw_w yX6_work cX6_work 4 (some (.object "MailRooms$Item"))) (tw_R (4 * n + 5) 0 0) (tw_Pc D ad (wX b σ0 h Q) sz [.ref (ad 0), .ref (ad (30 + (4 * r + d))), .ref (ad (100 + k)), .int (nI r)]) (tw_Q D ad (wX b ((actF (spF n (r + 1)) (4 * r + d) (wkF σ0 (4 * r + d)) k).2) h Q) (tw_A ad (wX b σ0 h Q) sz) (some (rfv ad (actF (spF n (r + 1)) (4 * r + d) (wkF σ0 (4 * r + d)) k).1))) 0 0 (tw_A ad (wX b σ0 h Q) sz) := by
  refine tw_met (by decide) rfl (by simp [lg_sl, Value.category]) (fun p e s m below meth c ls S hK hr hlocks hnm hsz hI hl => ?_)
  have hx := S.1
  have hb := S.2.1
  have hl : lv_has ls 4 [(0, .ref (ad 0)), (1, .ref (ad (30 + (4 * r + d)))), (2, .ref (ad (100 + k))), (3, .int (nI r))] := hl
  refine lv_aload_n hx hb dX6_work_0 rfl (lv_at hl 0 rfl) ?_
  refine lv_dup hx hb dX6_work_1 rfl ?_
  refine gx_28 S hK hI dX6_work_2 ?_
  refine lv_topi (fun x1 e1 => ?_)
  refine lv_iconst (v := 1) hx hb dX6_work_5 (by decide) ?_
  refine lv_iadd hx hb dX6_work_6 ?_
  refine lv_topi (fun x2 e2 => ?_)
  refine px_28 S hK hI dX6_work_7 (fun H locs hI => ?_)
  refine lv_aload_n hx hb dX6_work_10 rfl (lv_at hl 1 rfl) ?_
  refine lv_dup hx hb dX6_work_11 rfl ?_
  refine f6_156_0 S hK hI (wX_desk hr8 hd4 hc0) rfl (v' := .int (σ0.1 11 (4 * r + d))) rfl dX6_work_12 ?_
  refine lv_topi (fun x3 e3 => ?_)
  refine lv_iconst (v := 1) hx hb dX6_work_15 (by decide) ?_
  refine lv_iadd hx hb dX6_work_16 ?_
  refine lv_topi (fun x4 e4 => ?_)
  refine pd_156 (d := 4 * r + d) S hK hI (by omega) (deskC hd4 hc0) dX6_work_17 (fun H locs hI => ?_)
  subst e4
  subst e3
  subst e2
  subst e1
  have hI : tw_I D (tw_A ad (wX b σ0 h Q) sz) ad (wX b (wkF σ0 (4 * r + d)) h Q) s.heap H locs := by rw [wk_comm]; exact hI
  have hk := wk_Kp (d := 4 * r + d) hV0
  generalize wkF σ0 (4 * r + d) = σ at hI hk ⊢
  have hV := hk.1
  have hn : k < nS σ := by rw [hk.n]; exact hn0
  have hc : d < dcS σ r := by rw [hk.dc]; exact hc0
  have ea : σ.1 7 (4 * r + d) = 3 := by rw [hk.2 7 (by decide)]; exact ea0
  refine lv_aload_n hx hb dX6_work_20 rfl (lv_at hl 1 rfl) ?_
  refine f6_138_0 S hK hI (wX_desk hr8 hd4 hc) rfl (v' := .int (σ.1 7 (4 * r + d))) rfl dX6_work_21 ?_
  refine lv_eqi (v := 3) ea ?_
  refine lv_tableIn (off := 67) (tgt := 91) hx hb dX6_work_24 (by decide) (by decide) (by decide) (by decide) ?_
  refine lv_aload_n hx hb dX6_work_91 rfl (lv_at hl 0 rfl) ?_
  refine lv_aload_n hx hb dX6_work_92 rfl (lv_at hl 2 rfl) ?_
  refine lv_iload_n hx hb dX6_work_93 rfl (lv_at hl 3 rfl) ?_
  refine lv_iconst (v := 1) hx hb dX6_work_94 (by decide) ?_
  refine lv_iadd hx hb dX6_work_95 ?_
  refine lv_eqi (v := (nI (r + 1))) (nA (a := r) (b := 1) (c := r + 1) (by omega)) ?_
  refine tw_callv (tw_rV (As := [.ref (ad (100 + k)), .int (nI (r + 1))]) (rest := []) S hK hI kX6_203 (c_X6_split l D ad _ _ _ _ _ _ _ _ _ hP er hV (by omega) hn h6) wX_0 rfl rfl (tw_lvl (by omega) (by decide)) ⟨Nat.le_of_ble_eq_true rfl, Nat.le_of_ble_eq_true rfl⟩ rfl hl.1 rfl (Nat.le_of_ble_eq_true rfl) dX6_work_96) hI (fun H locs hI => ?_)
  refine lv_goto (tgt := 108) hx hb dX6_work_99 (by decide) ?_
  refine lv_aload_n hx hb dX6_work_108 rfl (lv_at hl 2 rfl) ?_
  rw [act_3 ea]
  exact tw_aret S hr (Or.inr ⟨_, rfl⟩) hlocks hI dX6_work_109

set_option maxHeartbeats 2000000 in
set_option maxRecDepth 100000 in
theorem c_X6_work_4 (l : Launch) (D : tw_G) (ad : Nat → Nat) (b : tw_W) (σ0 : Sg) (h : Int32) (Q : Nat → Int32) (sz : Nat) (n r d k B : Nat) (hP : passC l D ad b h Q n (r + 1)) (er : r + 1 + n = 8) (hV0 : INV σ0 B) (hB : B + (12 + 3 * cN n) < 2 ^ 62) (hr8 : r < 8) (hd4 : d < 4) (hc0 : d < dcS σ0 r) (hn0 : k < nS σ0) (h6 : k < 60) (ea0 : σ0.1 7 (4 * r + d) = 4) : Met l yX6_work (tw_w yX6_work cX6_work 4 (some (.object "MailRooms$Item"))) (tw_R (4 * n + 5) 0 0) (tw_Pc D ad (wX b σ0 h Q) sz [.ref (ad 0), .ref (ad (30 + (4 * r + d))), .ref (ad (100 + k)), .int (nI r)]) (tw_Q D ad (wX b ((actF (spF n (r + 1)) (4 * r + d) (wkF σ0 (4 * r + d)) k).2) h Q) (tw_A ad (wX b σ0 h Q) sz) (some (rfv ad (actF (spF n (r + 1)) (4 * r + d) (wkF σ0 (4 * r + d)) k).1))) 0 0 (tw_A ad (wX b σ0 h Q) sz) := by
  refine tw_met (by decide) rfl (by simp [lg_sl, Value.category]) (fun p e s m below meth c ls S hK hr hlocks hnm hsz hI hl => ?_)
  have hx := S.1
  have hb := S.2.1
  have hl : lv_has ls 4 [(0, .ref (ad 0)), (1, .ref (ad (30 + (4 * r + d)))), (2, .ref (ad (100 + k))), (3, .int (nI r))] := hl
  refine lv_aload_n hx hb dX6_work_0 rfl (lv_at hl 0 rfl) ?_
  refine lv_dup hx hb dX6_work_1 rfl ?_
  refine gx_28 S hK hI dX6_work_2 ?_
  refine lv_topi (fun x1 e1 => ?_)
  refine lv_iconst (v := 1) hx hb dX6_work_5 (by decide) ?_
  refine lv_iadd hx hb dX6_work_6 ?_
  refine lv_topi (fun x2 e2 => ?_)
  refine px_28 S hK hI dX6_work_7 (fun H locs hI => ?_)
  refine lv_aload_n hx hb dX6_work_10 rfl (lv_at hl 1 rfl) ?_
  refine lv_dup hx hb dX6_work_11 rfl ?_
  refine f6_156_0 S hK hI (wX_desk hr8 hd4 hc0) rfl (v' := .int (σ0.1 11 (4 * r + d))) rfl dX6_work_12 ?_
  refine lv_topi (fun x3 e3 => ?_)
  refine lv_iconst (v := 1) hx hb dX6_work_15 (by decide) ?_
  refine lv_iadd hx hb dX6_work_16 ?_
  refine lv_topi (fun x4 e4 => ?_)
  refine pd_156 (d := 4 * r + d) S hK hI (by omega) (deskC hd4 hc0) dX6_work_17 (fun H locs hI => ?_)
  subst e4
  subst e3
  subst e2
  subst e1
  have hI : tw_I D (tw_A ad (wX b σ0 h Q) sz) ad (wX b (wkF σ0 (4 * r + d)) h Q) s.heap H locs := by rw [wk_comm]; exact hI
  have hk := wk_Kp (d := 4 * r + d) hV0
  generalize wkF σ0 (4 * r + d) = σ at hI hk ⊢
  have hV := hk.1
  have hn : k < nS σ := by rw [hk.n]; exact hn0
  have hc : d < dcS σ r := by rw [hk.dc]; exact hc0
  have ea : σ.1 7 (4 * r + d) = 4 := by rw [hk.2 7 (by decide)]; exact ea0
  refine lv_aload_n hx hb dX6_work_20 rfl (lv_at hl 1 rfl) ?_
  refine f6_138_0 S hK hI (wX_desk hr8 hd4 hc) rfl (v' := .int (σ.1 7 (4 * r + d))) rfl dX6_work_21 ?_
  refine lv_eqi (v := 4) ea ?_
  refine lv_tableIn (off := 78) (tgt := 102) hx hb dX6_work_24 (by decide) (by decide) (by decide) (by decide) ?_
  refine lv_aload_n hx hb dX6_work_102 rfl (lv_at hl 1 rfl) ?_
  refine lv_aload_n hx hb dX6_work_103 rfl (lv_at hl 2 rfl) ?_
  refine tw_calla (tw_rVN (As := [.ref (ad (100 + k))]) (rest := []) S hK hI kX6_206 (c_X0_exchange l D ad _ _ _ _ _ _ _ _ hr8 hd4 hc h6) (wX_desk hr8 hd4 hc) rfl rfl (tw_lvl (by omega) (by decide)) ⟨Nat.le_of_ble_eq_true rfl, Nat.le_of_ble_eq_true rfl⟩ rfl hl.1 rfl (Nat.le_of_ble_eq_true rfl) dX6_work_104) hI (fun H locs hI => ?_)
  rw [act_4 ea]
  exact tw_aret S hr rfv_or hlocks hI dX6_work_107

theorem c_X6_work (l : Launch) (D : tw_G) (ad : Nat → Nat) (b : tw_W) (σ : Sg) (h : Int32) (Q : Nat → Int32) (sz : Nat) (n r d k B : Nat) (hP : passC l D ad b h Q n (r + 1)) (er : r + 1 + n = 8) (hV : INV σ B) (hB : B + (12 + 3 * cN n) < 2 ^ 62) (hr8 : r < 8) (hd4 : d < 4) (hc : d < dcS σ r) (hn : k < nS σ) (h6 : k < 60) : Met l yX6_work (tw_w yX6_work cX6_work 4 (some (.object "MailRooms$Item"))) (tw_R (4 * n + 5) 0 0) (tw_Pc D ad (wX b σ h Q) sz [.ref (ad 0), .ref (ad (30 + (4 * r + d))), .ref (ad (100 + k)), .int (nI r)]) (tw_Q D ad (wX b ((actF (spF n (r + 1)) (4 * r + d) (wkF σ (4 * r + d)) k).2) h Q) (tw_A ad (wX b σ h Q) sz) (some (rfv ad (actF (spF n (r + 1)) (4 * r + d) (wkF σ (4 * r + d)) k).1))) 0 0 (tw_A ad (wX b σ h Q) sz) := by
  obtain ⟨a, ha, ea⟩ := (hV.2.2.2.1 r d hr8 hc).2.2.2.1
  rcases (show a = 0 ∨ a = 1 ∨ a = 2 ∨ a = 3 ∨ a = 4 by omega) with rfl | rfl | rfl | rfl | rfl
  ·
    cases hN : isNumK (σ.1 1 k) with
    | true => exact c_X6_work_0num l D ad b σ h Q sz n r d k B hP er hV hB hr8 hd4 hc hn h6 ea hN
    | false =>
      cases hO : isOneK (σ.1 1 k) with
      | true => exact c_X6_work_0one l D ad b σ h Q sz n r d k B hP er hV hB hr8 hd4 hc hn h6 ea hN hO
      | false => exact c_X6_work_0th l D ad b σ h Q sz n r d k B hP er hV hB hr8 hd4 hc hn h6 ea hN hO
  ·
    cases hN : isNumK (σ.1 1 k) with
    | true => exact c_X6_work_1num l D ad b σ h Q sz n r d k B hP er hV hB hr8 hd4 hc hn h6 ea hN
    | false =>
      cases hO : isOneK (σ.1 1 k) with
      | true => exact c_X6_work_1one l D ad b σ h Q sz n r d k B hP er hV hB hr8 hd4 hc hn h6 ea hN hO
      | false => exact c_X6_work_1th l D ad b σ h Q sz n r d k B hP er hV hB hr8 hd4 hc hn h6 ea hN hO
  ·
    cases hN : isNumK (σ.1 1 k) with
    | true => exact c_X6_work_2num l D ad b σ h Q sz n r d k B hP er hV hB hr8 hd4 hc hn h6 ea hN
    | false =>
      cases hO : isOneK (σ.1 1 k) with
      | true => exact c_X6_work_2one l D ad b σ h Q sz n r d k B hP er hV hB hr8 hd4 hc hn h6 ea hN hO
      | false =>
        by_cases hlow : 11 ≤ σ.1 1 k
        · exact c_X6_work_2alb l D ad b σ h Q sz n r d k B hP er hV hB hr8 hd4 hc hn h6 ea hN hO hlow
        · exact c_X6_work_2low l D ad b σ h Q sz n r d k B hP er hV hB hr8 hd4 hc hn h6 ea hN hO hlow
  · exact c_X6_work_3 l D ad b σ h Q sz n r d k B hP er hV hB hr8 hd4 hc hn h6 ea
  · exact c_X6_work_4 l D ad b σ h Q sz n r d k B hP er hV hB hr8 hd4 hc hn h6 ea
set_option maxHeartbeats 2000000 in
set_option maxRecDepth 100000 in
theorem c_X6_meet_work_num (l : Launch) (D : tw_G) (ad : Nat → Nat) (b : tw_W) (σ : Sg) (h : Int32) (Q : Nat → Int32) (sz : Nat) (n r d k B : Nat) (hP : passC l D ad b h Q n (r + 1)) (er : r + 1 + n = 8) (hV : INV σ B) (hB : B + (12 + 3 * cN n) < 2 ^ 62) (hr8 : r < 8) (hd4 : d < 4) (hc : d < dcS σ r) (hn : k < nS σ) (h6 : k < 60) (hN : isNumK (σ.1 1 k) = true) (hi : ¬ isOfX (σ.1 1 k) (σ.1 6 (4 * r + d)) = 0) : Met l yX6_meet (tw_w yX6_meet cX6_meet 4 (some (.object "MailRooms$Item"))) (tw_R (4 * n + 6) 0 0) (tw_Pc D ad (wX b σ h Q) sz [.ref (ad 0), .ref (ad (30 + (4 * r + d))), .ref (ad (100 + k)), .int (nI r)]) (tw_Q D ad (wX b ((meetF (spF n (r + 1)) (4 * r + d) σ k).2) h Q) (tw_A ad (wX b σ h Q) sz) (some (rfv ad (meetF (spF n (r + 1)) (4 * r + d) σ k).1))) 0 0 (tw_A ad (wX b σ h Q) sz) := by
  refine tw_met (by decide) rfl (by simp [lg_sl, Value.category]) (fun p e s m below meth c ls S hK hr hlocks hnm hsz hI hl => ?_)
  have hx := S.1
  have hb := S.2.1
  have hl : lv_has ls 4 [(0, .ref (ad 0)), (1, .ref (ad (30 + (4 * r + d)))), (2, .ref (ad (100 + k))), (3, .int (nI r))] := hl
  refine lv_aload_n hx hb dX6_meet_0 rfl (lv_at hl 2 rfl) ?_
  refine lv_aload_n hx hb dX6_meet_1 rfl (lv_at hl 1 rfl) ?_
  refine f6_135_0 S hK hI (wX_desk hr8 hd4 hc) rfl (v' := .int (σ.1 6 (4 * r + d))) rfl dX6_meet_2 ?_
  refine tw_calli (tw_rU (As := [.int (σ.1 6 (4 * r + d))]) (rest := []) S hK hI kX6_104_X2 (c_X1_isOf l D ad _ _ _ _ _ _ _ hn h6) (xI_num hn h6 hN) rfl rfl (tw_lvl (by omega) (by decide)) ⟨Nat.le_of_ble_eq_true rfl, Nat.le_of_ble_eq_true rfl⟩ rfl hl.1 rfl (Nat.le_of_ble_eq_true rfl) dX6_meet_5) hI (fun H locs hI => ?_)
  refine lv_topi (fun x1 e1 => ?_)
  refine lv_if_eq (tgt := 19) hx hb dX6_meet_8 (by decide) (fun c2 => ?_) (fun c2 => ?_)
  · exact (by subst e1; exact absurd c2 hi)
  · refine lv_aload_n hx hb dX6_meet_11 rfl (lv_at hl 0 rfl) ?_
    refine lv_aload_n hx hb dX6_meet_12 rfl (lv_at hl 1 rfl) ?_
    refine lv_aload_n hx hb dX6_meet_13 rfl (lv_at hl 2 rfl) ?_
    refine lv_iload_n hx hb dX6_meet_14 rfl (lv_at hl 3 rfl) ?_
    refine tw_calla (tw_rV (As := [.ref (ad (30 + (4 * r + d))), .ref (ad (100 + k)), .int (nI r)]) (rest := []) S hK hI kX6_182 (c_X6_work l D ad _ _ _ _ _ _ _ _ _ _ hP er hV hB hr8 hd4 hc hn h6) wX_0 rfl rfl (tw_lvl (by omega) (by decide)) ⟨Nat.le_of_ble_eq_true rfl, Nat.le_of_ble_eq_true rfl⟩ rfl hl.1 rfl (Nat.le_of_ble_eq_true rfl) dX6_meet_15) hI (fun H locs hI => ?_)
    subst e1
    rw [meet_work (by rw [← isOf_d hV hr8 hc hn]; exact hi)]
    try rw [if_neg hi]
    exact tw_aret S hr rfv_or hlocks hI dX6_meet_18

set_option maxHeartbeats 2000000 in
set_option maxRecDepth 100000 in
theorem c_X6_meet_asks_num (l : Launch) (D : tw_G) (ad : Nat → Nat) (b : tw_W) (σ : Sg) (h : Int32) (Q : Nat → Int32) (sz : Nat) (n r d k B : Nat) (hP : passC l D ad b h Q n (r + 1)) (er : r + 1 + n = 8) (hV : INV σ B) (hB : B + (12 + 3 * cN n) < 2 ^ 62) (hr8 : r < 8) (hd4 : d < 4) (hc : d < dcS σ r) (hn : k < nS σ) (h6 : k < 60) (hN : isNumK (σ.1 1 k) = true) (hi : isOfX (σ.1 1 k) (σ.1 6 (4 * r + d)) = 0) (h8 : σ.1 8 (4 * r + d) = 1) : Met l yX6_meet (tw_w yX6_meet cX6_meet 4 (some (.object "MailRooms$Item"))) (tw_R (4 * n + 6) 0 0) (tw_Pc D ad (wX b σ h Q) sz [.ref (ad 0), .ref (ad (30 + (4 * r + d))), .ref (ad (100 + k)), .int (nI r)]) (tw_Q D ad (wX b ((meetF (spF n (r + 1)) (4 * r + d) σ k).2) h Q) (tw_A ad (wX b σ h Q) sz) (some (rfv ad (meetF (spF n (r + 1)) (4 * r + d) σ k).1))) 0 0 (tw_A ad (wX b σ h Q) sz) := by
  refine tw_met (by decide) rfl (by simp [lg_sl, Value.category]) (fun p e s m below meth c ls S hK hr hlocks hnm hsz hI hl => ?_)
  have hx := S.1
  have hb := S.2.1
  have hl : lv_has ls 4 [(0, .ref (ad 0)), (1, .ref (ad (30 + (4 * r + d)))), (2, .ref (ad (100 + k))), (3, .int (nI r))] := hl
  refine lv_aload_n hx hb dX6_meet_0 rfl (lv_at hl 2 rfl) ?_
  refine lv_aload_n hx hb dX6_meet_1 rfl (lv_at hl 1 rfl) ?_
  refine f6_135_0 S hK hI (wX_desk hr8 hd4 hc) rfl (v' := .int (σ.1 6 (4 * r + d))) rfl dX6_meet_2 ?_
  refine tw_calli (tw_rU (As := [.int (σ.1 6 (4 * r + d))]) (rest := []) S hK hI kX6_104_X2 (c_X1_isOf l D ad _ _ _ _ _ _ _ hn h6) (xI_num hn h6 hN) rfl rfl (tw_lvl (by omega) (by decide)) ⟨Nat.le_of_ble_eq_true rfl, Nat.le_of_ble_eq_true rfl⟩ rfl hl.1 rfl (Nat.le_of_ble_eq_true rfl) dX6_meet_5) hI (fun H locs hI => ?_)
  refine lv_topi (fun x1 e1 => ?_)
  refine lv_if_eq (tgt := 19) hx hb dX6_meet_8 (by decide) (fun c2 => ?_) (fun c2 => ?_)
  · refine lv_aload_n hx hb dX6_meet_19 rfl (lv_at hl 1 rfl) ?_
    refine f6_141_0 S hK hI (wX_desk hr8 hd4 hc) rfl (v' := .int (σ.1 8 (4 * r + d))) rfl dX6_meet_20 ?_
    refine lv_eqi (v := 1) h8 ?_
    refine lv_if_ne (tgt := 37) hx hb dX6_meet_23 (by decide) (fun c3 => ?_) (fun c3 => ?_)
    · refine lv_aload_n hx hb dX6_meet_37 rfl (lv_at hl 2 rfl) ?_
      subst e1
      rw [meet_asks (by rw [← isOf_d hV hr8 hc hn]; exact hi) h8]
      try rw [if_pos hi]
      try rw [if_neg (show ¬ (1 : Int32) = 0 from by decide)]
      exact tw_aret S hr (Or.inr ⟨_, rfl⟩) hlocks hI dX6_meet_38
    · exact absurd c3 (by decide)
  · exact (by subst e1; exact absurd hi c2)

set_option maxHeartbeats 2000000 in
set_option maxRecDepth 100000 in
theorem c_X6_meet_gave_num (l : Launch) (D : tw_G) (ad : Nat → Nat) (b : tw_W) (σ : Sg) (h : Int32) (Q : Nat → Int32) (sz : Nat) (n r d k B : Nat) (hP : passC l D ad b h Q n (r + 1)) (er : r + 1 + n = 8) (hV : INV σ B) (hB : B + (12 + 3 * cN n) < 2 ^ 62) (hr8 : r < 8) (hd4 : d < 4) (hc : d < dcS σ r) (hn : k < nS σ) (h6 : k < 60) (hN : isNumK (σ.1 1 k) = true) (hi : isOfX (σ.1 1 k) (σ.1 6 (4 * r + d)) = 0) (h8 : σ.1 8 (4 * r + d) = 0) (h14 : σ.1 14 (4 * r + d) = 1) : Met l yX6_meet (tw_w yX6_meet cX6_meet 4 (some (.object "MailRooms$Item"))) (tw_R (4 * n + 6) 0 0) (tw_Pc D ad (wX b σ h Q) sz [.ref (ad 0), .ref (ad (30 + (4 * r + d))), .ref (ad (100 + k)), .int (nI r)]) (tw_Q D ad (wX b ((meetF (spF n (r + 1)) (4 * r + d) σ k).2) h Q) (tw_A ad (wX b σ h Q) sz) (some (rfv ad (meetF (spF n (r + 1)) (4 * r + d) σ k).1))) 0 0 (tw_A ad (wX b σ h Q) sz) := by
  refine tw_met (by decide) rfl (by simp [lg_sl, Value.category]) (fun p e s m below meth c ls S hK hr hlocks hnm hsz hI hl => ?_)
  have hx := S.1
  have hb := S.2.1
  have hl : lv_has ls 4 [(0, .ref (ad 0)), (1, .ref (ad (30 + (4 * r + d)))), (2, .ref (ad (100 + k))), (3, .int (nI r))] := hl
  refine lv_aload_n hx hb dX6_meet_0 rfl (lv_at hl 2 rfl) ?_
  refine lv_aload_n hx hb dX6_meet_1 rfl (lv_at hl 1 rfl) ?_
  refine f6_135_0 S hK hI (wX_desk hr8 hd4 hc) rfl (v' := .int (σ.1 6 (4 * r + d))) rfl dX6_meet_2 ?_
  refine tw_calli (tw_rU (As := [.int (σ.1 6 (4 * r + d))]) (rest := []) S hK hI kX6_104_X2 (c_X1_isOf l D ad _ _ _ _ _ _ _ hn h6) (xI_num hn h6 hN) rfl rfl (tw_lvl (by omega) (by decide)) ⟨Nat.le_of_ble_eq_true rfl, Nat.le_of_ble_eq_true rfl⟩ rfl hl.1 rfl (Nat.le_of_ble_eq_true rfl) dX6_meet_5) hI (fun H locs hI => ?_)
  refine lv_topi (fun x1 e1 => ?_)
  refine lv_if_eq (tgt := 19) hx hb dX6_meet_8 (by decide) (fun c2 => ?_) (fun c2 => ?_)
  · refine lv_aload_n hx hb dX6_meet_19 rfl (lv_at hl 1 rfl) ?_
    refine f6_141_0 S hK hI (wX_desk hr8 hd4 hc) rfl (v' := .int (σ.1 8 (4 * r + d))) rfl dX6_meet_20 ?_
    refine lv_eqi (v := 0) h8 ?_
    refine lv_if_ne (tgt := 37) hx hb dX6_meet_23 (by decide) (fun c3 => ?_) (fun c3 => ?_)
    · exact absurd c3 (by decide)
    · refine lv_aload_n hx hb dX6_meet_26 rfl (lv_at hl 1 rfl) ?_
      refine f6_185_0 S hK hI (wX_desk hr8 hd4 hc) rfl (v' := .int (xAsk σ h Q (4 * r + d))) rfl dX6_meet_27 ?_
      refine lv_eqi (v := h) (by unfold xAsk; rw [if_pos h14]) ?_
      refine lv_aload_n hx hb dX6_meet_30 rfl (lv_at hl 0 rfl) ?_
      refine gx_25 S hK hI dX6_meet_31 ?_
      refine lv_icmp_ne (tgt := 39) hx hb dX6_meet_34 (by decide) (fun c4 => ?_) (fun c4 => ?_)
      · exact absurd rfl c4
      · refine lv_aload_n hx hb dX6_meet_37 rfl (lv_at hl 2 rfl) ?_
        subst e1
        rw [meet_gave (by rw [← isOf_d hV hr8 hc hn]; exact hi) h8 h14]
        try rw [if_pos hi]
        try rw [if_pos (show (0 : Int32) = 0 from by decide)]
        exact tw_aret S hr (Or.inr ⟨_, rfl⟩) hlocks hI dX6_meet_38
  · exact (by subst e1; exact absurd hi c2)

set_option maxHeartbeats 2000000 in
set_option maxRecDepth 100000 in
theorem c_X6_meet_give_num (l : Launch) (D : tw_G) (ad : Nat → Nat) (b : tw_W) (σ : Sg) (h : Int32) (Q : Nat → Int32) (sz : Nat) (n r d k B : Nat) (hP : passC l D ad b h Q n (r + 1)) (er : r + 1 + n = 8) (hV : INV σ B) (hB : B + (12 + 3 * cN n) < 2 ^ 62) (hr8 : r < 8) (hd4 : d < 4) (hc : d < dcS σ r) (hn : k < nS σ) (h6 : k < 60) (hN : isNumK (σ.1 1 k) = true) (hi : isOfX (σ.1 1 k) (σ.1 6 (4 * r + d)) = 0) (h8 : σ.1 8 (4 * r + d) = 0) (h14 : σ.1 14 (4 * r + d) = 0) (hQ : ¬ Q (4 * r + d) = h) : Met l yX6_meet (tw_w yX6_meet cX6_meet 4 (some (.object "MailRooms$Item"))) (tw_R (4 * n + 6) 0 0) (tw_Pc D ad (wX b σ h Q) sz [.ref (ad 0), .ref (ad (30 + (4 * r + d))), .ref (ad (100 + k)), .int (nI r)]) (tw_Q D ad (wX b ((meetF (spF n (r + 1)) (4 * r + d) σ k).2) h Q) (tw_A ad (wX b σ h Q) sz) (some (rfv ad (meetF (spF n (r + 1)) (4 * r + d) σ k).1))) 0 0 (tw_A ad (wX b σ h Q) sz) := by
  refine tw_met (by decide) rfl (by simp [lg_sl, Value.category]) (fun p e s m below meth c ls S hK hr hlocks hnm hsz hI hl => ?_)
  have hx := S.1
  have hb := S.2.1
  have hl : lv_has ls 4 [(0, .ref (ad 0)), (1, .ref (ad (30 + (4 * r + d)))), (2, .ref (ad (100 + k))), (3, .int (nI r))] := hl
  refine lv_aload_n hx hb dX6_meet_0 rfl (lv_at hl 2 rfl) ?_
  refine lv_aload_n hx hb dX6_meet_1 rfl (lv_at hl 1 rfl) ?_
  refine f6_135_0 S hK hI (wX_desk hr8 hd4 hc) rfl (v' := .int (σ.1 6 (4 * r + d))) rfl dX6_meet_2 ?_
  refine tw_calli (tw_rU (As := [.int (σ.1 6 (4 * r + d))]) (rest := []) S hK hI kX6_104_X2 (c_X1_isOf l D ad _ _ _ _ _ _ _ hn h6) (xI_num hn h6 hN) rfl rfl (tw_lvl (by omega) (by decide)) ⟨Nat.le_of_ble_eq_true rfl, Nat.le_of_ble_eq_true rfl⟩ rfl hl.1 rfl (Nat.le_of_ble_eq_true rfl) dX6_meet_5) hI (fun H locs hI => ?_)
  refine lv_topi (fun x1 e1 => ?_)
  refine lv_if_eq (tgt := 19) hx hb dX6_meet_8 (by decide) (fun c2 => ?_) (fun c2 => ?_)
  · refine lv_aload_n hx hb dX6_meet_19 rfl (lv_at hl 1 rfl) ?_
    refine f6_141_0 S hK hI (wX_desk hr8 hd4 hc) rfl (v' := .int (σ.1 8 (4 * r + d))) rfl dX6_meet_20 ?_
    refine lv_eqi (v := 0) h8 ?_
    refine lv_if_ne (tgt := 37) hx hb dX6_meet_23 (by decide) (fun c3 => ?_) (fun c3 => ?_)
    · exact absurd c3 (by decide)
    · refine lv_aload_n hx hb dX6_meet_26 rfl (lv_at hl 1 rfl) ?_
      refine f6_185_0 S hK hI (wX_desk hr8 hd4 hc) rfl (v' := .int (xAsk σ h Q (4 * r + d))) rfl dX6_meet_27 ?_
      refine lv_eqi (v := (Q (4 * r + d))) (by unfold xAsk; rw [h14, if_neg (by decide)]) ?_
      refine lv_aload_n hx hb dX6_meet_30 rfl (lv_at hl 0 rfl) ?_
      refine gx_25 S hK hI dX6_meet_31 ?_
      refine lv_icmp_ne (tgt := 39) hx hb dX6_meet_34 (by decide) (fun c4 => ?_) (fun c4 => ?_)
      · refine lv_aload_n hx hb dX6_meet_39 rfl (lv_at hl 1 rfl) ?_
        refine lv_aload_n hx hb dX6_meet_40 rfl (lv_at hl 2 rfl) ?_
        refine lv_aload_n hx hb dX6_meet_41 rfl (lv_at hl 0 rfl) ?_
        refine gx_25 S hK hI dX6_meet_42 ?_
        refine tw_callv (tw_rVN (As := [.ref (ad (100 + k)), .int h]) (rest := []) S hK hI kX6_188 (c_X0_giveBack l D ad _ _ _ _ _ _ _ _ hr8 hd4 hc h6) (wX_desk hr8 hd4 hc) rfl rfl (tw_lvl (by omega) (by decide)) ⟨Nat.le_of_ble_eq_true rfl, Nat.le_of_ble_eq_true rfl⟩ rfl hl.1 rfl (Nat.le_of_ble_eq_true rfl) dX6_meet_45) hI (fun H locs hI => ?_)
        refine lv_aload_n hx hb dX6_meet_48 rfl (lv_at hl 0 rfl) ?_
        refine lv_dup hx hb dX6_meet_49 rfl ?_
        refine gx_46 S hK hI dX6_meet_50 ?_
        refine lv_topi (fun x5 e5 => ?_)
        refine lv_iconst (v := 1) hx hb dX6_meet_53 (by decide) ?_
        refine lv_iadd hx hb dX6_meet_54 ?_
        refine lv_topi (fun x6 e6 => ?_)
        refine px_46 S hK hI dX6_meet_55 (fun H locs hI => ?_)
        refine lv_null hx hb dX6_meet_58 ?_
        subst e6
        subst e5
        subst e1
        rw [meet_give (by rw [← isOf_d hV hr8 hc hn]; exact hi) h8 h14, give_comm]
        try rw [if_pos hi]
        try rw [if_pos (show (0 : Int32) = 0 from by decide)]
        exact tw_aret S hr (Or.inl rfl) hlocks hI dX6_meet_59
      · exact absurd c4 hQ
  · exact (by subst e1; exact absurd hi c2)

set_option maxHeartbeats 2000000 in
set_option maxRecDepth 100000 in
theorem c_X6_meet_work_one (l : Launch) (D : tw_G) (ad : Nat → Nat) (b : tw_W) (σ : Sg) (h : Int32) (Q : Nat → Int32) (sz : Nat) (n r d k B : Nat) (hP : passC l D ad b h Q n (r + 1)) (er : r + 1 + n = 8) (hV : INV σ B) (hB : B + (12 + 3 * cN n) < 2 ^ 62) (hr8 : r < 8) (hd4 : d < 4) (hc : d < dcS σ r) (hn : k < nS σ) (h6 : k < 60) (hN : isNumK (σ.1 1 k) = false) (hO : isOneK (σ.1 1 k) = true) (hi : ¬ isOfX (σ.1 1 k) (σ.1 6 (4 * r + d)) = 0) : Met l yX6_meet (tw_w yX6_meet cX6_meet 4 (some (.object "MailRooms$Item"))) (tw_R (4 * n + 6) 0 0) (tw_Pc D ad (wX b σ h Q) sz [.ref (ad 0), .ref (ad (30 + (4 * r + d))), .ref (ad (100 + k)), .int (nI r)]) (tw_Q D ad (wX b ((meetF (spF n (r + 1)) (4 * r + d) σ k).2) h Q) (tw_A ad (wX b σ h Q) sz) (some (rfv ad (meetF (spF n (r + 1)) (4 * r + d) σ k).1))) 0 0 (tw_A ad (wX b σ h Q) sz) := by
  refine tw_met (by decide) rfl (by simp [lg_sl, Value.category]) (fun p e s m below meth c ls S hK hr hlocks hnm hsz hI hl => ?_)
  have hx := S.1
  have hb := S.2.1
  have hl : lv_has ls 4 [(0, .ref (ad 0)), (1, .ref (ad (30 + (4 * r + d)))), (2, .ref (ad (100 + k))), (3, .int (nI r))] := hl
  refine lv_aload_n hx hb dX6_meet_0 rfl (lv_at hl 2 rfl) ?_
  refine lv_aload_n hx hb dX6_meet_1 rfl (lv_at hl 1 rfl) ?_
  refine f6_135_0 S hK hI (wX_desk hr8 hd4 hc) rfl (v' := .int (σ.1 6 (4 * r + d))) rfl dX6_meet_2 ?_
  refine tw_calli (tw_rU (As := [.int (σ.1 6 (4 * r + d))]) (rest := []) S hK hI kX6_104_X3 (c_X1_isOf l D ad _ _ _ _ _ _ _ hn h6) (xI_one hn h6 hN hO) rfl rfl (tw_lvl (by omega) (by decide)) ⟨Nat.le_of_ble_eq_true rfl, Nat.le_of_ble_eq_true rfl⟩ rfl hl.1 rfl (Nat.le_of_ble_eq_true rfl) dX6_meet_5) hI (fun H locs hI => ?_)
  refine lv_topi (fun x1 e1 => ?_)
  refine lv_if_eq (tgt := 19) hx hb dX6_meet_8 (by decide) (fun c2 => ?_) (fun c2 => ?_)
  · exact (by subst e1; exact absurd c2 hi)
  · refine lv_aload_n hx hb dX6_meet_11 rfl (lv_at hl 0 rfl) ?_
    refine lv_aload_n hx hb dX6_meet_12 rfl (lv_at hl 1 rfl) ?_
    refine lv_aload_n hx hb dX6_meet_13 rfl (lv_at hl 2 rfl) ?_
    refine lv_iload_n hx hb dX6_meet_14 rfl (lv_at hl 3 rfl) ?_
    refine tw_calla (tw_rV (As := [.ref (ad (30 + (4 * r + d))), .ref (ad (100 + k)), .int (nI r)]) (rest := []) S hK hI kX6_182 (c_X6_work l D ad _ _ _ _ _ _ _ _ _ _ hP er hV hB hr8 hd4 hc hn h6) wX_0 rfl rfl (tw_lvl (by omega) (by decide)) ⟨Nat.le_of_ble_eq_true rfl, Nat.le_of_ble_eq_true rfl⟩ rfl hl.1 rfl (Nat.le_of_ble_eq_true rfl) dX6_meet_15) hI (fun H locs hI => ?_)
    subst e1
    rw [meet_work (by rw [← isOf_d hV hr8 hc hn]; exact hi)]
    try rw [if_neg hi]
    exact tw_aret S hr rfv_or hlocks hI dX6_meet_18

set_option maxHeartbeats 2000000 in
set_option maxRecDepth 100000 in
theorem c_X6_meet_asks_one (l : Launch) (D : tw_G) (ad : Nat → Nat) (b : tw_W) (σ : Sg) (h : Int32) (Q : Nat → Int32) (sz : Nat) (n r d k B : Nat) (hP : passC l D ad b h Q n (r + 1)) (er : r + 1 + n = 8) (hV : INV σ B) (hB : B + (12 + 3 * cN n) < 2 ^ 62) (hr8 : r < 8) (hd4 : d < 4) (hc : d < dcS σ r) (hn : k < nS σ) (h6 : k < 60) (hN : isNumK (σ.1 1 k) = false) (hO : isOneK (σ.1 1 k) = true) (hi : isOfX (σ.1 1 k) (σ.1 6 (4 * r + d)) = 0) (h8 : σ.1 8 (4 * r + d) = 1) : Met l yX6_meet (tw_w yX6_meet cX6_meet 4 (some (.object "MailRooms$Item"))) (tw_R (4 * n + 6) 0 0) (tw_Pc D ad (wX b σ h Q) sz [.ref (ad 0), .ref (ad (30 + (4 * r + d))), .ref (ad (100 + k)), .int (nI r)]) (tw_Q D ad (wX b ((meetF (spF n (r + 1)) (4 * r + d) σ k).2) h Q) (tw_A ad (wX b σ h Q) sz) (some (rfv ad (meetF (spF n (r + 1)) (4 * r + d) σ k).1))) 0 0 (tw_A ad (wX b σ h Q) sz) := by
  refine tw_met (by decide) rfl (by simp [lg_sl, Value.category]) (fun p e s m below meth c ls S hK hr hlocks hnm hsz hI hl => ?_)
  have hx := S.1
  have hb := S.2.1
  have hl : lv_has ls 4 [(0, .ref (ad 0)), (1, .ref (ad (30 + (4 * r + d)))), (2, .ref (ad (100 + k))), (3, .int (nI r))] := hl
  refine lv_aload_n hx hb dX6_meet_0 rfl (lv_at hl 2 rfl) ?_
  refine lv_aload_n hx hb dX6_meet_1 rfl (lv_at hl 1 rfl) ?_
  refine f6_135_0 S hK hI (wX_desk hr8 hd4 hc) rfl (v' := .int (σ.1 6 (4 * r + d))) rfl dX6_meet_2 ?_
  refine tw_calli (tw_rU (As := [.int (σ.1 6 (4 * r + d))]) (rest := []) S hK hI kX6_104_X3 (c_X1_isOf l D ad _ _ _ _ _ _ _ hn h6) (xI_one hn h6 hN hO) rfl rfl (tw_lvl (by omega) (by decide)) ⟨Nat.le_of_ble_eq_true rfl, Nat.le_of_ble_eq_true rfl⟩ rfl hl.1 rfl (Nat.le_of_ble_eq_true rfl) dX6_meet_5) hI (fun H locs hI => ?_)
  refine lv_topi (fun x1 e1 => ?_)
  refine lv_if_eq (tgt := 19) hx hb dX6_meet_8 (by decide) (fun c2 => ?_) (fun c2 => ?_)
  · refine lv_aload_n hx hb dX6_meet_19 rfl (lv_at hl 1 rfl) ?_
    refine f6_141_0 S hK hI (wX_desk hr8 hd4 hc) rfl (v' := .int (σ.1 8 (4 * r + d))) rfl dX6_meet_20 ?_
    refine lv_eqi (v := 1) h8 ?_
    refine lv_if_ne (tgt := 37) hx hb dX6_meet_23 (by decide) (fun c3 => ?_) (fun c3 => ?_)
    · refine lv_aload_n hx hb dX6_meet_37 rfl (lv_at hl 2 rfl) ?_
      subst e1
      rw [meet_asks (by rw [← isOf_d hV hr8 hc hn]; exact hi) h8]
      try rw [if_pos hi]
      try rw [if_neg (show ¬ (1 : Int32) = 0 from by decide)]
      exact tw_aret S hr (Or.inr ⟨_, rfl⟩) hlocks hI dX6_meet_38
    · exact absurd c3 (by decide)
  · exact (by subst e1; exact absurd hi c2)

set_option maxHeartbeats 2000000 in
set_option maxRecDepth 100000 in
theorem c_X6_meet_gave_one (l : Launch) (D : tw_G) (ad : Nat → Nat) (b : tw_W) (σ : Sg) (h : Int32) (Q : Nat → Int32) (sz : Nat) (n r d k B : Nat) (hP : passC l D ad b h Q n (r + 1)) (er : r + 1 + n = 8) (hV : INV σ B) (hB : B + (12 + 3 * cN n) < 2 ^ 62) (hr8 : r < 8) (hd4 : d < 4) (hc : d < dcS σ r) (hn : k < nS σ) (h6 : k < 60) (hN : isNumK (σ.1 1 k) = false) (hO : isOneK (σ.1 1 k) = true) (hi : isOfX (σ.1 1 k) (σ.1 6 (4 * r + d)) = 0) (h8 : σ.1 8 (4 * r + d) = 0) (h14 : σ.1 14 (4 * r + d) = 1) : Met l yX6_meet (tw_w yX6_meet cX6_meet 4 (some (.object "MailRooms$Item"))) (tw_R (4 * n + 6) 0 0) (tw_Pc D ad (wX b σ h Q) sz [.ref (ad 0), .ref (ad (30 + (4 * r + d))), .ref (ad (100 + k)), .int (nI r)]) (tw_Q D ad (wX b ((meetF (spF n (r + 1)) (4 * r + d) σ k).2) h Q) (tw_A ad (wX b σ h Q) sz) (some (rfv ad (meetF (spF n (r + 1)) (4 * r + d) σ k).1))) 0 0 (tw_A ad (wX b σ h Q) sz) := by
  refine tw_met (by decide) rfl (by simp [lg_sl, Value.category]) (fun p e s m below meth c ls S hK hr hlocks hnm hsz hI hl => ?_)
  have hx := S.1
  have hb := S.2.1
  have hl : lv_has ls 4 [(0, .ref (ad 0)), (1, .ref (ad (30 + (4 * r + d)))), (2, .ref (ad (100 + k))), (3, .int (nI r))] := hl
  refine lv_aload_n hx hb dX6_meet_0 rfl (lv_at hl 2 rfl) ?_
  refine lv_aload_n hx hb dX6_meet_1 rfl (lv_at hl 1 rfl) ?_
  refine f6_135_0 S hK hI (wX_desk hr8 hd4 hc) rfl (v' := .int (σ.1 6 (4 * r + d))) rfl dX6_meet_2 ?_
  refine tw_calli (tw_rU (As := [.int (σ.1 6 (4 * r + d))]) (rest := []) S hK hI kX6_104_X3 (c_X1_isOf l D ad _ _ _ _ _ _ _ hn h6) (xI_one hn h6 hN hO) rfl rfl (tw_lvl (by omega) (by decide)) ⟨Nat.le_of_ble_eq_true rfl, Nat.le_of_ble_eq_true rfl⟩ rfl hl.1 rfl (Nat.le_of_ble_eq_true rfl) dX6_meet_5) hI (fun H locs hI => ?_)
  refine lv_topi (fun x1 e1 => ?_)
  refine lv_if_eq (tgt := 19) hx hb dX6_meet_8 (by decide) (fun c2 => ?_) (fun c2 => ?_)
  · refine lv_aload_n hx hb dX6_meet_19 rfl (lv_at hl 1 rfl) ?_
    refine f6_141_0 S hK hI (wX_desk hr8 hd4 hc) rfl (v' := .int (σ.1 8 (4 * r + d))) rfl dX6_meet_20 ?_
    refine lv_eqi (v := 0) h8 ?_
    refine lv_if_ne (tgt := 37) hx hb dX6_meet_23 (by decide) (fun c3 => ?_) (fun c3 => ?_)
    · exact absurd c3 (by decide)
    · refine lv_aload_n hx hb dX6_meet_26 rfl (lv_at hl 1 rfl) ?_
      refine f6_185_0 S hK hI (wX_desk hr8 hd4 hc) rfl (v' := .int (xAsk σ h Q (4 * r + d))) rfl dX6_meet_27 ?_
      refine lv_eqi (v := h) (by unfold xAsk; rw [if_pos h14]) ?_
      refine lv_aload_n hx hb dX6_meet_30 rfl (lv_at hl 0 rfl) ?_
      refine gx_25 S hK hI dX6_meet_31 ?_
      refine lv_icmp_ne (tgt := 39) hx hb dX6_meet_34 (by decide) (fun c4 => ?_) (fun c4 => ?_)
      · exact absurd rfl c4
      · refine lv_aload_n hx hb dX6_meet_37 rfl (lv_at hl 2 rfl) ?_
        subst e1
        rw [meet_gave (by rw [← isOf_d hV hr8 hc hn]; exact hi) h8 h14]
        try rw [if_pos hi]
        try rw [if_pos (show (0 : Int32) = 0 from by decide)]
        exact tw_aret S hr (Or.inr ⟨_, rfl⟩) hlocks hI dX6_meet_38
  · exact (by subst e1; exact absurd hi c2)

set_option maxHeartbeats 2000000 in
set_option maxRecDepth 100000 in
theorem c_X6_meet_give_one (l : Launch) (D : tw_G) (ad : Nat → Nat) (b : tw_W) (σ : Sg) (h : Int32) (Q : Nat → Int32) (sz : Nat) (n r d k B : Nat) (hP : passC l D ad b h Q n (r + 1)) (er : r + 1 + n = 8) (hV : INV σ B) (hB : B + (12 + 3 * cN n) < 2 ^ 62) (hr8 : r < 8) (hd4 : d < 4) (hc : d < dcS σ r) (hn : k < nS σ) (h6 : k < 60) (hN : isNumK (σ.1 1 k) = false) (hO : isOneK (σ.1 1 k) = true) (hi : isOfX (σ.1 1 k) (σ.1 6 (4 * r + d)) = 0) (h8 : σ.1 8 (4 * r + d) = 0) (h14 : σ.1 14 (4 * r + d) = 0) (hQ : ¬ Q (4 * r + d) = h) : Met l yX6_meet (tw_w yX6_meet cX6_meet 4 (some (.object "MailRooms$Item"))) (tw_R (4 * n + 6) 0 0) (tw_Pc D ad (wX b σ h Q) sz [.ref (ad 0), .ref (ad (30 + (4 * r + d))), .ref (ad (100 + k)), .int (nI r)]) (tw_Q D ad (wX b ((meetF (spF n (r + 1)) (4 * r + d) σ k).2) h Q) (tw_A ad (wX b σ h Q) sz) (some (rfv ad (meetF (spF n (r + 1)) (4 * r + d) σ k).1))) 0 0 (tw_A ad (wX b σ h Q) sz) := by
  refine tw_met (by decide) rfl (by simp [lg_sl, Value.category]) (fun p e s m below meth c ls S hK hr hlocks hnm hsz hI hl => ?_)
  have hx := S.1
  have hb := S.2.1
  have hl : lv_has ls 4 [(0, .ref (ad 0)), (1, .ref (ad (30 + (4 * r + d)))), (2, .ref (ad (100 + k))), (3, .int (nI r))] := hl
  refine lv_aload_n hx hb dX6_meet_0 rfl (lv_at hl 2 rfl) ?_
  refine lv_aload_n hx hb dX6_meet_1 rfl (lv_at hl 1 rfl) ?_
  refine f6_135_0 S hK hI (wX_desk hr8 hd4 hc) rfl (v' := .int (σ.1 6 (4 * r + d))) rfl dX6_meet_2 ?_
  refine tw_calli (tw_rU (As := [.int (σ.1 6 (4 * r + d))]) (rest := []) S hK hI kX6_104_X3 (c_X1_isOf l D ad _ _ _ _ _ _ _ hn h6) (xI_one hn h6 hN hO) rfl rfl (tw_lvl (by omega) (by decide)) ⟨Nat.le_of_ble_eq_true rfl, Nat.le_of_ble_eq_true rfl⟩ rfl hl.1 rfl (Nat.le_of_ble_eq_true rfl) dX6_meet_5) hI (fun H locs hI => ?_)
  refine lv_topi (fun x1 e1 => ?_)
  refine lv_if_eq (tgt := 19) hx hb dX6_meet_8 (by decide) (fun c2 => ?_) (fun c2 => ?_)
  · refine lv_aload_n hx hb dX6_meet_19 rfl (lv_at hl 1 rfl) ?_
    refine f6_141_0 S hK hI (wX_desk hr8 hd4 hc) rfl (v' := .int (σ.1 8 (4 * r + d))) rfl dX6_meet_20 ?_
    refine lv_eqi (v := 0) h8 ?_
    refine lv_if_ne (tgt := 37) hx hb dX6_meet_23 (by decide) (fun c3 => ?_) (fun c3 => ?_)
    · exact absurd c3 (by decide)
    · refine lv_aload_n hx hb dX6_meet_26 rfl (lv_at hl 1 rfl) ?_
      refine f6_185_0 S hK hI (wX_desk hr8 hd4 hc) rfl (v' := .int (xAsk σ h Q (4 * r + d))) rfl dX6_meet_27 ?_
      refine lv_eqi (v := (Q (4 * r + d))) (by unfold xAsk; rw [h14, if_neg (by decide)]) ?_
      refine lv_aload_n hx hb dX6_meet_30 rfl (lv_at hl 0 rfl) ?_
      refine gx_25 S hK hI dX6_meet_31 ?_
      refine lv_icmp_ne (tgt := 39) hx hb dX6_meet_34 (by decide) (fun c4 => ?_) (fun c4 => ?_)
      · refine lv_aload_n hx hb dX6_meet_39 rfl (lv_at hl 1 rfl) ?_
        refine lv_aload_n hx hb dX6_meet_40 rfl (lv_at hl 2 rfl) ?_
        refine lv_aload_n hx hb dX6_meet_41 rfl (lv_at hl 0 rfl) ?_
        refine gx_25 S hK hI dX6_meet_42 ?_
        refine tw_callv (tw_rVN (As := [.ref (ad (100 + k)), .int h]) (rest := []) S hK hI kX6_188 (c_X0_giveBack l D ad _ _ _ _ _ _ _ _ hr8 hd4 hc h6) (wX_desk hr8 hd4 hc) rfl rfl (tw_lvl (by omega) (by decide)) ⟨Nat.le_of_ble_eq_true rfl, Nat.le_of_ble_eq_true rfl⟩ rfl hl.1 rfl (Nat.le_of_ble_eq_true rfl) dX6_meet_45) hI (fun H locs hI => ?_)
        refine lv_aload_n hx hb dX6_meet_48 rfl (lv_at hl 0 rfl) ?_
        refine lv_dup hx hb dX6_meet_49 rfl ?_
        refine gx_46 S hK hI dX6_meet_50 ?_
        refine lv_topi (fun x5 e5 => ?_)
        refine lv_iconst (v := 1) hx hb dX6_meet_53 (by decide) ?_
        refine lv_iadd hx hb dX6_meet_54 ?_
        refine lv_topi (fun x6 e6 => ?_)
        refine px_46 S hK hI dX6_meet_55 (fun H locs hI => ?_)
        refine lv_null hx hb dX6_meet_58 ?_
        subst e6
        subst e5
        subst e1
        rw [meet_give (by rw [← isOf_d hV hr8 hc hn]; exact hi) h8 h14, give_comm]
        try rw [if_pos hi]
        try rw [if_pos (show (0 : Int32) = 0 from by decide)]
        exact tw_aret S hr (Or.inl rfl) hlocks hI dX6_meet_59
      · exact absurd c4 hQ
  · exact (by subst e1; exact absurd hi c2)

set_option maxHeartbeats 2000000 in
set_option maxRecDepth 100000 in
theorem c_X6_meet_work_th (l : Launch) (D : tw_G) (ad : Nat → Nat) (b : tw_W) (σ : Sg) (h : Int32) (Q : Nat → Int32) (sz : Nat) (n r d k B : Nat) (hP : passC l D ad b h Q n (r + 1)) (er : r + 1 + n = 8) (hV : INV σ B) (hB : B + (12 + 3 * cN n) < 2 ^ 62) (hr8 : r < 8) (hd4 : d < 4) (hc : d < dcS σ r) (hn : k < nS σ) (h6 : k < 60) (hN : isNumK (σ.1 1 k) = false) (hO : isOneK (σ.1 1 k) = false) (hi : ¬ isOfX (σ.1 1 k) (σ.1 6 (4 * r + d)) = 0) : Met l yX6_meet (tw_w yX6_meet cX6_meet 4 (some (.object "MailRooms$Item"))) (tw_R (4 * n + 6) 0 0) (tw_Pc D ad (wX b σ h Q) sz [.ref (ad 0), .ref (ad (30 + (4 * r + d))), .ref (ad (100 + k)), .int (nI r)]) (tw_Q D ad (wX b ((meetF (spF n (r + 1)) (4 * r + d) σ k).2) h Q) (tw_A ad (wX b σ h Q) sz) (some (rfv ad (meetF (spF n (r + 1)) (4 * r + d) σ k).1))) 0 0 (tw_A ad (wX b σ h Q) sz) := by
  refine tw_met (by decide) rfl (by simp [lg_sl, Value.category]) (fun p e s m below meth c ls S hK hr hlocks hnm hsz hI hl => ?_)
  have hx := S.1
  have hb := S.2.1
  have hl : lv_has ls 4 [(0, .ref (ad 0)), (1, .ref (ad (30 + (4 * r + d)))), (2, .ref (ad (100 + k))), (3, .int (nI r))] := hl
  refine lv_aload_n hx hb dX6_meet_0 rfl (lv_at hl 2 rfl) ?_
  refine lv_aload_n hx hb dX6_meet_1 rfl (lv_at hl 1 rfl) ?_
  refine f6_135_0 S hK hI (wX_desk hr8 hd4 hc) rfl (v' := .int (σ.1 6 (4 * r + d))) rfl dX6_meet_2 ?_
  refine tw_calli (tw_rU (As := [.int (σ.1 6 (4 * r + d))]) (rest := []) S hK hI kX6_104_X5 (c_X1_isOf l D ad _ _ _ _ _ _ _ hn h6) (xI_th hn h6 hN hO) rfl rfl (tw_lvl (by omega) (by decide)) ⟨Nat.le_of_ble_eq_true rfl, Nat.le_of_ble_eq_true rfl⟩ rfl hl.1 rfl (Nat.le_of_ble_eq_true rfl) dX6_meet_5) hI (fun H locs hI => ?_)
  refine lv_topi (fun x1 e1 => ?_)
  refine lv_if_eq (tgt := 19) hx hb dX6_meet_8 (by decide) (fun c2 => ?_) (fun c2 => ?_)
  · exact (by subst e1; exact absurd c2 hi)
  · refine lv_aload_n hx hb dX6_meet_11 rfl (lv_at hl 0 rfl) ?_
    refine lv_aload_n hx hb dX6_meet_12 rfl (lv_at hl 1 rfl) ?_
    refine lv_aload_n hx hb dX6_meet_13 rfl (lv_at hl 2 rfl) ?_
    refine lv_iload_n hx hb dX6_meet_14 rfl (lv_at hl 3 rfl) ?_
    refine tw_calla (tw_rV (As := [.ref (ad (30 + (4 * r + d))), .ref (ad (100 + k)), .int (nI r)]) (rest := []) S hK hI kX6_182 (c_X6_work l D ad _ _ _ _ _ _ _ _ _ _ hP er hV hB hr8 hd4 hc hn h6) wX_0 rfl rfl (tw_lvl (by omega) (by decide)) ⟨Nat.le_of_ble_eq_true rfl, Nat.le_of_ble_eq_true rfl⟩ rfl hl.1 rfl (Nat.le_of_ble_eq_true rfl) dX6_meet_15) hI (fun H locs hI => ?_)
    subst e1
    rw [meet_work (by rw [← isOf_d hV hr8 hc hn]; exact hi)]
    try rw [if_neg hi]
    exact tw_aret S hr rfv_or hlocks hI dX6_meet_18

set_option maxHeartbeats 2000000 in
set_option maxRecDepth 100000 in
theorem c_X6_meet_asks_th (l : Launch) (D : tw_G) (ad : Nat → Nat) (b : tw_W) (σ : Sg) (h : Int32) (Q : Nat → Int32) (sz : Nat) (n r d k B : Nat) (hP : passC l D ad b h Q n (r + 1)) (er : r + 1 + n = 8) (hV : INV σ B) (hB : B + (12 + 3 * cN n) < 2 ^ 62) (hr8 : r < 8) (hd4 : d < 4) (hc : d < dcS σ r) (hn : k < nS σ) (h6 : k < 60) (hN : isNumK (σ.1 1 k) = false) (hO : isOneK (σ.1 1 k) = false) (hi : isOfX (σ.1 1 k) (σ.1 6 (4 * r + d)) = 0) (h8 : σ.1 8 (4 * r + d) = 1) : Met l yX6_meet (tw_w yX6_meet cX6_meet 4 (some (.object "MailRooms$Item"))) (tw_R (4 * n + 6) 0 0) (tw_Pc D ad (wX b σ h Q) sz [.ref (ad 0), .ref (ad (30 + (4 * r + d))), .ref (ad (100 + k)), .int (nI r)]) (tw_Q D ad (wX b ((meetF (spF n (r + 1)) (4 * r + d) σ k).2) h Q) (tw_A ad (wX b σ h Q) sz) (some (rfv ad (meetF (spF n (r + 1)) (4 * r + d) σ k).1))) 0 0 (tw_A ad (wX b σ h Q) sz) := by
  refine tw_met (by decide) rfl (by simp [lg_sl, Value.category]) (fun p e s m below meth c ls S hK hr hlocks hnm hsz hI hl => ?_)
  have hx := S.1
  have hb := S.2.1
  have hl : lv_has ls 4 [(0, .ref (ad 0)), (1, .ref (ad (30 + (4 * r + d)))), (2, .ref (ad (100 + k))), (3, .int (nI r))] := hl
  refine lv_aload_n hx hb dX6_meet_0 rfl (lv_at hl 2 rfl) ?_
  refine lv_aload_n hx hb dX6_meet_1 rfl (lv_at hl 1 rfl) ?_
  refine f6_135_0 S hK hI (wX_desk hr8 hd4 hc) rfl (v' := .int (σ.1 6 (4 * r + d))) rfl dX6_meet_2 ?_
  refine tw_calli (tw_rU (As := [.int (σ.1 6 (4 * r + d))]) (rest := []) S hK hI kX6_104_X5 (c_X1_isOf l D ad _ _ _ _ _ _ _ hn h6) (xI_th hn h6 hN hO) rfl rfl (tw_lvl (by omega) (by decide)) ⟨Nat.le_of_ble_eq_true rfl, Nat.le_of_ble_eq_true rfl⟩ rfl hl.1 rfl (Nat.le_of_ble_eq_true rfl) dX6_meet_5) hI (fun H locs hI => ?_)
  refine lv_topi (fun x1 e1 => ?_)
  refine lv_if_eq (tgt := 19) hx hb dX6_meet_8 (by decide) (fun c2 => ?_) (fun c2 => ?_)
  · refine lv_aload_n hx hb dX6_meet_19 rfl (lv_at hl 1 rfl) ?_
    refine f6_141_0 S hK hI (wX_desk hr8 hd4 hc) rfl (v' := .int (σ.1 8 (4 * r + d))) rfl dX6_meet_20 ?_
    refine lv_eqi (v := 1) h8 ?_
    refine lv_if_ne (tgt := 37) hx hb dX6_meet_23 (by decide) (fun c3 => ?_) (fun c3 => ?_)
    · refine lv_aload_n hx hb dX6_meet_37 rfl (lv_at hl 2 rfl) ?_
      subst e1
      rw [meet_asks (by rw [← isOf_d hV hr8 hc hn]; exact hi) h8]
      try rw [if_pos hi]
      try rw [if_neg (show ¬ (1 : Int32) = 0 from by decide)]
      exact tw_aret S hr (Or.inr ⟨_, rfl⟩) hlocks hI dX6_meet_38
    · exact absurd c3 (by decide)
  · exact (by subst e1; exact absurd hi c2)

set_option maxHeartbeats 2000000 in
set_option maxRecDepth 100000 in
theorem c_X6_meet_gave_th (l : Launch) (D : tw_G) (ad : Nat → Nat) (b : tw_W) (σ : Sg) (h : Int32) (Q : Nat → Int32) (sz : Nat) (n r d k B : Nat) (hP : passC l D ad b h Q n (r + 1)) (er : r + 1 + n = 8) (hV : INV σ B) (hB : B + (12 + 3 * cN n) < 2 ^ 62) (hr8 : r < 8) (hd4 : d < 4) (hc : d < dcS σ r) (hn : k < nS σ) (h6 : k < 60) (hN : isNumK (σ.1 1 k) = false) (hO : isOneK (σ.1 1 k) = false) (hi : isOfX (σ.1 1 k) (σ.1 6 (4 * r + d)) = 0) (h8 : σ.1 8 (4 * r + d) = 0) (h14 : σ.1 14 (4 * r + d) = 1) : Met l yX6_meet (tw_w yX6_meet cX6_meet 4 (some (.object "MailRooms$Item"))) (tw_R (4 * n + 6) 0 0) (tw_Pc D ad (wX b σ h Q) sz [.ref (ad 0), .ref (ad (30 + (4 * r + d))), .ref (ad (100 + k)), .int (nI r)]) (tw_Q D ad (wX b ((meetF (spF n (r + 1)) (4 * r + d) σ k).2) h Q) (tw_A ad (wX b σ h Q) sz) (some (rfv ad (meetF (spF n (r + 1)) (4 * r + d) σ k).1))) 0 0 (tw_A ad (wX b σ h Q) sz) := by
  refine tw_met (by decide) rfl (by simp [lg_sl, Value.category]) (fun p e s m below meth c ls S hK hr hlocks hnm hsz hI hl => ?_)
  have hx := S.1
  have hb := S.2.1
  have hl : lv_has ls 4 [(0, .ref (ad 0)), (1, .ref (ad (30 + (4 * r + d)))), (2, .ref (ad (100 + k))), (3, .int (nI r))] := hl
  refine lv_aload_n hx hb dX6_meet_0 rfl (lv_at hl 2 rfl) ?_
  refine lv_aload_n hx hb dX6_meet_1 rfl (lv_at hl 1 rfl) ?_
  refine f6_135_0 S hK hI (wX_desk hr8 hd4 hc) rfl (v' := .int (σ.1 6 (4 * r + d))) rfl dX6_meet_2 ?_
  refine tw_calli (tw_rU (As := [.int (σ.1 6 (4 * r + d))]) (rest := []) S hK hI kX6_104_X5 (c_X1_isOf l D ad _ _ _ _ _ _ _ hn h6) (xI_th hn h6 hN hO) rfl rfl (tw_lvl (by omega) (by decide)) ⟨Nat.le_of_ble_eq_true rfl, Nat.le_of_ble_eq_true rfl⟩ rfl hl.1 rfl (Nat.le_of_ble_eq_true rfl) dX6_meet_5) hI (fun H locs hI => ?_)
  refine lv_topi (fun x1 e1 => ?_)
  refine lv_if_eq (tgt := 19) hx hb dX6_meet_8 (by decide) (fun c2 => ?_) (fun c2 => ?_)
  · refine lv_aload_n hx hb dX6_meet_19 rfl (lv_at hl 1 rfl) ?_
    refine f6_141_0 S hK hI (wX_desk hr8 hd4 hc) rfl (v' := .int (σ.1 8 (4 * r + d))) rfl dX6_meet_20 ?_
    refine lv_eqi (v := 0) h8 ?_
    refine lv_if_ne (tgt := 37) hx hb dX6_meet_23 (by decide) (fun c3 => ?_) (fun c3 => ?_)
    · exact absurd c3 (by decide)
    · refine lv_aload_n hx hb dX6_meet_26 rfl (lv_at hl 1 rfl) ?_
      refine f6_185_0 S hK hI (wX_desk hr8 hd4 hc) rfl (v' := .int (xAsk σ h Q (4 * r + d))) rfl dX6_meet_27 ?_
      refine lv_eqi (v := h) (by unfold xAsk; rw [if_pos h14]) ?_
      refine lv_aload_n hx hb dX6_meet_30 rfl (lv_at hl 0 rfl) ?_
      refine gx_25 S hK hI dX6_meet_31 ?_
      refine lv_icmp_ne (tgt := 39) hx hb dX6_meet_34 (by decide) (fun c4 => ?_) (fun c4 => ?_)
      · exact absurd rfl c4
      · refine lv_aload_n hx hb dX6_meet_37 rfl (lv_at hl 2 rfl) ?_
        subst e1
        rw [meet_gave (by rw [← isOf_d hV hr8 hc hn]; exact hi) h8 h14]
        try rw [if_pos hi]
        try rw [if_pos (show (0 : Int32) = 0 from by decide)]
        exact tw_aret S hr (Or.inr ⟨_, rfl⟩) hlocks hI dX6_meet_38
  · exact (by subst e1; exact absurd hi c2)

set_option maxHeartbeats 2000000 in
set_option maxRecDepth 100000 in
theorem c_X6_meet_give_th (l : Launch) (D : tw_G) (ad : Nat → Nat) (b : tw_W) (σ : Sg) (h : Int32) (Q : Nat → Int32) (sz : Nat) (n r d k B : Nat) (hP : passC l D ad b h Q n (r + 1)) (er : r + 1 + n = 8) (hV : INV σ B) (hB : B + (12 + 3 * cN n) < 2 ^ 62) (hr8 : r < 8) (hd4 : d < 4) (hc : d < dcS σ r) (hn : k < nS σ) (h6 : k < 60) (hN : isNumK (σ.1 1 k) = false) (hO : isOneK (σ.1 1 k) = false) (hi : isOfX (σ.1 1 k) (σ.1 6 (4 * r + d)) = 0) (h8 : σ.1 8 (4 * r + d) = 0) (h14 : σ.1 14 (4 * r + d) = 0) (hQ : ¬ Q (4 * r + d) = h) : Met l yX6_meet (tw_w yX6_meet cX6_meet 4 (some (.object "MailRooms$Item"))) (tw_R (4 * n + 6) 0 0) (tw_Pc D ad (wX b σ h Q) sz [.ref (ad 0), .ref (ad (30 + (4 * r + d))), .ref (ad (100 + k)), .int (nI r)]) (tw_Q D ad (wX b ((meetF (spF n (r + 1)) (4 * r + d) σ k).2) h Q) (tw_A ad (wX b σ h Q) sz) (some (rfv ad (meetF (spF n (r + 1)) (4 * r + d) σ k).1))) 0 0 (tw_A ad (wX b σ h Q) sz) := by
  refine tw_met (by decide) rfl (by simp [lg_sl, Value.category]) (fun p e s m below meth c ls S hK hr hlocks hnm hsz hI hl => ?_)
  have hx := S.1
  have hb := S.2.1
  have hl : lv_has ls 4 [(0, .ref (ad 0)), (1, .ref (ad (30 + (4 * r + d)))), (2, .ref (ad (100 + k))), (3, .int (nI r))] := hl
  refine lv_aload_n hx hb dX6_meet_0 rfl (lv_at hl 2 rfl) ?_
  refine lv_aload_n hx hb dX6_meet_1 rfl (lv_at hl 1 rfl) ?_
  refine f6_135_0 S hK hI (wX_desk hr8 hd4 hc) rfl (v' := .int (σ.1 6 (4 * r + d))) rfl dX6_meet_2 ?_
  refine tw_calli (tw_rU (As := [.int (σ.1 6 (4 * r + d))]) (rest := []) S hK hI kX6_104_X5 (c_X1_isOf l D ad _ _ _ _ _ _ _ hn h6) (xI_th hn h6 hN hO) rfl rfl (tw_lvl (by omega) (by decide)) ⟨Nat.le_of_ble_eq_true rfl, Nat.le_of_ble_eq_true rfl⟩ rfl hl.1 rfl (Nat.le_of_ble_eq_true rfl) dX6_meet_5) hI (fun H locs hI => ?_)
  refine lv_topi (fun x1 e1 => ?_)
  refine lv_if_eq (tgt := 19) hx hb dX6_meet_8 (by decide) (fun c2 => ?_) (fun c2 => ?_)
  · refine lv_aload_n hx hb dX6_meet_19 rfl (lv_at hl 1 rfl) ?_
    refine f6_141_0 S hK hI (wX_desk hr8 hd4 hc) rfl (v' := .int (σ.1 8 (4 * r + d))) rfl dX6_meet_20 ?_
    refine lv_eqi (v := 0) h8 ?_
    refine lv_if_ne (tgt := 37) hx hb dX6_meet_23 (by decide) (fun c3 => ?_) (fun c3 => ?_)
    · exact absurd c3 (by decide)
    · refine lv_aload_n hx hb dX6_meet_26 rfl (lv_at hl 1 rfl) ?_
      refine f6_185_0 S hK hI (wX_desk hr8 hd4 hc) rfl (v' := .int (xAsk σ h Q (4 * r + d))) rfl dX6_meet_27 ?_
      refine lv_eqi (v := (Q (4 * r + d))) (by unfold xAsk; rw [h14, if_neg (by decide)]) ?_
      refine lv_aload_n hx hb dX6_meet_30 rfl (lv_at hl 0 rfl) ?_
      refine gx_25 S hK hI dX6_meet_31 ?_
      refine lv_icmp_ne (tgt := 39) hx hb dX6_meet_34 (by decide) (fun c4 => ?_) (fun c4 => ?_)
      · refine lv_aload_n hx hb dX6_meet_39 rfl (lv_at hl 1 rfl) ?_
        refine lv_aload_n hx hb dX6_meet_40 rfl (lv_at hl 2 rfl) ?_
        refine lv_aload_n hx hb dX6_meet_41 rfl (lv_at hl 0 rfl) ?_
        refine gx_25 S hK hI dX6_meet_42 ?_
        refine tw_callv (tw_rVN (As := [.ref (ad (100 + k)), .int h]) (rest := []) S hK hI kX6_188 (c_X0_giveBack l D ad _ _ _ _ _ _ _ _ hr8 hd4 hc h6) (wX_desk hr8 hd4 hc) rfl rfl (tw_lvl (by omega) (by decide)) ⟨Nat.le_of_ble_eq_true rfl, Nat.le_of_ble_eq_true rfl⟩ rfl hl.1 rfl (Nat.le_of_ble_eq_true rfl) dX6_meet_45) hI (fun H locs hI => ?_)
        refine lv_aload_n hx hb dX6_meet_48 rfl (lv_at hl 0 rfl) ?_
        refine lv_dup hx hb dX6_meet_49 rfl ?_
        refine gx_46 S hK hI dX6_meet_50 ?_
        refine lv_topi (fun x5 e5 => ?_)
        refine lv_iconst (v := 1) hx hb dX6_meet_53 (by decide) ?_
        refine lv_iadd hx hb dX6_meet_54 ?_
        refine lv_topi (fun x6 e6 => ?_)
        refine px_46 S hK hI dX6_meet_55 (fun H locs hI => ?_)
        refine lv_null hx hb dX6_meet_58 ?_
        subst e6
        subst e5
        subst e1
        rw [meet_give (by rw [← isOf_d hV hr8 hc hn]; exact hi) h8 h14, give_comm]
        try rw [if_pos hi]
        try rw [if_pos (show (0 : Int32) = 0 from by decide)]
        exact tw_aret S hr (Or.inl rfl) hlocks hI dX6_meet_59
      · exact absurd c4 hQ
  · exact (by subst e1; exact absurd hi c2)

theorem c_X6_meet (l : Launch) (D : tw_G) (ad : Nat → Nat) (b : tw_W) (σ : Sg) (h : Int32) (Q : Nat → Int32) (sz : Nat) (n r d k B : Nat) (hP : passC l D ad b h Q n (r + 1)) (er : r + 1 + n = 8) (hV : INV σ B) (hB : B + (12 + 3 * cN n) < 2 ^ 62) (hr8 : r < 8) (hd4 : d < 4) (hc : d < dcS σ r) (hn : k < nS σ) (h6 : k < 60) (hQ : ¬ Q (4 * r + d) = h) : Met l yX6_meet (tw_w yX6_meet cX6_meet 4 (some (.object "MailRooms$Item"))) (tw_R (4 * n + 6) 0 0) (tw_Pc D ad (wX b σ h Q) sz [.ref (ad 0), .ref (ad (30 + (4 * r + d))), .ref (ad (100 + k)), .int (nI r)]) (tw_Q D ad (wX b ((meetF (spF n (r + 1)) (4 * r + d) σ k).2) h Q) (tw_A ad (wX b σ h Q) sz) (some (rfv ad (meetF (spF n (r + 1)) (4 * r + d) σ k).1))) 0 0 (tw_A ad (wX b σ h Q) sz) := by
  by_cases hi : isOfX (σ.1 1 k) (σ.1 6 (4 * r + d)) = 0
  · rcases (hV.2.2.2.1 r d hr8 hc).2.2.2.2 with h8 | h8
    · rcases (hV.2.2.2.2.2.2.1 r d hr8 hd4).1 with h14 | h14
      ·
        cases hN : isNumK (σ.1 1 k) with
        | true => exact c_X6_meet_give_num l D ad b σ h Q sz n r d k B hP er hV hB hr8 hd4 hc hn h6 hN hi h8 h14 hQ
        | false =>
          cases hO : isOneK (σ.1 1 k) with
          | true => exact c_X6_meet_give_one l D ad b σ h Q sz n r d k B hP er hV hB hr8 hd4 hc hn h6 hN hO hi h8 h14 hQ
          | false => exact c_X6_meet_give_th l D ad b σ h Q sz n r d k B hP er hV hB hr8 hd4 hc hn h6 hN hO hi h8 h14 hQ
      ·
        cases hN : isNumK (σ.1 1 k) with
        | true => exact c_X6_meet_gave_num l D ad b σ h Q sz n r d k B hP er hV hB hr8 hd4 hc hn h6 hN hi h8 h14
        | false =>
          cases hO : isOneK (σ.1 1 k) with
          | true => exact c_X6_meet_gave_one l D ad b σ h Q sz n r d k B hP er hV hB hr8 hd4 hc hn h6 hN hO hi h8 h14
          | false => exact c_X6_meet_gave_th l D ad b σ h Q sz n r d k B hP er hV hB hr8 hd4 hc hn h6 hN hO hi h8 h14
    ·
      cases hN : isNumK (σ.1 1 k) with
      | true => exact c_X6_meet_asks_num l D ad b σ h Q sz n r d k B hP er hV hB hr8 hd4 hc hn h6 hN hi h8
      | false =>
        cases hO : isOneK (σ.1 1 k) with
        | true => exact c_X6_meet_asks_one l D ad b σ h Q sz n r d k B hP er hV hB hr8 hd4 hc hn h6 hN hO hi h8
        | false => exact c_X6_meet_asks_th l D ad b σ h Q sz n r d k B hP er hV hB hr8 hd4 hc hn h6 hN hO hi h8
  ·
    cases hN : isNumK (σ.1 1 k) with
    | true => exact c_X6_meet_work_num l D ad b σ h Q sz n r d k B hP er hV hB hr8 hd4 hc hn h6 hN hi
    | false =>
      cases hO : isOneK (σ.1 1 k) with
      | true => exact c_X6_meet_work_one l D ad b σ h Q sz n r d k B hP er hV hB hr8 hd4 hc hn h6 hN hO hi
      | false => exact c_X6_meet_work_th l D ad b σ h Q sz n r d k B hP er hV hB hr8 hd4 hc hn h6 hN hO hi