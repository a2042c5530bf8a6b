/-! the class: change, takes, canHold, lay -/
theorem sI_comm (σ : Sg) {f g : Nat} (hfg : f ≠ g) (i j : Nat) (u v : Int32) : sI (sI σ f i u) g j v = sI (sI σ g j v) f i u := by
  unfold sI
  refine Prod.ext ?_ rfl
  funext y
  by_cases h1 : y = g
  · subst h1
    simp only [va_up_self, va_up_ne _ _ hfg.symm]
  · by_cases h2 : y = f
    · subst h2
      simp only [va_up_self, va_up_ne _ _ hfg]
    · simp only [va_up_ne _ _ h1, va_up_ne _ _ h2]
theorem chg_noroom {σ : Sg} {r d f a q : Int32} (h : r < 0 ∨ 8 ≤ r) : changeM σ r d f a q = (-2, refuseM σ (-2)) := by unfold changeM; rw [if_pos (room_no h), refuse_acc]
theorem chg_nodesk {σ : Sg} (hok : okM σ) {r : Nat} {d f a q : Int32} (hr : r < 8) (h : noDesk σ r d) : changeM σ (nI r) d f a q = (-2, refuseM σ (-2)) := by
  unfold changeM
  rw [if_neg (room_yes hr), ixn (by omega), if_pos (desk_no (σ := acc σ) (okM_acc hok) hr h), refuse_acc]
theorem chg_form {σ : Sg} (hok : okM σ) {r d : Nat} {f a q : Int32} (hr : r < 8) (hc : d < dcS σ r) (hf : isFormF f = 0) : changeM σ (nI r) (nI d) f a q = (-2, refuseM σ (-2)) := by
  unfold changeM
  rw [if_neg (room_yes hr), ixn (by omega), if_neg (desk_yes (σ := acc σ) (okM_acc hok) hr hc), if_pos (show isInF f 0 13 = 0 from hf), refuse_acc]
theorem chg_act {σ : Sg} (hok : okM σ) {r d : Nat} {f a q : Int32} (hr : r < 8) (hc : d < dcS σ r) (hf : ¬ isFormF f = 0) (ha : isActF a = 0) : changeM σ (nI r) (nI d) f a q = (-2, refuseM σ (-2)) := by
  unfold changeM
  rw [if_neg (room_yes hr), ixn (by omega), if_neg (desk_yes (σ := acc σ) (okM_acc hok) hr hc), if_neg (show ¬ isInF f 0 13 = 0 from hf), if_pos (show isInF a 0 4 = 0 from ha), refuse_acc]
theorem chg_ok {σ : Sg} (hok : okM σ) {r d : Nat} {f a q : Int32} (hr : r < 8) (hd : d < 4) (hc : d < dcS σ r) (hf : ¬ isFormF f = 0) (ha : ¬ isActF a = 0) : changeM σ (nI r) (nI d) f a q = (1, acc (sI (sI (sI σ 6 (4 * r + d) f) 7 (4 * r + d) a) 8 (4 * r + d) q)) := by
  unfold changeM settleM
  rw [if_neg (room_yes hr), ixn (by omega), if_neg (desk_yes (σ := acc σ) (okM_acc hok) hr hc), if_neg (show ¬ isInF f 0 13 = 0 from hf), if_neg (show ¬ isInF a 0 4 = 0 from ha), ix4n hr hd]
  unfold acc
  rw [sI_comm _ (show 15 ≠ 6 by decide), sI_comm _ (show 15 ≠ 7 by decide), sI_comm _ (show 15 ≠ 8 by decide)]

set_option maxHeartbeats 2000000 in
set_option maxRecDepth 100000 in
theorem c_X6_change_noroom (l : Launch) (D : tw_G) (ad : Nat → Nat) (b : tw_W) (σ : Sg) (h : Int32) (Q : Nat → Int32) (sz : Nat) (v w9 : Int32) (f a q : Int32) (hok : okM σ) (hq : q = 0 ∨ q = 1) (hv : v < 0 ∨ 8 ≤ v) : Met l yX6_change (tw_w yX6_change cX6_change 7 (some .int)) (tw_R 3 0 0) (tw_Pc D ad (wX b σ h Q) sz [.ref (ad 0), .int v, .int w9, .int f, .int a, .int q]) (tw_Q D ad (wX b ((changeM σ v w9 f a q).2) h Q) (tw_A ad (wX b σ h Q) sz) (some (.int (changeM σ v w9 f a q).1))) 0 0 (tw_A ad (wX b σ h Q) sz) := by
  refine tw_met (by decide) rfl (by simp [lg_sl, Value.category]) (fun p e s m below meth c ls S hK hr hlocks hnm hsz hI hl => ?_)
  have hx := S.1
  have hb := S.2.1
  have hl : lv_has ls 7 [(0, .ref (ad 0)), (1, .int v), (2, .int w9), (3, .int f), (4, .int a), (5, .int q)] := hl
  refine lv_aload_n hx hb dX6_change_0 rfl (lv_at hl 0 rfl) ?_
  refine lv_iload_n hx hb dX6_change_1 rfl (lv_at hl 1 rfl) ?_
  refine lv_iload_n hx hb dX6_change_2 rfl (lv_at hl 2 rfl) ?_
  refine tw_calla (tw_rV (As := [.int v, .int w9]) (rest := []) S hK hI kX6_131 (c_X6_findDesk_noroom l D ad _ _ _ _ _ _ _ hv) wX_0 rfl rfl ⟨Nat.le_of_ble_eq_true rfl, Nat.le_of_ble_eq_true rfl⟩ ⟨Nat.le_of_ble_eq_true rfl, Nat.le_of_ble_eq_true rfl⟩ rfl hl.1 rfl (Nat.le_of_ble_eq_true rfl) dX6_change_3) hI (fun H locs hI => ?_)
  refine lv_astoreN (lv' := [(6, .null), (0, .ref (ad 0)), (1, .int v), (2, .int w9), (3, .int f), (4, .int a), (5, .int q)]) hx hb dX6_change_6 hl (by decide) rfl (fun ls hl => ?_)
  refine lv_aloadN hx hb dX6_change_8 (lv_at hl 0 rfl) ?_
  refine lv_ifnullN (tgt := 28) hx hb dX6_change_10 (by decide) ?_
  refine lv_aload_n hx hb dX6_change_28 rfl (lv_at hl 1 rfl) ?_
  refine lv_bipush (v := (-2)) hx hb dX6_change_29 (by decide) ?_
  refine tw_calli (tw_rV (As := [.int (-2)]) (rest := []) S hK hI kX6_50 (c_X6_refuse l D ad _ _ _ _ _ _) wX_0 rfl rfl ⟨Nat.le_of_ble_eq_true rfl, Nat.le_of_ble_eq_true rfl⟩ ⟨Nat.le_of_ble_eq_true rfl, Nat.le_of_ble_eq_true rfl⟩ rfl hl.1 rfl (Nat.le_of_ble_eq_true rfl) dX6_change_31) hI (fun H locs hI => ?_)
  refine lv_topi (fun x1 e1 => ?_)
  subst e1
  rw [chg_noroom hv]
  exact tw_iret S hr hlocks hI dX6_change_34

set_option maxHeartbeats 2000000 in
set_option maxRecDepth 100000 in
theorem c_X6_change_nodesk (l : Launch) (D : tw_G) (ad : Nat → Nat) (b : tw_W) (σ : Sg) (h : Int32) (Q : Nat → Int32) (sz : Nat) (r : Nat) (v : Int32) (f a q : Int32) (hok : okM σ) (hq : q = 0 ∨ q = 1) (hr8 : r < 8) (hv : noDesk σ r v) : Met l yX6_change (tw_w yX6_change cX6_change 7 (some .int)) (tw_R 3 0 0) (tw_Pc D ad (wX b σ h Q) sz [.ref (ad 0), .int (nI r), .int v, .int f, .int a, .int q]) (tw_Q D ad (wX b ((changeM σ (nI r) v f a q).2) h Q) (tw_A ad (wX b σ h Q) sz) (some (.int (changeM σ (nI r) v f a q).1))) 0 0 (tw_A ad (wX b σ h Q) sz) := by
  refine tw_met (by decide) rfl (by simp [lg_sl, Value.category]) (fun p e s m below meth c ls S hK hr hlocks hnm hsz hI hl => ?_)
  have hx := S.1
  have hb := S.2.1
  have hl : lv_has ls 7 [(0, .ref (ad 0)), (1, .int (nI r)), (2, .int v), (3, .int f), (4, .int a), (5, .int q)] := hl
  refine lv_aload_n hx hb dX6_change_0 rfl (lv_at hl 0 rfl) ?_
  refine lv_iload_n hx hb dX6_change_1 rfl (lv_at hl 1 rfl) ?_
  refine lv_iload_n hx hb dX6_change_2 rfl (lv_at hl 2 rfl) ?_
  refine tw_calla (tw_rV (As := [.int (nI r), .int v]) (rest := []) S hK hI kX6_131 (c_X6_findDesk_nodesk l D ad _ _ _ _ _ _ _ hr8 (okD hok hr8).1 hv) wX_0 rfl rfl ⟨Nat.le_of_ble_eq_true rfl, Nat.le_of_ble_eq_true rfl⟩ ⟨Nat.le_of_ble_eq_true rfl, Nat.le_of_ble_eq_true rfl⟩ rfl hl.1 rfl (Nat.le_of_ble_eq_true rfl) dX6_change_3) hI (fun H locs hI => ?_)
  refine lv_astoreN (lv' := [(6, .null), (0, .ref (ad 0)), (1, .int (nI r)), (2, .int v), (3, .int f), (4, .int a), (5, .int q)]) hx hb dX6_change_6 hl (by decide) rfl (fun ls hl => ?_)
  refine lv_aloadN hx hb dX6_change_8 (lv_at hl 0 rfl) ?_
  refine lv_ifnullN (tgt := 28) hx hb dX6_change_10 (by decide) ?_
  refine lv_aload_n hx hb dX6_change_28 rfl (lv_at hl 1 rfl) ?_
  refine lv_bipush (v := (-2)) hx hb dX6_change_29 (by decide) ?_
  refine tw_calli (tw_rV (As := [.int (-2)]) (rest := []) S hK hI kX6_50 (c_X6_refuse l D ad _ _ _ _ _ _) wX_0 rfl rfl ⟨Nat.le_of_ble_eq_true rfl, Nat.le_of_ble_eq_true rfl⟩ ⟨Nat.le_of_ble_eq_true rfl, Nat.le_of_ble_eq_true rfl⟩ rfl hl.1 rfl (Nat.le_of_ble_eq_true rfl) dX6_change_31) hI (fun H locs hI => ?_)
  refine lv_topi (fun x1 e1 => ?_)
  subst e1
  rw [chg_nodesk hok hr8 hv]
  exact tw_iret S hr hlocks hI dX6_change_34

set_option maxHeartbeats 2000000 in
set_option maxRecDepth 100000 in
theorem c_X6_change_form (l : Launch) (D : tw_G) (ad : Nat → Nat) (b : tw_W) (σ : Sg) (h : Int32) (Q : Nat → Int32) (sz : Nat) (r d : Nat) (f a q : Int32) (hok : okM σ) (hq : q = 0 ∨ q = 1) (hr8 : r < 8) (hd4 : d < 4) (hc : d < dcS σ r) (hf : isFormF f = 0) : Met l yX6_change (tw_w yX6_change cX6_change 7 (some .int)) (tw_R 3 0 0) (tw_Pc D ad (wX b σ h Q) sz [.ref (ad 0), .int (nI r), .int (nI d), .int f, .int a, .int q]) (tw_Q D ad (wX b ((changeM σ (nI r) (nI d) f a q).2) h Q) (tw_A ad (wX b σ h Q) sz) (some (.int (changeM σ (nI r) (nI d) f a q).1))) 0 0 (tw_A ad (wX b σ h Q) sz) := by
  refine tw_met (by decide) rfl (by simp [lg_sl, Value.category]) (fun p e s m below meth c ls S hK hr hlocks hnm hsz hI hl => ?_)
  have hx := S.1
  have hb := S.2.1
  have hl : lv_has ls 7 [(0, .ref (ad 0)), (1, .int (nI r)), (2, .int (nI d)), (3, .int f), (4, .int a), (5, .int q)] := hl
  refine lv_aload_n hx hb dX6_change_0 rfl (lv_at hl 0 rfl) ?_
  refine lv_iload_n hx hb dX6_change_1 rfl (lv_at hl 1 rfl) ?_
  refine lv_iload_n hx hb dX6_change_2 rfl (lv_at hl 2 rfl) ?_
  refine tw_calla (tw_rV (As := [.int (nI r), .int (nI d)]) (rest := []) S hK hI kX6_131 (c_X6_findDesk_some l D ad _ _ _ _ _ _ _ hr8 hd4 hc) wX_0 rfl rfl ⟨Nat.le_of_ble_eq_true rfl, Nat.le_of_ble_eq_true rfl⟩ ⟨Nat.le_of_ble_eq_true rfl, Nat.le_of_ble_eq_true rfl⟩ rfl hl.1 rfl (Nat.le_of_ble_eq_true rfl) dX6_change_3) hI (fun H locs hI => ?_)
  refine lv_astore (lv' := [(6, .ref (ad (30 + (4 * r + d)))), (0, .ref (ad 0)), (1, .int (nI r)), (2, .int (nI d)), (3, .int f), (4, .int a), (5, .int q)]) hx hb dX6_change_6 hl (by decide) rfl (fun ls hl => ?_)
  refine lv_aload hx hb dX6_change_8 (lv_at hl 0 rfl) ?_
  refine lv_ifnull hx hb dX6_change_10 ?_
  refine lv_iload_n hx hb dX6_change_13 rfl (lv_at hl 4 rfl) ?_
  refine tw_calli (tw_rS (As := [.int f]) (rest := []) S hK hI kX6_101 (c_X6_isForm l D ad _ _ _) ⟨Nat.le_of_ble_eq_true rfl, Nat.le_of_ble_eq_true rfl⟩ ⟨Nat.le_of_ble_eq_true rfl, Nat.le_of_ble_eq_true rfl⟩ rfl hl.1 rfl (Nat.le_of_ble_eq_true rfl) dX6_change_14) hI (fun H locs hI => ?_)
  refine lv_topi (fun x1 e1 => ?_)
  refine lv_if_eq (tgt := 28) hx hb dX6_change_17 (by decide) (fun c2 => ?_) (fun c2 => ?_)
  · refine lv_aload_n hx hb dX6_change_28 rfl (lv_at hl 1 rfl) ?_
    refine lv_bipush (v := (-2)) hx hb dX6_change_29 (by decide) ?_
    refine tw_calli (tw_rV (As := [.int (-2)]) (rest := []) S hK hI kX6_50 (c_X6_refuse l D ad _ _ _ _ _ _) wX_0 rfl rfl ⟨Nat.le_of_ble_eq_true rfl, Nat.le_of_ble_eq_true rfl⟩ ⟨Nat.le_of_ble_eq_true rfl, Nat.le_of_ble_eq_true rfl⟩ rfl hl.1 rfl (Nat.le_of_ble_eq_true rfl) dX6_change_31) hI (fun H locs hI => ?_)
    refine lv_topi (fun x3 e3 => ?_)
    subst e3
    subst e1
    rw [chg_form hok hr8 hc hf]
    try rw [if_pos hf]
    exact tw_iret S hr hlocks hI dX6_change_34
  · exact (by subst e1; exact absurd hf c2)

set_option maxHeartbeats 2000000 in
set_option maxRecDepth 100000 in
theorem c_X6_change_act (l : Launch) (D : tw_G) (ad : Nat → Nat) (b : tw_W) (σ : Sg) (h : Int32) (Q : Nat → Int32) (sz : Nat) (r d : Nat) (f a q : Int32) (hok : okM σ) (hq : q = 0 ∨ q = 1) (hr8 : r < 8) (hd4 : d < 4) (hc : d < dcS σ r) (hf : ¬ isFormF f = 0) (ha : isActF a = 0) : Met l yX6_change (tw_w yX6_change cX6_change 7 (some .int)) (tw_R 3 0 0) (tw_Pc D ad (wX b σ h Q) sz [.ref (ad 0), .int (nI r), .int (nI d), .int f, .int a, .int q]) (tw_Q D ad (wX b ((changeM σ (nI r) (nI d) f a q).2) h Q) (tw_A ad (wX b σ h Q) sz) (some (.int (changeM σ (nI r) (nI d) f a q).1))) 0 0 (tw_A ad (wX b σ h Q) sz) := by
  refine tw_met (by decide) rfl (by simp [lg_sl, Value.category]) (fun p e s m below meth c ls S hK hr hlocks hnm hsz hI hl => ?_)
  have hx := S.1
  have hb := S.2.1
  have hl : lv_has ls 7 [(0, .ref (ad 0)), (1, .int (nI r)), (2, .int (nI d)), (3, .int f), (4, .int a), (5, .int q)] := hl
  refine lv_aload_n hx hb dX6_change_0 rfl (lv_at hl 0 rfl) ?_
  refine lv_iload_n hx hb dX6_change_1 rfl (lv_at hl 1 rfl) ?_
  refine lv_iload_n hx hb dX6_change_2 rfl (lv_at hl 2 rfl) ?_
  refine tw_calla (tw_rV (As := [.int (nI r), .int (nI d)]) (rest := []) S hK hI kX6_131 (c_X6_findDesk_some l D ad _ _ _ _ _ _ _ hr8 hd4 hc) wX_0 rfl rfl ⟨Nat.le_of_ble_eq_true rfl, Nat.le_of_ble_eq_true rfl⟩ ⟨Nat.le_of_ble_eq_true rfl, Nat.le_of_ble_eq_true rfl⟩ rfl hl.1 rfl (Nat.le_of_ble_eq_true rfl) dX6_change_3) hI (fun H locs hI => ?_)
  refine lv_astore (lv' := [(6, .ref (ad (30 + (4 * r + d)))), (0, .ref (ad 0)), (1, .int (nI r)), (2, .int (nI d)), (3, .int f), (4, .int a), (5, .int q)]) hx hb dX6_change_6 hl (by decide) rfl (fun ls hl => ?_)
  refine lv_aload hx hb dX6_change_8 (lv_at hl 0 rfl) ?_
  refine lv_ifnull hx hb dX6_change_10 ?_
  refine lv_iload_n hx hb dX6_change_13 rfl (lv_at hl 4 rfl) ?_
  refine tw_calli (tw_rS (As := [.int f]) (rest := []) S hK hI kX6_101 (c_X6_isForm l D ad _ _ _) ⟨Nat.le_of_ble_eq_true rfl, Nat.le_of_ble_eq_true rfl⟩ ⟨Nat.le_of_ble_eq_true rfl, Nat.le_of_ble_eq_true rfl⟩ rfl hl.1 rfl (Nat.le_of_ble_eq_true rfl) dX6_change_14) hI (fun H locs hI => ?_)
  refine lv_topi (fun x1 e1 => ?_)
  refine lv_if_eq (tgt := 28) hx hb dX6_change_17 (by decide) (fun c2 => ?_) (fun c2 => ?_)
  · exact (by subst e1; exact absurd c2 hf)
  · refine lv_iload hx hb dX6_change_20 (lv_at hl 5 rfl) ?_
    refine tw_calli (tw_rS (As := [.int a]) (rest := []) S hK hI kX6_116 (c_X6_isAct l D ad _ _ _) ⟨Nat.le_of_ble_eq_true rfl, Nat.le_of_ble_eq_true rfl⟩ ⟨Nat.le_of_ble_eq_true rfl, Nat.le_of_ble_eq_true rfl⟩ rfl hl.1 rfl (Nat.le_of_ble_eq_true rfl) dX6_change_22) hI (fun H locs hI => ?_)
    refine lv_topi (fun x3 e3 => ?_)
    refine lv_if_ne (tgt := 35) hx hb dX6_change_25 (by decide) (fun c4 => ?_) (fun c4 => ?_)
    · exact (by subst e3; subst e1; exact absurd ha c4)
    · refine lv_aload_n hx hb dX6_change_28 rfl (lv_at hl 1 rfl) ?_
      refine lv_bipush (v := (-2)) hx hb dX6_change_29 (by decide) ?_
      refine tw_calli (tw_rV (As := [.int (-2)]) (rest := []) S hK hI kX6_50 (c_X6_refuse l D ad _ _ _ _ _ _) wX_0 rfl rfl ⟨Nat.le_of_ble_eq_true rfl, Nat.le_of_ble_eq_true rfl⟩ ⟨Nat.le_of_ble_eq_true rfl, Nat.le_of_ble_eq_true rfl⟩ rfl hl.1 rfl (Nat.le_of_ble_eq_true rfl) dX6_change_31) hI (fun H locs hI => ?_)
      refine lv_topi (fun x5 e5 => ?_)
      subst e5
      subst e3
      subst e1
      rw [chg_act hok hr8 hc hf ha]
      try rw [if_neg hf]
      try rw [if_pos ha]
      exact tw_iret S hr hlocks hI dX6_change_34

set_option maxHeartbeats 2000000 in
set_option maxRecDepth 100000 in
theorem c_X6_change_ok (l : Launch) (D : tw_G) (ad : Nat → Nat) (b : tw_W) (σ : Sg) (h : Int32) (Q : Nat → Int32) (sz : Nat) (r d : Nat) (f a q : Int32) (hok : okM σ) (hq : q = 0 ∨ q = 1) (hr8 : r < 8) (hd4 : d < 4) (hc : d < dcS σ r) (hf : ¬ isFormF f = 0) (ha : ¬ isActF a = 0) : Met l yX6_change (tw_w yX6_change cX6_change 7 (some .int)) (tw_R 3 0 0) (tw_Pc D ad (wX b σ h Q) sz [.ref (ad 0), .int (nI r), .int (nI d), .int f, .int a, .int q]) (tw_Q D ad (wX b ((changeM σ (nI r) (nI d) f a q).2) h Q) (tw_A ad (wX b σ h Q) sz) (some (.int (changeM σ (nI r) (nI d) f a q).1))) 0 0 (tw_A ad (wX b σ h Q) sz) := by
  refine tw_met (by decide) rfl (by simp [lg_sl, Value.category]) (fun p e s m below meth c ls S hK hr hlocks hnm hsz hI hl => ?_)
  have hx := S.1
  have hb := S.2.1
  have hl : lv_has ls 7 [(0, .ref (ad 0)), (1, .int (nI r)), (2, .int (nI d)), (3, .int f), (4, .int a), (5, .int q)] := hl
  refine lv_aload_n hx hb dX6_change_0 rfl (lv_at hl 0 rfl) ?_
  refine lv_iload_n hx hb dX6_change_1 rfl (lv_at hl 1 rfl) ?_
  refine lv_iload_n hx hb dX6_change_2 rfl (lv_at hl 2 rfl) ?_
  refine tw_calla (tw_rV (As := [.int (nI r), .int (nI d)]) (rest := []) S hK hI kX6_131 (c_X6_findDesk_some l D ad _ _ _ _ _ _ _ hr8 hd4 hc) wX_0 rfl rfl ⟨Nat.le_of_ble_eq_true rfl, Nat.le_of_ble_eq_true rfl⟩ ⟨Nat.le_of_ble_eq_true rfl, Nat.le_of_ble_eq_true rfl⟩ rfl hl.1 rfl (Nat.le_of_ble_eq_true rfl) dX6_change_3) hI (fun H locs hI => ?_)
  refine lv_astore (lv' := [(6, .ref (ad (30 + (4 * r + d)))), (0, .ref (ad 0)), (1, .int (nI r)), (2, .int (nI d)), (3, .int f), (4, .int a), (5, .int q)]) hx hb dX6_change_6 hl (by decide) rfl (fun ls hl => ?_)
  refine lv_aload hx hb dX6_change_8 (lv_at hl 0 rfl) ?_
  refine lv_ifnull hx hb dX6_change_10 ?_
  refine lv_iload_n hx hb dX6_change_13 rfl (lv_at hl 4 rfl) ?_
  refine tw_calli (tw_rS (As := [.int f]) (rest := []) S hK hI kX6_101 (c_X6_isForm l D ad _ _ _) ⟨Nat.le_of_ble_eq_true rfl, Nat.le_of_ble_eq_true rfl⟩ ⟨Nat.le_of_ble_eq_true rfl, Nat.le_of_ble_eq_true rfl⟩ rfl hl.1 rfl (Nat.le_of_ble_eq_true rfl) dX6_change_14) hI (fun H locs hI => ?_)
  refine lv_topi (fun x1 e1 => ?_)
  refine lv_if_eq (tgt := 28) hx hb dX6_change_17 (by decide) (fun c2 => ?_) (fun c2 => ?_)
  · exact (by subst e1; exact absurd c2 hf)
  · refine lv_iload hx hb dX6_change_20 (lv_at hl 5 rfl) ?_
    refine tw_calli (tw_rS (As := [.int a]) (rest := []) S hK hI kX6_116 (c_X6_isAct l D ad _ _ _) ⟨Nat.le_of_ble_eq_true rfl, Nat.le_of_ble_eq_true rfl⟩ ⟨Nat.le_of_ble_eq_true rfl, Nat.le_of_ble_eq_true rfl⟩ rfl hl.1 rfl (Nat.le_of_ble_eq_true rfl) dX6_change_22) hI (fun H locs hI => ?_)
    refine lv_topi (fun x3 e3 => ?_)
    refine lv_if_ne (tgt := 35) hx hb dX6_change_25 (by decide) (fun c4 => ?_) (fun c4 => ?_)
    · refine lv_aload hx hb dX6_change_35 (lv_at hl 0 rfl) ?_
      refine lv_iload_n hx hb dX6_change_37 rfl (lv_at hl 4 rfl) ?_
      refine pd_135 (d := 4 * r + d) S hK hI (by omega) (deskC hd4 hc) dX6_change_38 (fun H locs hI => ?_)
      refine lv_aload hx hb dX6_change_41 (lv_at hl 0 rfl) ?_
      refine lv_iload hx hb dX6_change_43 (lv_at hl 5 rfl) ?_
      refine pd_138 (d := 4 * r + d) S hK hI (by omega) (deskC hd4 hc) dX6_change_45 (fun H locs hI => ?_)
      refine lv_aload hx hb dX6_change_48 (lv_at hl 0 rfl) ?_
      refine lv_iload hx hb dX6_change_50 (lv_at hl 6 rfl) ?_
      refine pd_141 (d := 4 * r + d) S hK hI (by omega) (deskC hd4 hc) hq dX6_change_52 (fun H locs hI => ?_)
      refine lv_aload_n hx hb dX6_change_55 rfl (lv_at hl 1 rfl) ?_
      refine lv_iconst (v := 1) hx hb dX6_change_56 (by decide) ?_
      refine tw_calli (tw_rV (As := [.int 1]) (rest := []) S hK hI kX6_62 (c_X6_accept l D ad _ _ _ _ _ _) wX_0 rfl rfl ⟨Nat.le_of_ble_eq_true rfl, Nat.le_of_ble_eq_true rfl⟩ ⟨Nat.le_of_ble_eq_true rfl, Nat.le_of_ble_eq_true rfl⟩ rfl hl.1 rfl (Nat.le_of_ble_eq_true rfl) dX6_change_57) hI (fun H locs hI => ?_)
      refine lv_topi (fun x5 e5 => ?_)
      subst e5
      subst e3
      subst e1
      rw [chg_ok hok hr8 hd4 hc hf ha]
      try rw [if_neg hf]
      try rw [if_neg ha]
      exact tw_iret S hr hlocks hI dX6_change_60
    · exact (by subst e3; subst e1; exact absurd c4 ha)

theorem c_X6_change (l : Launch) (D : tw_G) (ad : Nat → Nat) (b : tw_W) (σ : Sg) (h : Int32) (Q : Nat → Int32) (sz : Nat) (v w9 f a q : Int32) (hok : okM σ) (hq : q = 0 ∨ q = 1) : Met l yX6_change (tw_w yX6_change cX6_change 7 (some .int)) (tw_R 3 0 0) (tw_Pc D ad (wX b σ h Q) sz [.ref (ad 0), .int v, .int w9, .int f, .int a, .int q]) (tw_Q D ad (wX b ((changeM σ v w9 f a q).2) h Q) (tw_A ad (wX b σ h Q) sz) (some (.int (changeM σ v w9 f a q).1))) 0 0 (tw_A ad (wX b σ h Q) sz) := by
  rcases room_or v with hv | ⟨r, hr8, rfl⟩
  · exact c_X6_change_noroom l D ad b σ h Q sz v w9 f a q hok hq hv
  · rcases desk_or σ r w9 (okD hok hr8).1 with hv | ⟨d, hc, hd4, rfl⟩
    · exact c_X6_change_nodesk l D ad b σ h Q sz r w9 f a q hok hq hr8 hv
    · by_cases hf : isFormF f = 0
      · exact c_X6_change_form l D ad b σ h Q sz r d f a q hok hq hr8 hd4 hc hf
      · by_cases ha : isActF a = 0
        · exact c_X6_change_act l D ad b σ h Q sz r d f a q hok hq hr8 hd4 hc hf ha
        · exact c_X6_change_ok l D ad b σ h Q sz r d f a q hok hq hr8 hd4 hc hf ha
def takesX (κ lam : Int32) : Int32 := if isOfX lam (takenX κ) = 0 then 0 else 1
def canX (κ lam : Int32) : Int32 := if κ = 9 then (if lam = 6 then 1 else 0) else if κ = 12 then (if lam = 9 then 1 else 0) else isOfX lam (takenX κ)

set_option maxHeartbeats 2000000 in
set_option maxRecDepth 100000 in
theorem c_X5_takes_nil (l : Launch) (D : tw_G) (ad : Nat → Nat) (b : tw_W) (σ : Sg) (h : Int32) (Q : Nat → Int32) (sz : Nat) (k : Nat) (hn : k < nS σ) (h6 : k < 60) (hN : isNumK (σ.1 1 k) = false) (hO : isOneK (σ.1 1 k) = false) : Met l yX5_takes (tw_w yX5_takes cX5_takes 2 (some .boolean)) (tw_R 2 0 0) (tw_Pc D ad (wX b σ h Q) sz [.ref (ad (100 + k)), .null]) (tw_Q D ad (wX b (σ) h Q) (tw_A ad (wX b σ h Q) sz) (some (.int 1))) 0 0 (tw_A ad (wX b σ h Q) sz) := by
  refine tw_met (by decide) rfl (by simp [lg_sl, Value.category]) (fun p e s m below meth c ls S hK hr hlocks hnm hsz hI hl => ?_)
  have hx := S.1
  have hb := S.2.1
  have hl : lv_has ls 2 [(0, .ref (ad (100 + k))), (1, .null)] := hl
  refine lv_aload_nN hx hb dX5_takes_0 rfl (lv_at hl 1 rfl) ?_
  refine lv_ifnullN (tgt := 15) hx hb dX5_takes_1 (by decide) ?_
  refine lv_iconst (v := 1) hx hb dX5_takes_15 (by decide) ?_
  refine lv_goto (tgt := 20) hx hb dX5_takes_16 (by decide) ?_
  exact tw_zret S hr (by decide) hlocks hI dX5_takes_20

set_option maxHeartbeats 2000000 in
set_option maxRecDepth 100000 in
theorem c_X5_takes_num (l : Launch) (D : tw_G) (ad : Nat → Nat) (b : tw_W) (σ : Sg) (h : Int32) (Q : Nat → Int32) (sz : Nat) (k q : Nat) (hn : k < nS σ) (h6 : k < 60) (hN : isNumK (σ.1 1 k) = false) (hO : isOneK (σ.1 1 k) = false) (hq : q < nS σ) (hq6 : q < 60) (hqN : isNumK (σ.1 1 q) = true) : Met l yX5_takes (tw_w yX5_takes cX5_takes 2 (some .boolean)) (tw_R 2 0 0) (tw_Pc D ad (wX b σ h Q) sz [.ref (ad (100 + k)), .ref (ad (100 + q))]) (tw_Q D ad (wX b (σ) h Q) (tw_A ad (wX b σ h Q) sz) (some (.int (takesX (σ.1 1 k) (σ.1 1 q))))) 0 0 (tw_A ad (wX b σ h Q) sz) := by
  refine tw_met (by decide) rfl (by simp [lg_sl, Value.category]) (fun p e s m below meth c ls S hK hr hlocks hnm hsz hI hl => ?_)
  have hx := S.1
  have hb := S.2.1
  have hl : lv_has ls 2 [(0, .ref (ad (100 + k))), (1, .ref (ad (100 + q)))] := hl
  refine lv_aload_n hx hb dX5_takes_0 rfl (lv_at hl 1 rfl) ?_
  refine lv_ifnull hx hb dX5_takes_1 ?_
  refine lv_aload_n hx hb dX5_takes_4 rfl (lv_at hl 1 rfl) ?_
  refine lv_aload_n hx hb dX5_takes_5 rfl (lv_at hl 0 rfl) ?_
  refine tw_calli (tw_rV (As := []) (rest := [.ref (ad (100 + q))]) S hK hI kX5_15 (c_X5_takenForm l D ad _ _ _ _ _ _ hn h6 hN hO) (xI_th hn h6 hN hO) rfl rfl ⟨Nat.le_of_ble_eq_true rfl, Nat.le_of_ble_eq_true rfl⟩ ⟨Nat.le_of_ble_eq_true rfl, Nat.le_of_ble_eq_true rfl⟩ rfl hl.1 rfl (Nat.le_of_ble_eq_true rfl) dX5_takes_6) hI (fun H locs hI => ?_)
  refine lv_topi (fun x1 e1 => ?_)
  refine tw_calli (tw_rU (As := [.int x1]) (rest := []) S hK hI kX5_19_X2 (c_X1_isOf l D ad _ _ _ _ _ _ _ hq hq6) (xI_num hq hq6 hqN) rfl rfl ⟨Nat.le_of_ble_eq_true rfl, Nat.le_of_ble_eq_true rfl⟩ ⟨Nat.le_of_ble_eq_true rfl, Nat.le_of_ble_eq_true rfl⟩ rfl hl.1 rfl (Nat.le_of_ble_eq_true rfl) dX5_takes_9) hI (fun H locs hI => ?_)
  refine lv_topi (fun x2 e2 => ?_)
  refine lv_if_eq (tgt := 19) hx hb dX5_takes_12 (by decide) (fun c3 => ?_) (fun c3 => ?_)
  · refine lv_iconst (v := 0) hx hb dX5_takes_19 (by decide) ?_
    subst e2
    subst e1
    unfold takesX
    try rw [if_pos c3]
    exact tw_zret S hr (by decide) hlocks hI dX5_takes_20
  · refine lv_iconst (v := 1) hx hb dX5_takes_15 (by decide) ?_
    refine lv_goto (tgt := 20) hx hb dX5_takes_16 (by decide) ?_
    subst e2
    subst e1
    unfold takesX
    try rw [if_neg c3]
    exact tw_zret S hr (by decide) hlocks hI dX5_takes_20

set_option maxHeartbeats 2000000 in
set_option maxRecDepth 100000 in
theorem c_X5_takes_one (l : Launch) (D : tw_G) (ad : Nat → Nat) (b : tw_W) (σ : Sg) (h : Int32) (Q : Nat → Int32) (sz : Nat) (k q : Nat) (hn : k < nS σ) (h6 : k < 60) (hN : isNumK (σ.1 1 k) = false) (hO : isOneK (σ.1 1 k) = false) (hq : q < nS σ) (hq6 : q < 60) (hqN : isNumK (σ.1 1 q) = false) (hqO : isOneK (σ.1 1 q) = true) : Met l yX5_takes (tw_w yX5_takes cX5_takes 2 (some .boolean)) (tw_R 2 0 0) (tw_Pc D ad (wX b σ h Q) sz [.ref (ad (100 + k)), .ref (ad (100 + q))]) (tw_Q D ad (wX b (σ) h Q) (tw_A ad (wX b σ h Q) sz) (some (.int (takesX (σ.1 1 k) (σ.1 1 q))))) 0 0 (tw_A ad (wX b σ h Q) sz) := by
  refine tw_met (by decide) rfl (by simp [lg_sl, Value.category]) (fun p e s m below meth c ls S hK hr hlocks hnm hsz hI hl => ?_)
  have hx := S.1
  have hb := S.2.1
  have hl : lv_has ls 2 [(0, .ref (ad (100 + k))), (1, .ref (ad (100 + q)))] := hl
  refine lv_aload_n hx hb dX5_takes_0 rfl (lv_at hl 1 rfl) ?_
  refine lv_ifnull hx hb dX5_takes_1 ?_
  refine lv_aload_n hx hb dX5_takes_4 rfl (lv_at hl 1 rfl) ?_
  refine lv_aload_n hx hb dX5_takes_5 rfl (lv_at hl 0 rfl) ?_
  refine tw_calli (tw_rV (As := []) (rest := [.ref (ad (100 + q))]) S hK hI kX5_15 (c_X5_takenForm l D ad _ _ _ _ _ _ hn h6 hN hO) (xI_th hn h6 hN hO) rfl rfl ⟨Nat.le_of_ble_eq_true rfl, Nat.le_of_ble_eq_true rfl⟩ ⟨Nat.le_of_ble_eq_true rfl, Nat.le_of_ble_eq_true rfl⟩ rfl hl.1 rfl (Nat.le_of_ble_eq_true rfl) dX5_takes_6) hI (fun H locs hI => ?_)
  refine lv_topi (fun x1 e1 => ?_)
  refine tw_calli (tw_rU (As := [.int x1]) (rest := []) S hK hI kX5_19_X3 (c_X1_isOf l D ad _ _ _ _ _ _ _ hq hq6) (xI_one hq hq6 hqN hqO) rfl rfl ⟨Nat.le_of_ble_eq_true rfl, Nat.le_of_ble_eq_true rfl⟩ ⟨Nat.le_of_ble_eq_true rfl, Nat.le_of_ble_eq_true rfl⟩ rfl hl.1 rfl (Nat.le_of_ble_eq_true rfl) dX5_takes_9) hI (fun H locs hI => ?_)
  refine lv_topi (fun x2 e2 => ?_)
  refine lv_if_eq (tgt := 19) hx hb dX5_takes_12 (by decide) (fun c3 => ?_) (fun c3 => ?_)
  · refine lv_iconst (v := 0) hx hb dX5_takes_19 (by decide) ?_
    subst e2
    subst e1
    unfold takesX
    try rw [if_pos c3]
    exact tw_zret S hr (by decide) hlocks hI dX5_takes_20
  · refine lv_iconst (v := 1) hx hb dX5_takes_15 (by decide) ?_
    refine lv_goto (tgt := 20) hx hb dX5_takes_16 (by decide) ?_
    subst e2
    subst e1
    unfold takesX
    try rw [if_neg c3]
    exact tw_zret S hr (by decide) hlocks hI dX5_takes_20

set_option maxHeartbeats 2000000 in
set_option maxRecDepth 100000 in
theorem c_X5_takes_th (l : Launch) (D : tw_G) (ad : Nat → Nat) (b : tw_W) (σ : Sg) (h : Int32) (Q : Nat → Int32) (sz : Nat) (k q : Nat) (hn : k < nS σ) (h6 : k < 60) (hN : isNumK (σ.1 1 k) = false) (hO : isOneK (σ.1 1 k) = false) (hq : q < nS σ) (hq6 : q < 60) (hqN : isNumK (σ.1 1 q) = false) (hqO : isOneK (σ.1 1 q) = false) : Met l yX5_takes (tw_w yX5_takes cX5_takes 2 (some .boolean)) (tw_R 2 0 0) (tw_Pc D ad (wX b σ h Q) sz [.ref (ad (100 + k)), .ref (ad (100 + q))]) (tw_Q D ad (wX b (σ) h Q) (tw_A ad (wX b σ h Q) sz) (some (.int (takesX (σ.1 1 k) (σ.1 1 q))))) 0 0 (tw_A ad (wX b σ h Q) sz) := by
  refine tw_met (by decide) rfl (by simp [lg_sl, Value.category]) (fun p e s m below meth c ls S hK hr hlocks hnm hsz hI hl => ?_)
  have hx := S.1
  have hb := S.2.1
  have hl : lv_has ls 2 [(0, .ref (ad (100 + k))), (1, .ref (ad (100 + q)))] := hl
  refine lv_aload_n hx hb dX5_takes_0 rfl (lv_at hl 1 rfl) ?_
  refine lv_ifnull hx hb dX5_takes_1 ?_
  refine lv_aload_n hx hb dX5_takes_4 rfl (lv_at hl 1 rfl) ?_
  refine lv_aload_n hx hb dX5_takes_5 rfl (lv_at hl 0 rfl) ?_
  refine tw_calli (tw_rV (As := []) (rest := [.ref (ad (100 + q))]) S hK hI kX5_15 (c_X5_takenForm l D ad _ _ _ _ _ _ hn h6 hN hO) (xI_th hn h6 hN hO) rfl rfl ⟨Nat.le_of_ble_eq_true rfl, Nat.le_of_ble_eq_true rfl⟩ ⟨Nat.le_of_ble_eq_true rfl, Nat.le_of_ble_eq_true rfl⟩ rfl hl.1 rfl (Nat.le_of_ble_eq_true rfl) dX5_takes_6) hI (fun H locs hI => ?_)
  refine lv_topi (fun x1 e1 => ?_)
  refine tw_calli (tw_rU (As := [.int x1]) (rest := []) S hK hI kX5_19_X5 (c_X1_isOf l D ad _ _ _ _ _ _ _ hq hq6) (xI_th hq hq6 hqN hqO) rfl rfl ⟨Nat.le_of_ble_eq_true rfl, Nat.le_of_ble_eq_true rfl⟩ ⟨Nat.le_of_ble_eq_true rfl, Nat.le_of_ble_eq_true rfl⟩ rfl hl.1 rfl (Nat.le_of_ble_eq_true rfl) dX5_takes_9) hI (fun H locs hI => ?_)
  refine lv_topi (fun x2 e2 => ?_)
  refine lv_if_eq (tgt := 19) hx hb dX5_takes_12 (by decide) (fun c3 => ?_) (fun c3 => ?_)
  · refine lv_iconst (v := 0) hx hb dX5_takes_19 (by decide) ?_
    subst e2
    subst e1
    unfold takesX
    try rw [if_pos c3]
    exact tw_zret S hr (by decide) hlocks hI dX5_takes_20
  · refine lv_iconst (v := 1) hx hb dX5_takes_15 (by decide) ?_
    refine lv_goto (tgt := 20) hx hb dX5_takes_16 (by decide) ?_
    subst e2
    subst e1
    unfold takesX
    try rw [if_neg c3]
    exact tw_zret S hr (by decide) hlocks hI dX5_takes_20

theorem c_X5_takes_q (l : Launch) (D : tw_G) (ad : Nat → Nat) (b : tw_W) (σ : Sg) (h : Int32) (Q : Nat → Int32) (sz : Nat) (k q : Nat) (hn : k < nS σ) (h6 : k < 60) (hN : isNumK (σ.1 1 k) = false) (hO : isOneK (σ.1 1 k) = false) (hq : q < nS σ) (hq6 : q < 60) : Met l yX5_takes (tw_w yX5_takes cX5_takes 2 (some .boolean)) (tw_R 2 0 0) (tw_Pc D ad (wX b σ h Q) sz [.ref (ad (100 + k)), .ref (ad (100 + q))]) (tw_Q D ad (wX b (σ) h Q) (tw_A ad (wX b σ h Q) sz) (some (.int (takesX (σ.1 1 k) (σ.1 1 q))))) 0 0 (tw_A ad (wX b σ h Q) sz) := by
  cases hqN : isNumK (σ.1 1 q) with
  | true => exact c_X5_takes_num l D ad b σ h Q sz k q hn h6 hN hO hq hq6 hqN
  | false =>
    cases hqO : isOneK (σ.1 1 q) with
    | true => exact c_X5_takes_one l D ad b σ h Q sz k q hn h6 hN hO hq hq6 hqN hqO
    | false => exact c_X5_takes_th l D ad b σ h Q sz k q hn h6 hN hO hq hq6 hqN hqO
set_option maxHeartbeats 2000000 in
set_option maxRecDepth 100000 in
theorem c_X5_canHold_nil (l : Launch) (D : tw_G) (ad : Nat → Nat) (b : tw_W) (σ : Sg) (h : Int32) (Q : Nat → Int32) (sz : Nat) (k : Nat) (hn : k < nS σ) (h6 : k < 60) (hN : isNumK (σ.1 1 k) = false) (hO : isOneK (σ.1 1 k) = false) : Met l yX5_canHold (tw_w yX5_canHold cX5_canHold 2 (some .boolean)) (tw_R 2 0 0) (tw_Pc D ad (wX b σ h Q) sz [.ref (ad (100 + k)), .null]) (tw_Q D ad (wX b (σ) h Q) (tw_A ad (wX b σ h Q) sz) (some (.int 1))) 0 0 (tw_A ad (wX b σ h Q) sz) := by
  refine tw_met (by decide) rfl (by simp [lg_sl, Value.category]) (fun p e s m below meth c ls S hK hr hlocks hnm hsz hI hl => ?_)
  have hx := S.1
  have hb := S.2.1
  have hl : lv_has ls 2 [(0, .ref (ad (100 + k))), (1, .null)] := hl
  refine lv_aload_nN hx hb dX5_canHold_0 rfl (lv_at hl 1 rfl) ?_
  refine lv_ifnonnullN hx hb dX5_canHold_1 ?_
  refine lv_iconst (v := 1) hx hb dX5_canHold_4 (by decide) ?_
  exact tw_zret S hr (by decide) hlocks hI dX5_canHold_5

set_option maxHeartbeats 2000000 in
set_option maxRecDepth 100000 in
theorem c_X5_canHold_num (l : Launch) (D : tw_G) (ad : Nat → Nat) (b : tw_W) (σ : Sg) (h : Int32) (Q : Nat → Int32) (sz : Nat) (k q : Nat) (hn : k < nS σ) (h6 : k < 60) (hN : isNumK (σ.1 1 k) = false) (hO : isOneK (σ.1 1 k) = false) (hq : q < nS σ) (hq6 : q < 60) (hqN : isNumK (σ.1 1 q) = true) : Met l yX5_canHold (tw_w yX5_canHold cX5_canHold 2 (some .boolean)) (tw_R 2 0 0) (tw_Pc D ad (wX b σ h Q) sz [.ref (ad (100 + k)), .ref (ad (100 + q))]) (tw_Q D ad (wX b (σ) h Q) (tw_A ad (wX b σ h Q) sz) (some (.int (canX (σ.1 1 k) (σ.1 1 q))))) 0 0 (tw_A ad (wX b σ h Q) sz) := by
  refine tw_met (by decide) rfl (by simp [lg_sl, Value.category]) (fun p e s m below meth c ls S hK hr hlocks hnm hsz hI hl => ?_)
  have hx := S.1
  have hb := S.2.1
  have hl : lv_has ls 2 [(0, .ref (ad (100 + k))), (1, .ref (ad (100 + q)))] := hl
  refine lv_aload_n hx hb dX5_canHold_0 rfl (lv_at hl 1 rfl) ?_
  refine lv_ifnonnull (tgt := 6) hx hb dX5_canHold_1 (by decide) ?_
  refine lv_aload_n hx hb dX5_canHold_6 rfl (lv_at hl 0 rfl) ?_
  refine f5_23_5 S hK hI (xI_th hn h6 hN hO) rfl (v' := .int (σ.1 1 k)) rfl dX5_canHold_7 ?_
  refine lv_topi (fun x1 e1 => ?_)
  by_cases h2 : x1 = 9
  · refine lv_lookup (off := 26) (tgt := 36) hx hb dX5_canHold_10 (by decide) (by rw [h2]; decide) (by decide) ?_
    refine lv_aload_n hx hb dX5_canHold_36 rfl (lv_at hl 1 rfl) ?_
    refine f5_27_2 S hK hI (xI_num hq hq6 hqN) rfl (v' := .int (σ.1 1 q)) rfl dX5_canHold_37 ?_
    refine lv_topi (fun x3 e3 => ?_)
    refine lv_bipush (v := 6) hx hb dX5_canHold_40 (by decide) ?_
    refine lv_icmp_ne (tgt := 49) hx hb dX5_canHold_42 (by decide) (fun c4 => ?_) (fun c4 => ?_)
    · refine lv_iconst (v := 0) hx hb dX5_canHold_49 (by decide) ?_
      subst e3
      subst e1
      unfold canX
      try rw [if_pos h2]
      try rw [if_neg c4]
      exact tw_zret S hr (by decide) hlocks hI dX5_canHold_50
    · refine lv_iconst (v := 1) hx hb dX5_canHold_45 (by decide) ?_
      refine lv_goto (tgt := 50) hx hb dX5_canHold_46 (by decide) ?_
      subst e3
      subst e1
      unfold canX
      try rw [if_pos h2]
      try rw [if_pos c4]
      exact tw_zret S hr (by decide) hlocks hI dX5_canHold_50
  · by_cases g2 : x1 = 12
    · refine lv_lookup (off := 41) (tgt := 51) hx hb dX5_canHold_10 (by decide) (by rw [g2]; decide) (by decide) ?_
      refine lv_aload_n hx hb dX5_canHold_51 rfl (lv_at hl 1 rfl) ?_
      refine f5_27_2 S hK hI (xI_num hq hq6 hqN) rfl (v' := .int (σ.1 1 q)) rfl dX5_canHold_52 ?_
      refine lv_topi (fun x5 e5 => ?_)
      refine lv_bipush (v := 9) hx hb dX5_canHold_55 (by decide) ?_
      refine lv_icmp_ne (tgt := 64) hx hb dX5_canHold_57 (by decide) (fun c6 => ?_) (fun c6 => ?_)
      · refine lv_iconst (v := 0) hx hb dX5_canHold_64 (by decide) ?_
        subst e5
        subst e1
        unfold canX
        try rw [if_neg h2]
        try rw [if_pos g2]
        try rw [if_neg c6]
        exact tw_zret S hr (by decide) hlocks hI dX5_canHold_65
      · refine lv_iconst (v := 1) hx hb dX5_canHold_60 (by decide) ?_
        refine lv_goto (tgt := 65) hx hb dX5_canHold_61 (by decide) ?_
        subst e5
        subst e1
        unfold canX
        try rw [if_neg h2]
        try rw [if_pos g2]
        try rw [if_pos c6]
        exact tw_zret S hr (by decide) hlocks hI dX5_canHold_65
    · refine lv_lookup (off := 56) (tgt := 66) hx hb dX5_canHold_10 (by decide) ((lv_osw h2 (by decide)).trans ((lv_osw g2 (by decide)).trans rfl)) (by decide) ?_
      refine lv_aload_n hx hb dX5_canHold_66 rfl (lv_at hl 1 rfl) ?_
      refine lv_aload_n hx hb dX5_canHold_67 rfl (lv_at hl 0 rfl) ?_
      refine tw_calli (tw_rV (As := []) (rest := [.ref (ad (100 + q))]) S hK hI kX5_15 (c_X5_takenForm l D ad _ _ _ _ _ _ hn h6 hN hO) (xI_th hn h6 hN hO) rfl rfl ⟨Nat.le_of_ble_eq_true rfl, Nat.le_of_ble_eq_true rfl⟩ ⟨Nat.le_of_ble_eq_true rfl, Nat.le_of_ble_eq_true rfl⟩ rfl hl.1 rfl (Nat.le_of_ble_eq_true rfl) dX5_canHold_68) hI (fun H locs hI => ?_)
      refine lv_topi (fun x7 e7 => ?_)
      refine tw_calli (tw_rU (As := [.int x7]) (rest := []) S hK hI kX5_19_X2 (c_X1_isOf l D ad _ _ _ _ _ _ _ hq hq6) (xI_num hq hq6 hqN) rfl rfl ⟨Nat.le_of_ble_eq_true rfl, Nat.le_of_ble_eq_true rfl⟩ ⟨Nat.le_of_ble_eq_true rfl, Nat.le_of_ble_eq_true rfl⟩ rfl hl.1 rfl (Nat.le_of_ble_eq_true rfl) dX5_canHold_71) hI (fun H locs hI => ?_)
      refine lv_topi (fun x8 e8 => ?_)
      subst e8
      subst e7
      subst e1
      unfold canX
      try rw [if_neg h2]
      try rw [if_neg g2]
      exact tw_zret S hr (isOfX_b _ _) hlocks hI dX5_canHold_74

set_option maxHeartbeats 2000000 in
set_option maxRecDepth 100000 in
theorem c_X5_canHold_one (l : Launch) (D : tw_G) (ad : Nat → Nat) (b : tw_W) (σ : Sg) (h : Int32) (Q : Nat → Int32) (sz : Nat) (k q : Nat) (hn : k < nS σ) (h6 : k < 60) (hN : isNumK (σ.1 1 k) = false) (hO : isOneK (σ.1 1 k) = false) (hq : q < nS σ) (hq6 : q < 60) (hqN : isNumK (σ.1 1 q) = false) (hqO : isOneK (σ.1 1 q) = true) : Met l yX5_canHold (tw_w yX5_canHold cX5_canHold 2 (some .boolean)) (tw_R 2 0 0) (tw_Pc D ad (wX b σ h Q) sz [.ref (ad (100 + k)), .ref (ad (100 + q))]) (tw_Q D ad (wX b (σ) h Q) (tw_A ad (wX b σ h Q) sz) (some (.int (canX (σ.1 1 k) (σ.1 1 q))))) 0 0 (tw_A ad (wX b σ h Q) sz) := by
  refine tw_met (by decide) rfl (by simp [lg_sl, Value.category]) (fun p e s m below meth c ls S hK hr hlocks hnm hsz hI hl => ?_)
  have hx := S.1
  have hb := S.2.1
  have hl : lv_has ls 2 [(0, .ref (ad (100 + k))), (1, .ref (ad (100 + q)))] := hl
  refine lv_aload_n hx hb dX5_canHold_0 rfl (lv_at hl 1 rfl) ?_
  refine lv_ifnonnull (tgt := 6) hx hb dX5_canHold_1 (by decide) ?_
  refine lv_aload_n hx hb dX5_canHold_6 rfl (lv_at hl 0 rfl) ?_
  refine f5_23_5 S hK hI (xI_th hn h6 hN hO) rfl (v' := .int (σ.1 1 k)) rfl dX5_canHold_7 ?_
  refine lv_topi (fun x1 e1 => ?_)
  by_cases h2 : x1 = 9
  · refine lv_lookup (off := 26) (tgt := 36) hx hb dX5_canHold_10 (by decide) (by rw [h2]; decide) (by decide) ?_
    refine lv_aload_n hx hb dX5_canHold_36 rfl (lv_at hl 1 rfl) ?_
    refine f5_27_3 S hK hI (xI_one hq hq6 hqN hqO) rfl (v' := .int (σ.1 1 q)) rfl dX5_canHold_37 ?_
    refine lv_topi (fun x3 e3 => ?_)
    refine lv_bipush (v := 6) hx hb dX5_canHold_40 (by decide) ?_
    refine lv_icmp_ne (tgt := 49) hx hb dX5_canHold_42 (by decide) (fun c4 => ?_) (fun c4 => ?_)
    · refine lv_iconst (v := 0) hx hb dX5_canHold_49 (by decide) ?_
      subst e3
      subst e1
      unfold canX
      try rw [if_pos h2]
      try rw [if_neg c4]
      exact tw_zret S hr (by decide) hlocks hI dX5_canHold_50
    · refine lv_iconst (v := 1) hx hb dX5_canHold_45 (by decide) ?_
      refine lv_goto (tgt := 50) hx hb dX5_canHold_46 (by decide) ?_
      subst e3
      subst e1
      unfold canX
      try rw [if_pos h2]
      try rw [if_pos c4]
      exact tw_zret S hr (by decide) hlocks hI dX5_canHold_50
  · by_cases g2 : x1 = 12
    · refine lv_lookup (off := 41) (tgt := 51) hx hb dX5_canHold_10 (by decide) (by rw [g2]; decide) (by decide) ?_
      refine lv_aload_n hx hb dX5_canHold_51 rfl (lv_at hl 1 rfl) ?_
      refine f5_27_3 S hK hI (xI_one hq hq6 hqN hqO) rfl (v' := .int (σ.1 1 q)) rfl dX5_canHold_52 ?_
      refine lv_topi (fun x5 e5 => ?_)
      refine lv_bipush (v := 9) hx hb dX5_canHold_55 (by decide) ?_
      refine lv_icmp_ne (tgt := 64) hx hb dX5_canHold_57 (by decide) (fun c6 => ?_) (fun c6 => ?_)
      · refine lv_iconst (v := 0) hx hb dX5_canHold_64 (by decide) ?_
        subst e5
        subst e1
        unfold canX
        try rw [if_neg h2]
        try rw [if_pos g2]
        try rw [if_neg c6]
        exact tw_zret S hr (by decide) hlocks hI dX5_canHold_65
      · refine lv_iconst (v := 1) hx hb dX5_canHold_60 (by decide) ?_
        refine lv_goto (tgt := 65) hx hb dX5_canHold_61 (by decide) ?_
        subst e5
        subst e1
        unfold canX
        try rw [if_neg h2]
        try rw [if_pos g2]
        try rw [if_pos c6]
        exact tw_zret S hr (by decide) hlocks hI dX5_canHold_65
    · refine lv_lookup (off := 56) (tgt := 66) hx hb dX5_canHold_10 (by decide) ((lv_osw h2 (by decide)).trans ((lv_osw g2 (by decide)).trans rfl)) (by decide) ?_
      refine lv_aload_n hx hb dX5_canHold_66 rfl (lv_at hl 1 rfl) ?_
      refine lv_aload_n hx hb dX5_canHold_67 rfl (lv_at hl 0 rfl) ?_
      refine tw_calli (tw_rV (As := []) (rest := [.ref (ad (100 + q))]) S hK hI kX5_15 (c_X5_takenForm l D ad _ _ _ _ _ _ hn h6 hN hO) (xI_th hn h6 hN hO) rfl rfl ⟨Nat.le_of_ble_eq_true rfl, Nat.le_of_ble_eq_true rfl⟩ ⟨Nat.le_of_ble_eq_true rfl, Nat.le_of_ble_eq_true rfl⟩ rfl hl.1 rfl (Nat.le_of_ble_eq_true rfl) dX5_canHold_68) hI (fun H locs hI => ?_)
      refine lv_topi (fun x7 e7 => ?_)
      refine tw_calli (tw_rU (As := [.int x7]) (rest := []) S hK hI kX5_19_X3 (c_X1_isOf l D ad _ _ _ _ _ _ _ hq hq6) (xI_one hq hq6 hqN hqO) rfl rfl ⟨Nat.le_of_ble_eq_true rfl, Nat.le_of_ble_eq_true rfl⟩ ⟨Nat.le_of_ble_eq_true rfl, Nat.le_of_ble_eq_true rfl⟩ rfl hl.1 rfl (Nat.le_of_ble_eq_true rfl) dX5_canHold_71) hI (fun H locs hI => ?_)
      refine lv_topi (fun x8 e8 => ?_)
      subst e8
      subst e7
      subst e1
      unfold canX
      try rw [if_neg h2]
      try rw [if_neg g2]
      exact tw_zret S hr (isOfX_b _ _) hlocks hI dX5_canHold_74

set_option maxHeartbeats 2000000 in
set_option maxRecDepth 100000 in
theorem c_X5_canHold_th (l : Launch) (D : tw_G) (ad : Nat → Nat) (b : tw_W) (σ : Sg) (h : Int32) (Q : Nat → Int32) (sz : Nat) (k q : Nat) (hn : k < nS σ) (h6 : k < 60) (hN : isNumK (σ.1 1 k) = false) (hO : isOneK (σ.1 1 k) = false) (hq : q < nS σ) (hq6 : q < 60) (hqN : isNumK (σ.1 1 q) = false) (hqO : isOneK (σ.1 1 q) = false) : Met l yX5_canHold (tw_w yX5_canHold cX5_canHold 2 (some .boolean)) (tw_R 2 0 0) (tw_Pc D ad (wX b σ h Q) sz [.ref (ad (100 + k)), .ref (ad (100 + q))]) (tw_Q D ad (wX b (σ) h Q) (tw_A ad (wX b σ h Q) sz) (some (.int (canX (σ.1 1 k) (σ.1 1 q))))) 0 0 (tw_A ad (wX b σ h Q) sz) := by
  refine tw_met (by decide) rfl (by simp [lg_sl, Value.category]) (fun p e s m below meth c ls S hK hr hlocks hnm hsz hI hl => ?_)
  have hx := S.1
  have hb := S.2.1
  have hl : lv_has ls 2 [(0, .ref (ad (100 + k))), (1, .ref (ad (100 + q)))] := hl
  refine lv_aload_n hx hb dX5_canHold_0 rfl (lv_at hl 1 rfl) ?_
  refine lv_ifnonnull (tgt := 6) hx hb dX5_canHold_1 (by decide) ?_
  refine lv_aload_n hx hb dX5_canHold_6 rfl (lv_at hl 0 rfl) ?_
  refine f5_23_5 S hK hI (xI_th hn h6 hN hO) rfl (v' := .int (σ.1 1 k)) rfl dX5_canHold_7 ?_
  refine lv_topi (fun x1 e1 => ?_)
  by_cases h2 : x1 = 9
  · refine lv_lookup (off := 26) (tgt := 36) hx hb dX5_canHold_10 (by decide) (by rw [h2]; decide) (by decide) ?_
    refine lv_aload_n hx hb dX5_canHold_36 rfl (lv_at hl 1 rfl) ?_
    refine f5_27_5 S hK hI (xI_th hq hq6 hqN hqO) rfl (v' := .int (σ.1 1 q)) rfl dX5_canHold_37 ?_
    refine lv_topi (fun x3 e3 => ?_)
    refine lv_bipush (v := 6) hx hb dX5_canHold_40 (by decide) ?_
    refine lv_icmp_ne (tgt := 49) hx hb dX5_canHold_42 (by decide) (fun c4 => ?_) (fun c4 => ?_)
    · refine lv_iconst (v := 0) hx hb dX5_canHold_49 (by decide) ?_
      subst e3
      subst e1
      unfold canX
      try rw [if_pos h2]
      try rw [if_neg c4]
      exact tw_zret S hr (by decide) hlocks hI dX5_canHold_50
    · refine lv_iconst (v := 1) hx hb dX5_canHold_45 (by decide) ?_
      refine lv_goto (tgt := 50) hx hb dX5_canHold_46 (by decide) ?_
      subst e3
      subst e1
      unfold canX
      try rw [if_pos h2]
      try rw [if_pos c4]
      exact tw_zret S hr (by decide) hlocks hI dX5_canHold_50
  · by_cases g2 : x1 = 12
    · refine lv_lookup (off := 41) (tgt := 51) hx hb dX5_canHold_10 (by decide) (by rw [g2]; decide) (by decide) ?_
      refine lv_aload_n hx hb dX5_canHold_51 rfl (lv_at hl 1 rfl) ?_
      refine f5_27_5 S hK hI (xI_th hq hq6 hqN hqO) rfl (v' := .int (σ.1 1 q)) rfl dX5_canHold_52 ?_
      refine lv_topi (fun x5 e5 => ?_)
      refine lv_bipush (v := 9) hx hb dX5_canHold_55 (by decide) ?_
      refine lv_icmp_ne (tgt := 64) hx hb dX5_canHold_57 (by decide) (fun c6 => ?_) (fun c6 => ?_)
      · refine lv_iconst (v := 0) hx hb dX5_canHold_64 (by decide) ?_
        subst e5
        subst e1
        unfold canX
        try rw [if_neg h2]
        try rw [if_pos g2]
        try rw [if_neg c6]
        exact tw_zret S hr (by decide) hlocks hI dX5_canHold_65
      · refine lv_iconst (v := 1) hx hb dX5_canHold_60 (by decide) ?_
        refine lv_goto (tgt := 65) hx hb dX5_canHold_61 (by decide) ?_
        subst e5
        subst e1
        unfold canX
        try rw [if_neg h2]
        try rw [if_pos g2]
        try rw [if_pos c6]
        exact tw_zret S hr (by decide) hlocks hI dX5_canHold_65
    · refine lv_lookup (off := 56) (tgt := 66) hx hb dX5_canHold_10 (by decide) ((lv_osw h2 (by decide)).trans ((lv_osw g2 (by decide)).trans rfl)) (by decide) ?_
      refine lv_aload_n hx hb dX5_canHold_66 rfl (lv_at hl 1 rfl) ?_
      refine lv_aload_n hx hb dX5_canHold_67 rfl (lv_at hl 0 rfl) ?_
      refine tw_calli (tw_rV (As := []) (rest := [.ref (ad (100 + q))]) S hK hI kX5_15 (c_X5_takenForm l D ad _ _ _ _ _ _ hn h6 hN hO) (xI_th hn h6 hN hO) rfl rfl ⟨Nat.le_of_ble_eq_true rfl, Nat.le_of_ble_eq_true rfl⟩ ⟨Nat.le_of_ble_eq_true rfl, Nat.le_of_ble_eq_true rfl⟩ rfl hl.1 rfl (Nat.le_of_ble_eq_true rfl) dX5_canHold_68) hI (fun H locs hI => ?_)
      refine lv_topi (fun x7 e7 => ?_)
      refine tw_calli (tw_rU (As := [.int x7]) (rest := []) S hK hI kX5_19_X5 (c_X1_isOf l D ad _ _ _ _ _ _ _ hq hq6) (xI_th hq hq6 hqN hqO) rfl rfl ⟨Nat.le_of_ble_eq_true rfl, Nat.le_of_ble_eq_true rfl⟩ ⟨Nat.le_of_ble_eq_true rfl, Nat.le_of_ble_eq_true rfl⟩ rfl hl.1 rfl (Nat.le_of_ble_eq_true rfl) dX5_canHold_71) hI (fun H locs hI => ?_)
      refine lv_topi (fun x8 e8 => ?_)
      subst e8
      subst e7
      subst e1
      unfold canX
      try rw [if_neg h2]
      try rw [if_neg g2]
      exact tw_zret S hr (isOfX_b _ _) hlocks hI dX5_canHold_74

theorem c_X5_canHold_q (l : Launch) (D : tw_G) (ad : Nat → Nat) (b : tw_W) (σ : Sg) (h : Int32) (Q : Nat → Int32) (sz : Nat) (k q : Nat) (hn : k < nS σ) (h6 : k < 60) (hN : isNumK (σ.1 1 k) = false) (hO : isOneK (σ.1 1 k) = false) (hq : q < nS σ) (hq6 : q < 60) : Met l yX5_canHold (tw_w yX5_canHold cX5_canHold 2 (some .boolean)) (tw_R 2 0 0) (tw_Pc D ad (wX b σ h Q) sz [.ref (ad (100 + k)), .ref (ad (100 + q))]) (tw_Q D ad (wX b (σ) h Q) (tw_A ad (wX b σ h Q) sz) (some (.int (canX (σ.1 1 k) (σ.1 1 q))))) 0 0 (tw_A ad (wX b σ h Q) sz) := by
  cases hqN : isNumK (σ.1 1 q) with
  | true => exact c_X5_canHold_num l D ad b σ h Q sz k q hn h6 hN hO hq hq6 hqN
  | false =>
    cases hqO : isOneK (σ.1 1 q) with
    | true => exact c_X5_canHold_one l D ad b σ h Q sz k q hn h6 hN hO hq hq6 hqN hqO
    | false => exact c_X5_canHold_th l D ad b σ h Q sz k q hn h6 hN hO hq hq6 hqN hqO