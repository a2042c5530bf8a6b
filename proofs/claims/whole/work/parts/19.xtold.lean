/-! the class: desks: findDesk, told, change -/
theorem wX_deskD {b : tw_W} {σ : Sg} {h : Int32} {Q : Nat → Int32} {d : Nat} (hd : d < 32) (hc : d % 4 < dcS σ (d / 4)) : wX b σ h Q (30 + d) = some (.inr (0, xDesk σ h Q d)) := by
  have e := wX_desk (b := b) (h := h) (Q := Q) (r := d / 4) (d := d % 4) (σ := σ) (by omega) (by omega) hc
  rw [show 4 * (d / 4) + d % 4 = d by omega] at e
  exact e
theorem deskC {σ : Sg} {r d : Nat} (hd : d < 4) (hc : d < dcS σ r) : (4 * r + d) % 4 < dcS σ ((4 * r + d) / 4) := by
  rw [show (4 * r + d) % 4 = d by omega, show (4 * r + d) / 4 = r by omega]
  exact hc
theorem xDesk_far_6 {σ : Sg} {h : Int32} {Q : Nat → Int32} {d i : Nat} {v : Int32} (hi : i ≠ d) : xDesk (sI σ 6 d v) h Q i = xDesk σ h Q i := by
  unfold xDesk xAsk
  rw [show (sI σ 6 d v).1 6 i = σ.1 6 i from va_up_ne _ _ hi]
  rfl
theorem wX_setD_6 {b : tw_W} {σ : Sg} {h : Int32} {Q : Nat → Int32} {d : Nat} {v : Int32} (hd : d < 32) (hc : d % 4 < dcS σ (d / 4)) : va_up (wX b σ h Q) (30 + d) (some (.inr (0, xDesk (sI σ 6 d v) h Q d))) = wX b (sI σ 6 d v) h Q := by
  rw [wX_g, g_desk hd hc, up_eq (g := xDesk (sI σ 6 d v) h Q) (fun i hi => xDesk_far_6 hi)]
  rfl
theorem sI_at_6 (σ : Sg) (d : Nat) (v : Int32) : (sI σ 6 d v).1 6 d = v := by
  unfold sI
  simp only [va_up_self]
theorem xDesk_far_7 {σ : Sg} {h : Int32} {Q : Nat → Int32} {d i : Nat} {v : Int32} (hi : i ≠ d) : xDesk (sI σ 7 d v) h Q i = xDesk σ h Q i := by
  unfold xDesk xAsk
  rw [show (sI σ 7 d v).1 7 i = σ.1 7 i from va_up_ne _ _ hi]
  rfl
theorem wX_setD_7 {b : tw_W} {σ : Sg} {h : Int32} {Q : Nat → Int32} {d : Nat} {v : Int32} (hd : d < 32) (hc : d % 4 < dcS σ (d / 4)) : va_up (wX b σ h Q) (30 + d) (some (.inr (0, xDesk (sI σ 7 d v) h Q d))) = wX b (sI σ 7 d v) h Q := by
  rw [wX_g, g_desk hd hc, up_eq (g := xDesk (sI σ 7 d v) h Q) (fun i hi => xDesk_far_7 hi)]
  rfl
theorem sI_at_7 (σ : Sg) (d : Nat) (v : Int32) : (sI σ 7 d v).1 7 d = v := by
  unfold sI
  simp only [va_up_self]
theorem xDesk_far_8 {σ : Sg} {h : Int32} {Q : Nat → Int32} {d i : Nat} {v : Int32} (hi : i ≠ d) : xDesk (sI σ 8 d v) h Q i = xDesk σ h Q i := by
  unfold xDesk xAsk
  rw [show (sI σ 8 d v).1 8 i = σ.1 8 i from va_up_ne _ _ hi]
  rfl
theorem wX_setD_8 {b : tw_W} {σ : Sg} {h : Int32} {Q : Nat → Int32} {d : Nat} {v : Int32} (hd : d < 32) (hc : d % 4 < dcS σ (d / 4)) : va_up (wX b σ h Q) (30 + d) (some (.inr (0, xDesk (sI σ 8 d v) h Q d))) = wX b (sI σ 8 d v) h Q := by
  rw [wX_g, g_desk hd hc, up_eq (g := xDesk (sI σ 8 d v) h Q) (fun i hi => xDesk_far_8 hi)]
  rfl
theorem sI_at_8 (σ : Sg) (d : Nat) (v : Int32) : (sI σ 8 d v).1 8 d = v := by
  unfold sI
  simp only [va_up_self]
theorem xDesk_far_9 {σ : Sg} {h : Int32} {Q : Nat → Int32} {d i : Nat} {v : Int32} (hi : i ≠ d) : xDesk (sI σ 9 d v) h Q i = xDesk σ h Q i := by
  unfold xDesk xAsk
  rw [show (sI σ 9 d v).1 9 i = σ.1 9 i from va_up_ne _ _ hi]
  rfl
theorem wX_setD_9 {b : tw_W} {σ : Sg} {h : Int32} {Q : Nat → Int32} {d : Nat} {v : Int32} (hd : d < 32) (hc : d % 4 < dcS σ (d / 4)) : va_up (wX b σ h Q) (30 + d) (some (.inr (0, xDesk (sI σ 9 d v) h Q d))) = wX b (sI σ 9 d v) h Q := by
  rw [wX_g, g_desk hd hc, up_eq (g := xDesk (sI σ 9 d v) h Q) (fun i hi => xDesk_far_9 hi)]
  rfl
theorem sI_at_9 (σ : Sg) (d : Nat) (v : Int32) : (sI σ 9 d v).1 9 d = v := by
  unfold sI
  simp only [va_up_self]
theorem xDesk_far_10 {σ : Sg} {h : Int32} {Q : Nat → Int32} {d i : Nat} {v : Int32} (hi : i ≠ d) : xDesk (sI σ 10 d v) h Q i = xDesk σ h Q i := by
  unfold xDesk xAsk
  rw [show (sI σ 10 d v).1 10 i = σ.1 10 i from va_up_ne _ _ hi]
  rfl
theorem wX_setD_10 {b : tw_W} {σ : Sg} {h : Int32} {Q : Nat → Int32} {d : Nat} {v : Int32} (hd : d < 32) (hc : d % 4 < dcS σ (d / 4)) : va_up (wX b σ h Q) (30 + d) (some (.inr (0, xDesk (sI σ 10 d v) h Q d))) = wX b (sI σ 10 d v) h Q := by
  rw [wX_g, g_desk hd hc, up_eq (g := xDesk (sI σ 10 d v) h Q) (fun i hi => xDesk_far_10 hi)]
  rfl
theorem sI_at_10 (σ : Sg) (d : Nat) (v : Int32) : (sI σ 10 d v).1 10 d = v := by
  unfold sI
  simp only [va_up_self]
theorem xDesk_far_11 {σ : Sg} {h : Int32} {Q : Nat → Int32} {d i : Nat} {v : Int32} (hi : i ≠ d) : xDesk (sI σ 11 d v) h Q i = xDesk σ h Q i := by
  unfold xDesk xAsk
  rw [show (sI σ 11 d v).1 11 i = σ.1 11 i from va_up_ne _ _ hi]
  rfl
theorem wX_setD_11 {b : tw_W} {σ : Sg} {h : Int32} {Q : Nat → Int32} {d : Nat} {v : Int32} (hd : d < 32) (hc : d % 4 < dcS σ (d / 4)) : va_up (wX b σ h Q) (30 + d) (some (.inr (0, xDesk (sI σ 11 d v) h Q d))) = wX b (sI σ 11 d v) h Q := by
  rw [wX_g, g_desk hd hc, up_eq (g := xDesk (sI σ 11 d v) h Q) (fun i hi => xDesk_far_11 hi)]
  rfl
theorem sI_at_11 (σ : Sg) (d : Nat) (v : Int32) : (sI σ 11 d v).1 11 d = v := by
  unfold sI
  simp only [va_up_self]
theorem xDesk_far_12 {σ : Sg} {h : Int32} {Q : Nat → Int32} {d i : Nat} {v : Int32} (hi : i ≠ d) : xDesk (sI σ 12 d v) h Q i = xDesk σ h Q i := by
  unfold xDesk xAsk
  rw [show (sI σ 12 d v).1 12 i = σ.1 12 i from va_up_ne _ _ hi]
  rfl
theorem wX_setD_12 {b : tw_W} {σ : Sg} {h : Int32} {Q : Nat → Int32} {d : Nat} {v : Int32} (hd : d < 32) (hc : d % 4 < dcS σ (d / 4)) : va_up (wX b σ h Q) (30 + d) (some (.inr (0, xDesk (sI σ 12 d v) h Q d))) = wX b (sI σ 12 d v) h Q := by
  rw [wX_g, g_desk hd hc, up_eq (g := xDesk (sI σ 12 d v) h Q) (fun i hi => xDesk_far_12 hi)]
  rfl
theorem sI_at_12 (σ : Sg) (d : Nat) (v : Int32) : (sI σ 12 d v).1 12 d = v := by
  unfold sI
  simp only [va_up_self]
theorem xDesk_far_13 {σ : Sg} {h : Int32} {Q : Nat → Int32} {d i : Nat} {v : Int32} (hi : i ≠ d) : xDesk (sI σ 13 d v) h Q i = xDesk σ h Q i := by
  unfold xDesk xAsk
  rw [show (sI σ 13 d v).1 13 i = σ.1 13 i from va_up_ne _ _ hi]
  rfl
theorem wX_setD_13 {b : tw_W} {σ : Sg} {h : Int32} {Q : Nat → Int32} {d : Nat} {v : Int32} (hd : d < 32) (hc : d % 4 < dcS σ (d / 4)) : va_up (wX b σ h Q) (30 + d) (some (.inr (0, xDesk (sI σ 13 d v) h Q d))) = wX b (sI σ 13 d v) h Q := by
  rw [wX_g, g_desk hd hc, up_eq (g := xDesk (sI σ 13 d v) h Q) (fun i hi => xDesk_far_13 hi)]
  rfl
theorem sI_at_13 (σ : Sg) (d : Nat) (v : Int32) : (sI σ 13 d v).1 13 d = v := by
  unfold sI
  simp only [va_up_self]
theorem wX_setD_14 {b : tw_W} {σ : Sg} {h : Int32} {Q : Nat → Int32} {d : Nat} (hd : d < 32) (hc : d % 4 < dcS σ (d / 4)) : va_up (wX b σ h Q) (30 + d) (some (.inr (0, (xDesk σ h Q d).set 8 (.int h)))) = wX b (sI σ 14 d 1) h Q := by
  have e : (xDesk σ h Q d).set 8 (.int h) = xDesk (sI σ 14 d 1) h Q d := by
    unfold xDesk xAsk
    rw [show (sI σ 14 d 1).1 14 d = 1 by unfold sI; simp only [va_up_self], if_pos rfl]
    rfl
  rw [e, wX_g, g_desk hd hc, up_eq (g := xDesk (sI σ 14 d 1) h Q) (fun i hi => by
    unfold xDesk xAsk
    rw [show (sI σ 14 d 1).1 14 i = σ.1 14 i from va_up_ne _ _ hi]
    rfl)]
  rfl
section ROWS5
variable {p : Program} {l : Launch} {e : Env} {R : Room} {s : State} {m : MethodId} {args : Array Value} {below : List Frame} {meth : Method} {c : Code} {H : Heap} {locs : List Loc} {cells slots : Nat} {Z : State → Prop}
variable {cc : ByteArray} {pc nL : Nat} {ls : Array Slot} {rest st0 : List Value} {D : tw_G} {A : Nat → Prop} {ad : Nat → Nat} {b : tw_W} {σ : Sg} {h : Int32} {Q : Nat → Int32} {d : Nat}
theorem pd_135 {v : Int32} (S : CallFix p m c cc nL s args tw_ws RX6) (hK : tw_K D s) (hI : tw_I D A ad (wX b σ h Q) s.heap H locs) (hd : d < 32) (hc : d % 4 < dcS σ (d / 4)) (hdg : decode cc pc = .ok (.putfield 135, 3)) (kk : ∀ (H1 : Heap) (locs1 : List Loc), tw_I D A ad (wX b (sI σ 6 d v) h Q) s.heap H1 locs1 → W p l e R s m args below meth c H1 locs1 cells slots Z (F0 m (pc + 3) ls rest)) : W p l e R s m args below meth c H locs cells slots Z (F0 m pc ls (.int v :: .ref (ad (30 + d)) :: rest)) :=
  p6_135_0 S hK hI (wX_deskD hd hc) (v := .int v) rfl rfl rfl (Nat.le_of_ble_eq_true rfl) hdg (fun H1 locs1 h1 => kk H1 locs1 (by
    have e : (xDesk σ h Q d).set 0 (.int v) = xDesk (sI σ 6 d v) h Q d := by
      unfold xDesk xAsk
      rw [sI_at_6]
      rfl
    rw [e, wX_setD_6 hd hc] at h1
    exact h1))
theorem pd_138 {v : Int32} (S : CallFix p m c cc nL s args tw_ws RX6) (hK : tw_K D s) (hI : tw_I D A ad (wX b σ h Q) s.heap H locs) (hd : d < 32) (hc : d % 4 < dcS σ (d / 4)) (hdg : decode cc pc = .ok (.putfield 138, 3)) (kk : ∀ (H1 : Heap) (locs1 : List Loc), tw_I D A ad (wX b (sI σ 7 d v) h Q) s.heap H1 locs1 → W p l e R s m args below meth c H1 locs1 cells slots Z (F0 m (pc + 3) ls rest)) : W p l e R s m args below meth c H locs cells slots Z (F0 m pc ls (.int v :: .ref (ad (30 + d)) :: rest)) :=
  p6_138_0 S hK hI (wX_deskD hd hc) (v := .int v) rfl rfl rfl (Nat.le_of_ble_eq_true rfl) hdg (fun H1 locs1 h1 => kk H1 locs1 (by
    have e : (xDesk σ h Q d).set 1 (.int v) = xDesk (sI σ 7 d v) h Q d := by
      unfold xDesk xAsk
      rw [sI_at_7]
      rfl
    rw [e, wX_setD_7 hd hc] at h1
    exact h1))
theorem pd_141 {v : Int32} (S : CallFix p m c cc nL s args tw_ws RX6) (hK : tw_K D s) (hI : tw_I D A ad (wX b σ h Q) s.heap H locs) (hd : d < 32) (hc : d % 4 < dcS σ (d / 4)) (hb : v = 0 ∨ v = 1) (hdg : decode cc pc = .ok (.putfield 141, 3)) (kk : ∀ (H1 : Heap) (locs1 : List Loc), tw_I D A ad (wX b (sI σ 8 d v) h Q) s.heap H1 locs1 → W p l e R s m args below meth c H1 locs1 cells slots Z (F0 m (pc + 3) ls rest)) : W p l e R s m args below meth c H locs cells slots Z (F0 m pc ls (.int v :: .ref (ad (30 + d)) :: rest)) :=
  p6_141_0 S hK hI (wX_deskD hd hc) (v := .int v) rfl (by rcases hb with rfl | rfl <;> rfl) (by rcases hb with rfl | rfl <;> rfl) (Nat.le_of_ble_eq_true rfl) hdg (fun H1 locs1 h1 => kk H1 locs1 (by
    have e : (xDesk σ h Q d).set 2 (.int v) = xDesk (sI σ 8 d v) h Q d := by
      unfold xDesk xAsk
      rw [sI_at_8]
      rfl
    rw [e, wX_setD_8 hd hc] at h1
    exact h1))
theorem pd_149 {v : Int32} (S : CallFix p m c cc nL s args tw_ws RX6) (hK : tw_K D s) (hI : tw_I D A ad (wX b σ h Q) s.heap H locs) (hd : d < 32) (hc : d % 4 < dcS σ (d / 4)) (hdg : decode cc pc = .ok (.putfield 149, 3)) (kk : ∀ (H1 : Heap) (locs1 : List Loc), tw_I D A ad (wX b (sI σ 9 d v) h Q) s.heap H1 locs1 → W p l e R s m args below meth c H1 locs1 cells slots Z (F0 m (pc + 3) ls rest)) : W p l e R s m args below meth c H locs cells slots Z (F0 m pc ls (.int v :: .ref (ad (30 + d)) :: rest)) :=
  p6_149_0 S hK hI (wX_deskD hd hc) (v := .int v) rfl rfl rfl (Nat.le_of_ble_eq_true rfl) hdg (fun H1 locs1 h1 => kk H1 locs1 (by
    have e : (xDesk σ h Q d).set 3 (.int v) = xDesk (sI σ 9 d v) h Q d := by
      unfold xDesk xAsk
      rw [sI_at_9]
      rfl
    rw [e, wX_setD_9 hd hc] at h1
    exact h1))
theorem pd_156 {v : Int32} (S : CallFix p m c cc nL s args tw_ws RX6) (hK : tw_K D s) (hI : tw_I D A ad (wX b σ h Q) s.heap H locs) (hd : d < 32) (hc : d % 4 < dcS σ (d / 4)) (hdg : decode cc pc = .ok (.putfield 156, 3)) (kk : ∀ (H1 : Heap) (locs1 : List Loc), tw_I D A ad (wX b (sI σ 11 d v) h Q) s.heap H1 locs1 → W p l e R s m args below meth c H1 locs1 cells slots Z (F0 m (pc + 3) ls rest)) : W p l e R s m args below meth c H locs cells slots Z (F0 m pc ls (.int v :: .ref (ad (30 + d)) :: rest)) :=
  p6_156_0 S hK hI (wX_deskD hd hc) (v := .int v) rfl rfl rfl (Nat.le_of_ble_eq_true rfl) hdg (fun H1 locs1 h1 => kk H1 locs1 (by
    have e : (xDesk σ h Q d).set 4 (.int v) = xDesk (sI σ 11 d v) h Q d := by
      unfold xDesk xAsk
      rw [sI_at_11]
      rfl
    rw [e, wX_setD_11 hd hc] at h1
    exact h1))
theorem pd_20 {v : Int32} (S : CallFix p m c cc nL s args tw_ws RX0) (hK : tw_K D s) (hI : tw_I D A ad (wX b σ h Q) s.heap H locs) (hd : d < 32) (hc : d % 4 < dcS σ (d / 4)) (hdg : decode cc pc = .ok (.putfield 20, 3)) (kk : ∀ (H1 : Heap) (locs1 : List Loc), tw_I D A ad (wX b (sI σ 12 d v) h Q) s.heap H1 locs1 → W p l e R s m args below meth c H1 locs1 cells slots Z (F0 m (pc + 3) ls rest)) : W p l e R s m args below meth c H locs cells slots Z (F0 m pc ls (.int v :: .ref (ad (30 + d)) :: rest)) :=
  p0_20_0 S hK hI (wX_deskD hd hc) (v := .int v) rfl rfl rfl (Nat.le_of_ble_eq_true rfl) hdg (fun H1 locs1 h1 => kk H1 locs1 (by
    have e : (xDesk σ h Q d).set 6 (.int v) = xDesk (sI σ 12 d v) h Q d := by
      unfold xDesk xAsk
      rw [sI_at_12]
      rfl
    rw [e, wX_setD_12 hd hc] at h1
    exact h1))
theorem pd_16 {q : Nat} (S : CallFix p m c cc nL s args tw_ws RX0) (hK : tw_K D s) (hI : tw_I D A ad (wX b σ h Q) s.heap H locs) (hd : d < 32) (hc : d % 4 < dcS σ (d / 4)) (hq : q < 60) (hdg : decode cc pc = .ok (.putfield 16, 3)) (kk : ∀ (H1 : Heap) (locs1 : List Loc), tw_I D A ad (wX b (sI σ 10 d (nI q)) h Q) s.heap H1 locs1 → W p l e R s m args below meth c H1 locs1 cells slots Z (F0 m (pc + 3) ls rest)) : W p l e R s m args below meth c H locs cells slots Z (F0 m pc ls (.ref (ad (100 + q)) :: .ref (ad (30 + d)) :: rest)) :=
  p0_16_0 S hK hI (wX_deskD hd hc) (v := .ref (100 + q)) rfl rfl rfl (Nat.le_of_ble_eq_true rfl) hdg (fun H1 locs1 h1 => kk H1 locs1 (by
    have e : (xDesk σ h Q d).set 5 (.ref (100 + q)) = xDesk (sI σ 10 d (nI q)) h Q d := by
      unfold xDesk xAsk
      rw [sI_at_10, dec_nI (by omega)]
      rfl
    rw [e, wX_setD_10 hd hc] at h1
    exact h1))
theorem pd_23 {q : Nat} (S : CallFix p m c cc nL s args tw_ws RX0) (hK : tw_K D s) (hI : tw_I D A ad (wX b σ h Q) s.heap H locs) (hd : d < 32) (hc : d % 4 < dcS σ (d / 4)) (hq : q < 60) (hdg : decode cc pc = .ok (.putfield 23, 3)) (kk : ∀ (H1 : Heap) (locs1 : List Loc), tw_I D A ad (wX b (sI σ 13 d (nI q)) h Q) s.heap H1 locs1 → W p l e R s m args below meth c H1 locs1 cells slots Z (F0 m (pc + 3) ls rest)) : W p l e R s m args below meth c H locs cells slots Z (F0 m pc ls (.ref (ad (100 + q)) :: .ref (ad (30 + d)) :: rest)) :=
  p0_23_0 S hK hI (wX_deskD hd hc) (v := .ref (100 + q)) rfl rfl rfl (Nat.le_of_ble_eq_true rfl) hdg (fun H1 locs1 h1 => kk H1 locs1 (by
    have e : (xDesk σ h Q d).set 7 (.ref (100 + q)) = xDesk (sI σ 13 d (nI q)) h Q d := by
      unfold xDesk xAsk
      rw [sI_at_13, dec_nI (by omega)]
      rfl
    rw [e, wX_setD_13 hd hc] at h1
    exact h1))
theorem pd_26 (S : CallFix p m c cc nL s args tw_ws RX0) (hK : tw_K D s) (hI : tw_I D A ad (wX b σ h Q) s.heap H locs) (hd : d < 32) (hc : d % 4 < dcS σ (d / 4)) (hdg : decode cc pc = .ok (.putfield 26, 3)) (kk : ∀ (H1 : Heap) (locs1 : List Loc), tw_I D A ad (wX b (sI σ 14 d 1) h Q) s.heap H1 locs1 → W p l e R s m args below meth c H1 locs1 cells slots Z (F0 m (pc + 3) ls rest)) : W p l e R s m args below meth c H locs cells slots Z (F0 m pc ls (.int h :: .ref (ad (30 + d)) :: rest)) :=
  p0_26_0 S hK hI (wX_deskD hd hc) (v := .int h) rfl rfl rfl (Nat.le_of_ble_eq_true rfl) hdg (fun H1 locs1 h1 => kk H1 locs1 (by
    rw [wX_setD_14 hd hc] at h1
    exact h1))
end ROWS5
set_option maxHeartbeats 2000000 in
set_option maxRecDepth 100000 in
theorem c_X6_findDesk_noroom (l : Launch) (D : tw_G) (ad : Nat → Nat) (b : tw_W) (σ : Sg) (h : Int32) (Q : Nat → Int32) (sz : Nat) (v w9 : Int32) (hv : v < 0 ∨ 8 ≤ v) : Met l yX6_findDesk (tw_w yX6_findDesk cX6_findDesk 4 (some (.object "MailRooms$Desk"))) (tw_R 2 0 0) (tw_Pc D ad (wX b σ h Q) sz [.ref (ad 0), .int v, .int w9]) (tw_Q D ad (wX b (σ) h Q) (tw_A ad (wX b σ h Q) sz) (some .null)) 0 0 (tw_A ad (wX b σ h Q) sz) := by
  refine tw_met (by decide) rfl (by simp [lg_sl, Value.category]) (fun p e s m below meth c ls S hK hr hlocks hnm hsz hI hl => ?_)
  have hx := S.1
  have hb := S.2.1
  have hl : lv_has ls 4 [(0, .ref (ad 0)), (1, .int v), (2, .int w9)] := hl
  refine lv_aload_n hx hb dX6_findDesk_0 rfl (lv_at hl 0 rfl) ?_
  refine lv_iload_n hx hb dX6_findDesk_1 rfl (lv_at hl 1 rfl) ?_
  refine tw_calla (tw_rV (As := [.int v]) (rest := []) S hK hI kX6_112 (c_X6_findRoom_none l D ad _ _ _ _ _ _ hv) wX_0 rfl rfl ⟨Nat.le_of_ble_eq_true rfl, Nat.le_of_ble_eq_true rfl⟩ ⟨Nat.le_of_ble_eq_true rfl, Nat.le_of_ble_eq_true rfl⟩ rfl hl.1 rfl (Nat.le_of_ble_eq_true rfl) dX6_findDesk_2) hI (fun H locs hI => ?_)
  refine lv_astore_nN (lv' := [(3, .null), (0, .ref (ad 0)), (1, .int v), (2, .int w9)]) hx hb dX6_findDesk_5 rfl hl (by decide) rfl (fun ls hl => ?_)
  refine lv_aload_nN hx hb dX6_findDesk_6 rfl (lv_at hl 0 rfl) ?_
  refine lv_ifnonnullN hx hb dX6_findDesk_7 ?_
  refine lv_null hx hb dX6_findDesk_10 ?_
  refine lv_goto (tgt := 19) hx hb dX6_findDesk_11 (by decide) ?_
  exact tw_aret S hr (Or.inl rfl) hlocks hI dX6_findDesk_19

set_option maxHeartbeats 2000000 in
set_option maxRecDepth 100000 in
theorem c_X6_findDesk_nodesk (l : Launch) (D : tw_G) (ad : Nat → Nat) (b : tw_W) (σ : Sg) (h : Int32) (Q : Nat → Int32) (sz : Nat) (r : Nat) (v : Int32) (hr8 : r < 8) (h4 : dcS σ r ≤ 4) (hv : noDesk σ r v) : Met l yX6_findDesk (tw_w yX6_findDesk cX6_findDesk 4 (some (.object "MailRooms$Desk"))) (tw_R 2 0 0) (tw_Pc D ad (wX b σ h Q) sz [.ref (ad 0), .int (nI r), .int v]) (tw_Q D ad (wX b (σ) h Q) (tw_A ad (wX b σ h Q) sz) (some .null)) 0 0 (tw_A ad (wX b σ h Q) sz) := by
  refine tw_met (by decide) rfl (by simp [lg_sl, Value.category]) (fun p e s m below meth c ls S hK hr hlocks hnm hsz hI hl => ?_)
  have hx := S.1
  have hb := S.2.1
  have hl : lv_has ls 4 [(0, .ref (ad 0)), (1, .int (nI r)), (2, .int v)] := hl
  refine lv_aload_n hx hb dX6_findDesk_0 rfl (lv_at hl 0 rfl) ?_
  refine lv_iload_n hx hb dX6_findDesk_1 rfl (lv_at hl 1 rfl) ?_
  refine tw_calla (tw_rV (As := [.int (nI r)]) (rest := []) S hK hI kX6_112 (c_X6_findRoom_some l D ad _ _ _ _ _ _ hr8) wX_0 rfl rfl ⟨Nat.le_of_ble_eq_true rfl, Nat.le_of_ble_eq_true rfl⟩ ⟨Nat.le_of_ble_eq_true rfl, Nat.le_of_ble_eq_true rfl⟩ rfl hl.1 rfl (Nat.le_of_ble_eq_true rfl) dX6_findDesk_2) hI (fun H locs hI => ?_)
  refine lv_astore_n (lv' := [(3, .ref (ad (10 + r))), (0, .ref (ad 0)), (1, .int (nI r)), (2, .int v)]) hx hb dX6_findDesk_5 rfl hl (by decide) rfl (fun ls hl => ?_)
  refine lv_aload_n hx hb dX6_findDesk_6 rfl (lv_at hl 0 rfl) ?_
  refine lv_ifnonnull (tgt := 14) hx hb dX6_findDesk_7 (by decide) ?_
  refine lv_aload_n hx hb dX6_findDesk_14 rfl (lv_at hl 0 rfl) ?_
  refine lv_iload_n hx hb dX6_findDesk_15 rfl (lv_at hl 3 rfl) ?_
  refine tw_calla (tw_rVN (As := [.int v]) (rest := []) S hK hI kX6_172 (c_X4_findDesk_none l D ad _ _ _ _ _ _ _ hr8 h4 hv) (wX_room hr8) rfl rfl ⟨Nat.le_of_ble_eq_true rfl, Nat.le_of_ble_eq_true rfl⟩ ⟨Nat.le_of_ble_eq_true rfl, Nat.le_of_ble_eq_true rfl⟩ rfl hl.1 rfl (Nat.le_of_ble_eq_true rfl) dX6_findDesk_16) hI (fun H locs hI => ?_)
  exact tw_aret S hr (Or.inl rfl) hlocks hI dX6_findDesk_19

set_option maxHeartbeats 2000000 in
set_option maxRecDepth 100000 in
theorem c_X6_findDesk_some (l : Launch) (D : tw_G) (ad : Nat → Nat) (b : tw_W) (σ : Sg) (h : Int32) (Q : Nat → Int32) (sz : Nat) (r d : Nat) (hr8 : r < 8) (hd4 : d < 4) (hc : d < dcS σ r) : Met l yX6_findDesk (tw_w yX6_findDesk cX6_findDesk 4 (some (.object "MailRooms$Desk"))) (tw_R 2 0 0) (tw_Pc D ad (wX b σ h Q) sz [.ref (ad 0), .int (nI r), .int (nI d)]) (tw_Q D ad (wX b (σ) h Q) (tw_A ad (wX b σ h Q) sz) (some (.ref (ad (30 + (4 * r + d)))))) 0 0 (tw_A ad (wX b σ h Q) sz) := by
  refine tw_met (by decide) rfl (by simp [lg_sl, Value.category]) (fun p e s m below meth c ls S hK hr hlocks hnm hsz hI hl => ?_)
  have hx := S.1
  have hb := S.2.1
  have hl : lv_has ls 4 [(0, .ref (ad 0)), (1, .int (nI r)), (2, .int (nI d))] := hl
  refine lv_aload_n hx hb dX6_findDesk_0 rfl (lv_at hl 0 rfl) ?_
  refine lv_iload_n hx hb dX6_findDesk_1 rfl (lv_at hl 1 rfl) ?_
  refine tw_calla (tw_rV (As := [.int (nI r)]) (rest := []) S hK hI kX6_112 (c_X6_findRoom_some l D ad _ _ _ _ _ _ hr8) wX_0 rfl rfl ⟨Nat.le_of_ble_eq_true rfl, Nat.le_of_ble_eq_true rfl⟩ ⟨Nat.le_of_ble_eq_true rfl, Nat.le_of_ble_eq_true rfl⟩ rfl hl.1 rfl (Nat.le_of_ble_eq_true rfl) dX6_findDesk_2) hI (fun H locs hI => ?_)
  refine lv_astore_n (lv' := [(3, .ref (ad (10 + r))), (0, .ref (ad 0)), (1, .int (nI r)), (2, .int (nI d))]) hx hb dX6_findDesk_5 rfl hl (by decide) rfl (fun ls hl => ?_)
  refine lv_aload_n hx hb dX6_findDesk_6 rfl (lv_at hl 0 rfl) ?_
  refine lv_ifnonnull (tgt := 14) hx hb dX6_findDesk_7 (by decide) ?_
  refine lv_aload_n hx hb dX6_findDesk_14 rfl (lv_at hl 0 rfl) ?_
  refine lv_iload_n hx hb dX6_findDesk_15 rfl (lv_at hl 3 rfl) ?_
  refine tw_calla (tw_rVN (As := [.int (nI d)]) (rest := []) S hK hI kX6_172 (c_X4_findDesk_some l D ad _ _ _ _ _ _ _ hr8 hd4 hc) (wX_room hr8) rfl rfl ⟨Nat.le_of_ble_eq_true rfl, Nat.le_of_ble_eq_true rfl⟩ ⟨Nat.le_of_ble_eq_true rfl, Nat.le_of_ble_eq_true rfl⟩ rfl hl.1 rfl (Nat.le_of_ble_eq_true rfl) dX6_findDesk_16) hI (fun H locs hI => ?_)
  exact tw_aret S hr (Or.inr ⟨_, rfl⟩) hlocks hI dX6_findDesk_19

theorem room_no {r : Int32} (h : r < 0 ∨ 8 ≤ r) : isRoomF r = 0 := isIn_out (n := 8) (by decide) h
theorem room_yes {r : Nat} (h : r < 8) : ¬ isRoomF (nI r) = 0 := isIn_in (n := 8) (by decide) h
theorem desk_no {σ : Sg} (hok : okM σ) {r : Nat} (hr : r < 8) {v : Int32} (h : noDesk σ r v) : isInF v 0 (σ.1 5 r - 1) = 0 := by
  rw [(okD hok hr).2]
  exact isIn_out (by have := (okD hok hr).1; omega) h
theorem desk_yes {σ : Sg} (hok : okM σ) {r d : Nat} (hr : r < 8) (h : d < dcS σ r) : ¬ isInF (nI d) 0 (σ.1 5 r - 1) = 0 := by
  rw [(okD hok hr).2]
  exact isIn_in (by have := (okD hok hr).1; omega) h
theorem ix4n {r d : Nat} (hr : r < 8) (hd : d < 4) : ix (4 * nI r + nI d) = 4 * r + d := by
  rw [ix4 (vp_in_nI hr (by decide)) (vp_in_nI hd (by decide)), ixn (by omega), ixn (by omega)]
theorem told_noroom {σ : Sg} {r d wh : Int32} (h : r < 0 ∨ 8 ≤ r) : toldM σ r d wh = -2 := by unfold toldM; rw [if_pos (room_no h)]
theorem told_nodesk {σ : Sg} (hok : okM σ) {r : Nat} {d wh : Int32} (hr : r < 8) (h : noDesk σ r d) : toldM σ (nI r) d wh = -2 := by
  unfold toldM
  rw [if_neg (room_yes hr), ixn (by omega), if_pos (desk_no hok hr h)]
def toldD (σ : Sg) (d : Nat) (wh : Int32) : Int32 := if wh = 0 then σ.1 9 d else if wh = 1 then σ.1 10 d else if wh = 2 then σ.1 11 d else if wh = 3 then σ.1 12 d else if wh = 4 then σ.1 13 d else -2
theorem told_ok {σ : Sg} (hok : okM σ) {r d : Nat} {wh : Int32} (hr : r < 8) (hd : d < 4) (hc : d < dcS σ r) : toldM σ (nI r) (nI d) wh = toldD σ (4 * r + d) wh := by
  unfold toldM toldV
  rw [if_neg (room_yes hr), ixn (by omega), if_neg (desk_yes hok hr hc), ix4n hr hd]
  rfl
/-- what the desks that are there hold and say -/
def okH (σ : Sg) : Prop := ∀ r d : Nat, r < 8 → d < dcS σ r → (σ.1 10 (4 * r + d) = -1 ∨ ∃ q : Nat, q < nS σ ∧ σ.1 10 (4 * r + d) = nI q) ∧ (σ.1 13 (4 * r + d) = -1 ∨ ∃ q : Nat, q < nS σ ∧ σ.1 13 (4 * r + d) = nI q) ∧ (∃ a : Nat, a ≤ 13 ∧ σ.1 6 (4 * r + d) = nI a) ∧ (∃ a : Nat, a ≤ 4 ∧ σ.1 7 (4 * r + d) = nI a) ∧ (σ.1 8 (4 * r + d) = 0 ∨ σ.1 8 (4 * r + d) = 1)

set_option maxHeartbeats 2000000 in
set_option maxRecDepth 100000 in
theorem c_X6_told_noroom (l : Launch) (D : tw_G) (ad : Nat → Nat) (b : tw_W) (σ : Sg) (h : Int32) (Q : Nat → Int32) (sz : Nat) (v w9 wh : Int32) (hok : okM σ) (hv : v < 0 ∨ 8 ≤ v) : Met l yX6_told (tw_w yX6_told cX6_told 5 (some .int)) (tw_R 3 0 0) (tw_Pc D ad (wX b σ h Q) sz [.ref (ad 0), .int v, .int w9, .int wh]) (tw_Q D ad (wX b (σ) h Q) (tw_A ad (wX b σ h Q) sz) (some (.int (toldM σ v w9 wh)))) 0 0 (tw_A ad (wX b σ h Q) sz) := by
  refine tw_met (by decide) rfl (by simp [lg_sl, Value.category]) (fun p e s m below meth c ls S hK hr hlocks hnm hsz hI hl => ?_)
  have hx := S.1
  have hb := S.2.1
  have hl : lv_has ls 5 [(0, .ref (ad 0)), (1, .int v), (2, .int w9), (3, .int wh)] := hl
  refine lv_aload_n hx hb dX6_told_0 rfl (lv_at hl 0 rfl) ?_
  refine lv_iload_n hx hb dX6_told_1 rfl (lv_at hl 1 rfl) ?_
  refine lv_iload_n hx hb dX6_told_2 rfl (lv_at hl 2 rfl) ?_
  refine tw_calla (tw_rV (As := [.int v, .int w9]) (rest := []) S hK hI kX6_131 (c_X6_findDesk_noroom l D ad _ _ _ _ _ _ _ hv) wX_0 rfl rfl ⟨Nat.le_of_ble_eq_true rfl, Nat.le_of_ble_eq_true rfl⟩ ⟨Nat.le_of_ble_eq_true rfl, Nat.le_of_ble_eq_true rfl⟩ rfl hl.1 rfl (Nat.le_of_ble_eq_true rfl) dX6_told_3) hI (fun H locs hI => ?_)
  refine lv_astoreN (lv' := [(4, .null), (0, .ref (ad 0)), (1, .int v), (2, .int w9), (3, .int wh)]) hx hb dX6_told_6 hl (by decide) rfl (fun ls hl => ?_)
  refine lv_aloadN hx hb dX6_told_8 (lv_at hl 0 rfl) ?_
  refine lv_ifnonnullN hx hb dX6_told_10 ?_
  refine lv_bipush (v := (-2)) hx hb dX6_told_13 (by decide) ?_
  rw [told_noroom hv]
  exact tw_iret S hr hlocks hI dX6_told_15

set_option maxHeartbeats 2000000 in
set_option maxRecDepth 100000 in
theorem c_X6_told_nodesk (l : Launch) (D : tw_G) (ad : Nat → Nat) (b : tw_W) (σ : Sg) (h : Int32) (Q : Nat → Int32) (sz : Nat) (r : Nat) (v wh : Int32) (hok : okM σ) (hr8 : r < 8) (hv : noDesk σ r v) : Met l yX6_told (tw_w yX6_told cX6_told 5 (some .int)) (tw_R 3 0 0) (tw_Pc D ad (wX b σ h Q) sz [.ref (ad 0), .int (nI r), .int v, .int wh]) (tw_Q D ad (wX b (σ) h Q) (tw_A ad (wX b σ h Q) sz) (some (.int (toldM σ (nI r) v wh)))) 0 0 (tw_A ad (wX b σ h Q) sz) := by
  refine tw_met (by decide) rfl (by simp [lg_sl, Value.category]) (fun p e s m below meth c ls S hK hr hlocks hnm hsz hI hl => ?_)
  have hx := S.1
  have hb := S.2.1
  have hl : lv_has ls 5 [(0, .ref (ad 0)), (1, .int (nI r)), (2, .int v), (3, .int wh)] := hl
  refine lv_aload_n hx hb dX6_told_0 rfl (lv_at hl 0 rfl) ?_
  refine lv_iload_n hx hb dX6_told_1 rfl (lv_at hl 1 rfl) ?_
  refine lv_iload_n hx hb dX6_told_2 rfl (lv_at hl 2 rfl) ?_
  refine tw_calla (tw_rV (As := [.int (nI r), .int v]) (rest := []) S hK hI kX6_131 (c_X6_findDesk_nodesk l D ad _ _ _ _ _ _ _ hr8 (okD hok hr8).1 hv) wX_0 rfl rfl ⟨Nat.le_of_ble_eq_true rfl, Nat.le_of_ble_eq_true rfl⟩ ⟨Nat.le_of_ble_eq_true rfl, Nat.le_of_ble_eq_true rfl⟩ rfl hl.1 rfl (Nat.le_of_ble_eq_true rfl) dX6_told_3) hI (fun H locs hI => ?_)
  refine lv_astoreN (lv' := [(4, .null), (0, .ref (ad 0)), (1, .int (nI r)), (2, .int v), (3, .int wh)]) hx hb dX6_told_6 hl (by decide) rfl (fun ls hl => ?_)
  refine lv_aloadN hx hb dX6_told_8 (lv_at hl 0 rfl) ?_
  refine lv_ifnonnullN hx hb dX6_told_10 ?_
  refine lv_bipush (v := (-2)) hx hb dX6_told_13 (by decide) ?_
  rw [told_nodesk hok hr8 hv]
  exact tw_iret S hr hlocks hI dX6_told_15

set_option maxHeartbeats 2000000 in
set_option maxRecDepth 100000 in
theorem c_X6_told_nn (l : Launch) (D : tw_G) (ad : Nat → Nat) (b : tw_W) (σ : Sg) (h : Int32) (Q : Nat → Int32) (sz : Nat) (r d : Nat) (wh : Int32) (hok : okM σ) (hr8 : r < 8) (hd4 : d < 4) (hc : d < dcS σ r) (e1 : σ.1 10 (4 * r + d) = -1) (e2 : σ.1 13 (4 * r + d) = -1) : Met l yX6_told (tw_w yX6_told cX6_told 5 (some .int)) (tw_R 3 0 0) (tw_Pc D ad (wX b σ h Q) sz [.ref (ad 0), .int (nI r), .int (nI d), .int wh]) (tw_Q D ad (wX b (σ) h Q) (tw_A ad (wX b σ h Q) sz) (some (.int (toldM σ (nI r) (nI d) wh)))) 0 0 (tw_A ad (wX b σ h Q) sz) := by
  refine tw_met (by decide) rfl (by simp [lg_sl, Value.category]) (fun p e s m below meth c ls S hK hr hlocks hnm hsz hI hl => ?_)
  have hx := S.1
  have hb := S.2.1
  have hl : lv_has ls 5 [(0, .ref (ad 0)), (1, .int (nI r)), (2, .int (nI d)), (3, .int wh)] := hl
  refine lv_aload_n hx hb dX6_told_0 rfl (lv_at hl 0 rfl) ?_
  refine lv_iload_n hx hb dX6_told_1 rfl (lv_at hl 1 rfl) ?_
  refine lv_iload_n hx hb dX6_told_2 rfl (lv_at hl 2 rfl) ?_
  refine tw_calla (tw_rV (As := [.int (nI r), .int (nI d)]) (rest := []) S hK hI kX6_131 (c_X6_findDesk_some l D ad _ _ _ _ _ _ _ hr8 hd4 hc) wX_0 rfl rfl ⟨Nat.le_of_ble_eq_true rfl, Nat.le_of_ble_eq_true rfl⟩ ⟨Nat.le_of_ble_eq_true rfl, Nat.le_of_ble_eq_true rfl⟩ rfl hl.1 rfl (Nat.le_of_ble_eq_true rfl) dX6_told_3) hI (fun H locs hI => ?_)
  refine lv_astore (lv' := [(4, .ref (ad (30 + (4 * r + d)))), (0, .ref (ad 0)), (1, .int (nI r)), (2, .int (nI d)), (3, .int wh)]) hx hb dX6_told_6 hl (by decide) rfl (fun ls hl => ?_)
  refine lv_aload hx hb dX6_told_8 (lv_at hl 0 rfl) ?_
  refine lv_ifnonnull (tgt := 16) hx hb dX6_told_10 (by decide) ?_
  refine lv_iload_n hx hb dX6_told_16 rfl (lv_at hl 4 rfl) ?_
  rcases tsw_0_4 wh with h1 | h1 | h1 | h1 | h1 | ⟨h1, n1_0, n1_1, n1_2, n1_3, n1_4⟩
  · have n1_1 : ¬ wh = 1 := by rw [h1]; decide
    have n1_2 : ¬ wh = 2 := by rw [h1]; decide
    have n1_3 : ¬ wh = 3 := by rw [h1]; decide
    have n1_4 : ¬ wh = 4 := by rw [h1]; decide
    refine lv_tableIn (off := 35) (tgt := 52) hx hb dX6_told_17 (by rw [h1]; decide) (by rw [h1]; decide) (by rw [h1]; decide) (by decide) ?_
    refine lv_aload hx hb dX6_told_52 (lv_at hl 0 rfl) ?_
    refine f6_149_0 S hK hI (wX_desk hr8 hd4 hc) rfl (v' := .int (σ.1 9 (4 * r + d))) rfl dX6_told_54 ?_
    refine lv_topi (fun x2 e2 => ?_)
    subst e2
    rw [told_ok hok hr8 hd4 hc]
    unfold toldD
    try rw [e1]
    try rw [e2]
    try rw [if_pos h1]
    exact tw_iret S hr hlocks hI dX6_told_57
  · have n1_0 : ¬ wh = 0 := by rw [h1]; decide
    have n1_2 : ¬ wh = 2 := by rw [h1]; decide
    have n1_3 : ¬ wh = 3 := by rw [h1]; decide
    have n1_4 : ¬ wh = 4 := by rw [h1]; decide
    refine lv_tableIn (off := 41) (tgt := 58) hx hb dX6_told_17 (by rw [h1]; decide) (by rw [h1]; decide) (by rw [h1]; decide) (by decide) ?_
    refine lv_aload hx hb dX6_told_58 (lv_at hl 0 rfl) ?_
    refine f6_152_0 S hK hI (wX_desk hr8 hd4 hc) (v := va_rf (tI (dec (σ.1 10 (4 * r + d))))) rfl (v' := .null) (by rw [e1, dec_m1]; rfl) dX6_told_60 ?_
    refine tw_calli (tw_rS (As := [.null]) (rest := []) S hK hI kX6_97 (c_X6_numberOf_none l D ad _ _ _ _ _) ⟨Nat.le_of_ble_eq_true rfl, Nat.le_of_ble_eq_true rfl⟩ ⟨Nat.le_of_ble_eq_true rfl, Nat.le_of_ble_eq_true rfl⟩ rfl hl.1 rfl (Nat.le_of_ble_eq_true rfl) dX6_told_63) hI (fun H locs hI => ?_)
    refine lv_topi (fun x3 e3 => ?_)
    subst e3
    rw [told_ok hok hr8 hd4 hc]
    unfold toldD
    try rw [e1]
    try rw [e2]
    try rw [if_neg n1_0]
    try rw [if_pos h1]
    exact tw_iret S hr hlocks hI dX6_told_66
  · have n1_0 : ¬ wh = 0 := by rw [h1]; decide
    have n1_1 : ¬ wh = 1 := by rw [h1]; decide
    have n1_3 : ¬ wh = 3 := by rw [h1]; decide
    have n1_4 : ¬ wh = 4 := by rw [h1]; decide
    refine lv_tableIn (off := 50) (tgt := 67) hx hb dX6_told_17 (by rw [h1]; decide) (by rw [h1]; decide) (by rw [h1]; decide) (by decide) ?_
    refine lv_aload hx hb dX6_told_67 (lv_at hl 0 rfl) ?_
    refine f6_156_0 S hK hI (wX_desk hr8 hd4 hc) rfl (v' := .int (σ.1 11 (4 * r + d))) rfl dX6_told_69 ?_
    refine lv_topi (fun x4 e4 => ?_)
    subst e4
    rw [told_ok hok hr8 hd4 hc]
    unfold toldD
    try rw [e1]
    try rw [e2]
    try rw [if_neg n1_0]
    try rw [if_neg n1_1]
    try rw [if_pos h1]
    exact tw_iret S hr hlocks hI dX6_told_72
  · have n1_0 : ¬ wh = 0 := by rw [h1]; decide
    have n1_1 : ¬ wh = 1 := by rw [h1]; decide
    have n1_2 : ¬ wh = 2 := by rw [h1]; decide
    have n1_4 : ¬ wh = 4 := by rw [h1]; decide
    refine lv_tableIn (off := 56) (tgt := 73) hx hb dX6_told_17 (by rw [h1]; decide) (by rw [h1]; decide) (by rw [h1]; decide) (by decide) ?_
    refine lv_aload hx hb dX6_told_73 (lv_at hl 0 rfl) ?_
    refine f6_159_0 S hK hI (wX_desk hr8 hd4 hc) rfl (v' := .int (σ.1 12 (4 * r + d))) rfl dX6_told_75 ?_
    refine lv_topi (fun x5 e5 => ?_)
    subst e5
    rw [told_ok hok hr8 hd4 hc]
    unfold toldD
    try rw [e1]
    try rw [e2]
    try rw [if_neg n1_0]
    try rw [if_neg n1_1]
    try rw [if_neg n1_2]
    try rw [if_pos h1]
    exact tw_iret S hr hlocks hI dX6_told_78
  · have n1_0 : ¬ wh = 0 := by rw [h1]; decide
    have n1_1 : ¬ wh = 1 := by rw [h1]; decide
    have n1_2 : ¬ wh = 2 := by rw [h1]; decide
    have n1_3 : ¬ wh = 3 := by rw [h1]; decide
    refine lv_tableIn (off := 62) (tgt := 79) hx hb dX6_told_17 (by rw [h1]; decide) (by rw [h1]; decide) (by rw [h1]; decide) (by decide) ?_
    refine lv_aload hx hb dX6_told_79 (lv_at hl 0 rfl) ?_
    refine f6_162_0 S hK hI (wX_desk hr8 hd4 hc) (v := va_rf (tI (dec (σ.1 13 (4 * r + d))))) rfl (v' := .null) (by rw [e2, dec_m1]; rfl) dX6_told_81 ?_
    refine tw_calli (tw_rS (As := [.null]) (rest := []) S hK hI kX6_97 (c_X6_numberOf_none l D ad _ _ _ _ _) ⟨Nat.le_of_ble_eq_true rfl, Nat.le_of_ble_eq_true rfl⟩ ⟨Nat.le_of_ble_eq_true rfl, Nat.le_of_ble_eq_true rfl⟩ rfl hl.1 rfl (Nat.le_of_ble_eq_true rfl) dX6_told_84) hI (fun H locs hI => ?_)
    refine lv_topi (fun x6 e6 => ?_)
    subst e6
    rw [told_ok hok hr8 hd4 hc]
    unfold toldD
    try rw [e1]
    try rw [e2]
    try rw [if_neg n1_0]
    try rw [if_neg n1_1]
    try rw [if_neg n1_2]
    try rw [if_neg n1_3]
    try rw [if_pos h1]
    exact tw_iret S hr hlocks hI dX6_told_87
  · refine lv_tableOut (tgt := 88) hx hb dX6_told_17 h1 (by decide) ?_
    refine lv_bipush (v := (-2)) hx hb dX6_told_88 (by decide) ?_
    rw [told_ok hok hr8 hd4 hc]
    unfold toldD
    try rw [e1]
    try rw [e2]
    try rw [if_neg n1_0]
    try rw [if_neg n1_1]
    try rw [if_neg n1_2]
    try rw [if_neg n1_3]
    try rw [if_neg n1_4]
    exact tw_iret S hr hlocks hI dX6_told_90

set_option maxHeartbeats 2000000 in
set_option maxRecDepth 100000 in
theorem c_X6_told_ns (l : Launch) (D : tw_G) (ad : Nat → Nat) (b : tw_W) (σ : Sg) (h : Int32) (Q : Nat → Int32) (sz : Nat) (r d q2 : Nat) (wh : Int32) (hok : okM σ) (hr8 : r < 8) (hd4 : d < 4) (hc : d < dcS σ r) (e1 : σ.1 10 (4 * r + d) = -1) (hq2 : q2 < nS σ) (hq26 : q2 < 60) (e2 : σ.1 13 (4 * r + d) = nI q2) : Met l yX6_told (tw_w yX6_told cX6_told 5 (some .int)) (tw_R 3 0 0) (tw_Pc D ad (wX b σ h Q) sz [.ref (ad 0), .int (nI r), .int (nI d), .int wh]) (tw_Q D ad (wX b (σ) h Q) (tw_A ad (wX b σ h Q) sz) (some (.int (toldM σ (nI r) (nI d) wh)))) 0 0 (tw_A ad (wX b σ h Q) sz) := by
  refine tw_met (by decide) rfl (by simp [lg_sl, Value.category]) (fun p e s m below meth c ls S hK hr hlocks hnm hsz hI hl => ?_)
  have hx := S.1
  have hb := S.2.1
  have hl : lv_has ls 5 [(0, .ref (ad 0)), (1, .int (nI r)), (2, .int (nI d)), (3, .int wh)] := hl
  refine lv_aload_n hx hb dX6_told_0 rfl (lv_at hl 0 rfl) ?_
  refine lv_iload_n hx hb dX6_told_1 rfl (lv_at hl 1 rfl) ?_
  refine lv_iload_n hx hb dX6_told_2 rfl (lv_at hl 2 rfl) ?_
  refine tw_calla (tw_rV (As := [.int (nI r), .int (nI d)]) (rest := []) S hK hI kX6_131 (c_X6_findDesk_some l D ad _ _ _ _ _ _ _ hr8 hd4 hc) wX_0 rfl rfl ⟨Nat.le_of_ble_eq_true rfl, Nat.le_of_ble_eq_true rfl⟩ ⟨Nat.le_of_ble_eq_true rfl, Nat.le_of_ble_eq_true rfl⟩ rfl hl.1 rfl (Nat.le_of_ble_eq_true rfl) dX6_told_3) hI (fun H locs hI => ?_)
  refine lv_astore (lv' := [(4, .ref (ad (30 + (4 * r + d)))), (0, .ref (ad 0)), (1, .int (nI r)), (2, .int (nI d)), (3, .int wh)]) hx hb dX6_told_6 hl (by decide) rfl (fun ls hl => ?_)
  refine lv_aload hx hb dX6_told_8 (lv_at hl 0 rfl) ?_
  refine lv_ifnonnull (tgt := 16) hx hb dX6_told_10 (by decide) ?_
  refine lv_iload_n hx hb dX6_told_16 rfl (lv_at hl 4 rfl) ?_
  rcases tsw_0_4 wh with h1 | h1 | h1 | h1 | h1 | ⟨h1, n1_0, n1_1, n1_2, n1_3, n1_4⟩
  · have n1_1 : ¬ wh = 1 := by rw [h1]; decide
    have n1_2 : ¬ wh = 2 := by rw [h1]; decide
    have n1_3 : ¬ wh = 3 := by rw [h1]; decide
    have n1_4 : ¬ wh = 4 := by rw [h1]; decide
    refine lv_tableIn (off := 35) (tgt := 52) hx hb dX6_told_17 (by rw [h1]; decide) (by rw [h1]; decide) (by rw [h1]; decide) (by decide) ?_
    refine lv_aload hx hb dX6_told_52 (lv_at hl 0 rfl) ?_
    refine f6_149_0 S hK hI (wX_desk hr8 hd4 hc) rfl (v' := .int (σ.1 9 (4 * r + d))) rfl dX6_told_54 ?_
    refine lv_topi (fun x2 e2 => ?_)
    subst e2
    rw [told_ok hok hr8 hd4 hc]
    unfold toldD
    try rw [e1]
    try rw [e2]
    try rw [if_pos h1]
    exact tw_iret S hr hlocks hI dX6_told_57
  · have n1_0 : ¬ wh = 0 := by rw [h1]; decide
    have n1_2 : ¬ wh = 2 := by rw [h1]; decide
    have n1_3 : ¬ wh = 3 := by rw [h1]; decide
    have n1_4 : ¬ wh = 4 := by rw [h1]; decide
    refine lv_tableIn (off := 41) (tgt := 58) hx hb dX6_told_17 (by rw [h1]; decide) (by rw [h1]; decide) (by rw [h1]; decide) (by decide) ?_
    refine lv_aload hx hb dX6_told_58 (lv_at hl 0 rfl) ?_
    refine f6_152_0 S hK hI (wX_desk hr8 hd4 hc) (v := va_rf (tI (dec (σ.1 10 (4 * r + d))))) rfl (v' := .null) (by rw [e1, dec_m1]; rfl) dX6_told_60 ?_
    refine tw_calli (tw_rS (As := [.null]) (rest := []) S hK hI kX6_97 (c_X6_numberOf_none l D ad _ _ _ _ _) ⟨Nat.le_of_ble_eq_true rfl, Nat.le_of_ble_eq_true rfl⟩ ⟨Nat.le_of_ble_eq_true rfl, Nat.le_of_ble_eq_true rfl⟩ rfl hl.1 rfl (Nat.le_of_ble_eq_true rfl) dX6_told_63) hI (fun H locs hI => ?_)
    refine lv_topi (fun x3 e3 => ?_)
    subst e3
    rw [told_ok hok hr8 hd4 hc]
    unfold toldD
    try rw [e1]
    try rw [e2]
    try rw [if_neg n1_0]
    try rw [if_pos h1]
    exact tw_iret S hr hlocks hI dX6_told_66
  · have n1_0 : ¬ wh = 0 := by rw [h1]; decide
    have n1_1 : ¬ wh = 1 := by rw [h1]; decide
    have n1_3 : ¬ wh = 3 := by rw [h1]; decide
    have n1_4 : ¬ wh = 4 := by rw [h1]; decide
    refine lv_tableIn (off := 50) (tgt := 67) hx hb dX6_told_17 (by rw [h1]; decide) (by rw [h1]; decide) (by rw [h1]; decide) (by decide) ?_
    refine lv_aload hx hb dX6_told_67 (lv_at hl 0 rfl) ?_
    refine f6_156_0 S hK hI (wX_desk hr8 hd4 hc) rfl (v' := .int (σ.1 11 (4 * r + d))) rfl dX6_told_69 ?_
    refine lv_topi (fun x4 e4 => ?_)
    subst e4
    rw [told_ok hok hr8 hd4 hc]
    unfold toldD
    try rw [e1]
    try rw [e2]
    try rw [if_neg n1_0]
    try rw [if_neg n1_1]
    try rw [if_pos h1]
    exact tw_iret S hr hlocks hI dX6_told_72
  · have n1_0 : ¬ wh = 0 := by rw [h1]; decide
    have n1_1 : ¬ wh = 1 := by rw [h1]; decide
    have n1_2 : ¬ wh = 2 := by rw [h1]; decide
    have n1_4 : ¬ wh = 4 := by rw [h1]; decide
    refine lv_tableIn (off := 56) (tgt := 73) hx hb dX6_told_17 (by rw [h1]; decide) (by rw [h1]; decide) (by rw [h1]; decide) (by decide) ?_
    refine lv_aload hx hb dX6_told_73 (lv_at hl 0 rfl) ?_
    refine f6_159_0 S hK hI (wX_desk hr8 hd4 hc) rfl (v' := .int (σ.1 12 (4 * r + d))) rfl dX6_told_75 ?_
    refine lv_topi (fun x5 e5 => ?_)
    subst e5
    rw [told_ok hok hr8 hd4 hc]
    unfold toldD
    try rw [e1]
    try rw [e2]
    try rw [if_neg n1_0]
    try rw [if_neg n1_1]
    try rw [if_neg n1_2]
    try rw [if_pos h1]
    exact tw_iret S hr hlocks hI dX6_told_78
  · have n1_0 : ¬ wh = 0 := by rw [h1]; decide
    have n1_1 : ¬ wh = 1 := by rw [h1]; decide
    have n1_2 : ¬ wh = 2 := by rw [h1]; decide
    have n1_3 : ¬ wh = 3 := by rw [h1]; decide
    refine lv_tableIn (off := 62) (tgt := 79) hx hb dX6_told_17 (by rw [h1]; decide) (by rw [h1]; decide) (by rw [h1]; decide) (by decide) ?_
    refine lv_aload hx hb dX6_told_79 (lv_at hl 0 rfl) ?_
    refine f6_162_0 S hK hI (wX_desk hr8 hd4 hc) (v := va_rf (tI (dec (σ.1 13 (4 * r + d))))) rfl (v' := .ref (ad (100 + q2))) (by rw [e2, dec_nI (by omega)]; rfl) dX6_told_81 ?_
    refine tw_calli (tw_rS (As := [.ref (ad (100 + q2))]) (rest := []) S hK hI kX6_97 (c_X6_numberOf_some l D ad _ _ _ _ _ _ hq2 hq26) ⟨Nat.le_of_ble_eq_true rfl, Nat.le_of_ble_eq_true rfl⟩ ⟨Nat.le_of_ble_eq_true rfl, Nat.le_of_ble_eq_true rfl⟩ rfl hl.1 rfl (Nat.le_of_ble_eq_true rfl) dX6_told_84) hI (fun H locs hI => ?_)
    refine lv_topi (fun x6 e6 => ?_)
    subst e6
    rw [told_ok hok hr8 hd4 hc]
    unfold toldD
    try rw [e1]
    try rw [e2]
    try rw [if_neg n1_0]
    try rw [if_neg n1_1]
    try rw [if_neg n1_2]
    try rw [if_neg n1_3]
    try rw [if_pos h1]
    exact tw_iret S hr hlocks hI dX6_told_87
  · refine lv_tableOut (tgt := 88) hx hb dX6_told_17 h1 (by decide) ?_
    refine lv_bipush (v := (-2)) hx hb dX6_told_88 (by decide) ?_
    rw [told_ok hok hr8 hd4 hc]
    unfold toldD
    try rw [e1]
    try rw [e2]
    try rw [if_neg n1_0]
    try rw [if_neg n1_1]
    try rw [if_neg n1_2]
    try rw [if_neg n1_3]
    try rw [if_neg n1_4]
    exact tw_iret S hr hlocks hI dX6_told_90

set_option maxHeartbeats 2000000 in
set_option maxRecDepth 100000 in
theorem c_X6_told_sn (l : Launch) (D : tw_G) (ad : Nat → Nat) (b : tw_W) (σ : Sg) (h : Int32) (Q : Nat → Int32) (sz : Nat) (r d q1 : Nat) (wh : Int32) (hok : okM σ) (hr8 : r < 8) (hd4 : d < 4) (hc : d < dcS σ r) (hq1 : q1 < nS σ) (hq16 : q1 < 60) (e1 : σ.1 10 (4 * r + d) = nI q1) (e2 : σ.1 13 (4 * r + d) = -1) : Met l yX6_told (tw_w yX6_told cX6_told 5 (some .int)) (tw_R 3 0 0) (tw_Pc D ad (wX b σ h Q) sz [.ref (ad 0), .int (nI r), .int (nI d), .int wh]) (tw_Q D ad (wX b (σ) h Q) (tw_A ad (wX b σ h Q) sz) (some (.int (toldM σ (nI r) (nI d) wh)))) 0 0 (tw_A ad (wX b σ h Q) sz) := by
  refine tw_met (by decide) rfl (by simp [lg_sl, Value.category]) (fun p e s m below meth c ls S hK hr hlocks hnm hsz hI hl => ?_)
  have hx := S.1
  have hb := S.2.1
  have hl : lv_has ls 5 [(0, .ref (ad 0)), (1, .int (nI r)), (2, .int (nI d)), (3, .int wh)] := hl
  refine lv_aload_n hx hb dX6_told_0 rfl (lv_at hl 0 rfl) ?_
  refine lv_iload_n hx hb dX6_told_1 rfl (lv_at hl 1 rfl) ?_
  refine lv_iload_n hx hb dX6_told_2 rfl (lv_at hl 2 rfl) ?_
  refine tw_calla (tw_rV (As := [.int (nI r), .int (nI d)]) (rest := []) S hK hI kX6_131 (c_X6_findDesk_some l D ad _ _ _ _ _ _ _ hr8 hd4 hc) wX_0 rfl rfl ⟨Nat.le_of_ble_eq_true rfl, Nat.le_of_ble_eq_true rfl⟩ ⟨Nat.le_of_ble_eq_true rfl, Nat.le_of_ble_eq_true rfl⟩ rfl hl.1 rfl (Nat.le_of_ble_eq_true rfl) dX6_told_3) hI (fun H locs hI => ?_)
  refine lv_astore (lv' := [(4, .ref (ad (30 + (4 * r + d)))), (0, .ref (ad 0)), (1, .int (nI r)), (2, .int (nI d)), (3, .int wh)]) hx hb dX6_told_6 hl (by decide) rfl (fun ls hl => ?_)
  refine lv_aload hx hb dX6_told_8 (lv_at hl 0 rfl) ?_
  refine lv_ifnonnull (tgt := 16) hx hb dX6_told_10 (by decide) ?_
  refine lv_iload_n hx hb dX6_told_16 rfl (lv_at hl 4 rfl) ?_
  rcases tsw_0_4 wh with h1 | h1 | h1 | h1 | h1 | ⟨h1, n1_0, n1_1, n1_2, n1_3, n1_4⟩
  · have n1_1 : ¬ wh = 1 := by rw [h1]; decide
    have n1_2 : ¬ wh = 2 := by rw [h1]; decide
    have n1_3 : ¬ wh = 3 := by rw [h1]; decide
    have n1_4 : ¬ wh = 4 := by rw [h1]; decide
    refine lv_tableIn (off := 35) (tgt := 52) hx hb dX6_told_17 (by rw [h1]; decide) (by rw [h1]; decide) (by rw [h1]; decide) (by decide) ?_
    refine lv_aload hx hb dX6_told_52 (lv_at hl 0 rfl) ?_
    refine f6_149_0 S hK hI (wX_desk hr8 hd4 hc) rfl (v' := .int (σ.1 9 (4 * r + d))) rfl dX6_told_54 ?_
    refine lv_topi (fun x2 e2 => ?_)
    subst e2
    rw [told_ok hok hr8 hd4 hc]
    unfold toldD
    try rw [e1]
    try rw [e2]
    try rw [if_pos h1]
    exact tw_iret S hr hlocks hI dX6_told_57
  · have n1_0 : ¬ wh = 0 := by rw [h1]; decide
    have n1_2 : ¬ wh = 2 := by rw [h1]; decide
    have n1_3 : ¬ wh = 3 := by rw [h1]; decide
    have n1_4 : ¬ wh = 4 := by rw [h1]; decide
    refine lv_tableIn (off := 41) (tgt := 58) hx hb dX6_told_17 (by rw [h1]; decide) (by rw [h1]; decide) (by rw [h1]; decide) (by decide) ?_
    refine lv_aload hx hb dX6_told_58 (lv_at hl 0 rfl) ?_
    refine f6_152_0 S hK hI (wX_desk hr8 hd4 hc) (v := va_rf (tI (dec (σ.1 10 (4 * r + d))))) rfl (v' := .ref (ad (100 + q1))) (by rw [e1, dec_nI (by omega)]; rfl) dX6_told_60 ?_
    refine tw_calli (tw_rS (As := [.ref (ad (100 + q1))]) (rest := []) S hK hI kX6_97 (c_X6_numberOf_some l D ad _ _ _ _ _ _ hq1 hq16) ⟨Nat.le_of_ble_eq_true rfl, Nat.le_of_ble_eq_true rfl⟩ ⟨Nat.le_of_ble_eq_true rfl, Nat.le_of_ble_eq_true rfl⟩ rfl hl.1 rfl (Nat.le_of_ble_eq_true rfl) dX6_told_63) hI (fun H locs hI => ?_)
    refine lv_topi (fun x3 e3 => ?_)
    subst e3
    rw [told_ok hok hr8 hd4 hc]
    unfold toldD
    try rw [e1]
    try rw [e2]
    try rw [if_neg n1_0]
    try rw [if_pos h1]
    exact tw_iret S hr hlocks hI dX6_told_66
  · have n1_0 : ¬ wh = 0 := by rw [h1]; decide
    have n1_1 : ¬ wh = 1 := by rw [h1]; decide
    have n1_3 : ¬ wh = 3 := by rw [h1]; decide
    have n1_4 : ¬ wh = 4 := by rw [h1]; decide
    refine lv_tableIn (off := 50) (tgt := 67) hx hb dX6_told_17 (by rw [h1]; decide) (by rw [h1]; decide) (by rw [h1]; decide) (by decide) ?_
    refine lv_aload hx hb dX6_told_67 (lv_at hl 0 rfl) ?_
    refine f6_156_0 S hK hI (wX_desk hr8 hd4 hc) rfl (v' := .int (σ.1 11 (4 * r + d))) rfl dX6_told_69 ?_
    refine lv_topi (fun x4 e4 => ?_)
    subst e4
    rw [told_ok hok hr8 hd4 hc]
    unfold toldD
    try rw [e1]
    try rw [e2]
    try rw [if_neg n1_0]
    try rw [if_neg n1_1]
    try rw [if_pos h1]
    exact tw_iret S hr hlocks hI dX6_told_72
  · have n1_0 : ¬ wh = 0 := by rw [h1]; decide
    have n1_1 : ¬ wh = 1 := by rw [h1]; decide
    have n1_2 : ¬ wh = 2 := by rw [h1]; decide
    have n1_4 : ¬ wh = 4 := by rw [h1]; decide
    refine lv_tableIn (off := 56) (tgt := 73) hx hb dX6_told_17 (by rw [h1]; decide) (by rw [h1]; decide) (by rw [h1]; decide) (by decide) ?_
    refine lv_aload hx hb dX6_told_73 (lv_at hl 0 rfl) ?_
    refine f6_159_0 S hK hI (wX_desk hr8 hd4 hc) rfl (v' := .int (σ.1 12 (4 * r + d))) rfl dX6_told_75 ?_
    refine lv_topi (fun x5 e5 => ?_)
    subst e5
    rw [told_ok hok hr8 hd4 hc]
    unfold toldD
    try rw [e1]
    try rw [e2]
    try rw [if_neg n1_0]
    try rw [if_neg n1_1]
    try rw [if_neg n1_2]
    try rw [if_pos h1]
    exact tw_iret S hr hlocks hI dX6_told_78
  · have n1_0 : ¬ wh = 0 := by rw [h1]; decide
    have n1_1 : ¬ wh = 1 := by rw [h1]; decide
    have n1_2 : ¬ wh = 2 := by rw [h1]; decide
    have n1_3 : ¬ wh = 3 := by rw [h1]; decide
    refine lv_tableIn (off := 62) (tgt := 79) hx hb dX6_told_17 (by rw [h1]; decide) (by rw [h1]; decide) (by rw [h1]; decide) (by decide) ?_
    refine lv_aload hx hb dX6_told_79 (lv_at hl 0 rfl) ?_
    refine f6_162_0 S hK hI (wX_desk hr8 hd4 hc) (v := va_rf (tI (dec (σ.1 13 (4 * r + d))))) rfl (v' := .null) (by rw [e2, dec_m1]; rfl) dX6_told_81 ?_
    refine tw_calli (tw_rS (As := [.null]) (rest := []) S hK hI kX6_97 (c_X6_numberOf_none l D ad _ _ _ _ _) ⟨Nat.le_of_ble_eq_true rfl, Nat.le_of_ble_eq_true rfl⟩ ⟨Nat.le_of_ble_eq_true rfl, Nat.le_of_ble_eq_true rfl⟩ rfl hl.1 rfl (Nat.le_of_ble_eq_true rfl) dX6_told_84) hI (fun H locs hI => ?_)
    refine lv_topi (fun x6 e6 => ?_)
    subst e6
    rw [told_ok hok hr8 hd4 hc]
    unfold toldD
    try rw [e1]
    try rw [e2]
    try rw [if_neg n1_0]
    try rw [if_neg n1_1]
    try rw [if_neg n1_2]
    try rw [if_neg n1_3]
    try rw [if_pos h1]
    exact tw_iret S hr hlocks hI dX6_told_87
  · refine lv_tableOut (tgt := 88) hx hb dX6_told_17 h1 (by decide) ?_
    refine lv_bipush (v := (-2)) hx hb dX6_told_88 (by decide) ?_
    rw [told_ok hok hr8 hd4 hc]
    unfold toldD
    try rw [e1]
    try rw [e2]
    try rw [if_neg n1_0]
    try rw [if_neg n1_1]
    try rw [if_neg n1_2]
    try rw [if_neg n1_3]
    try rw [if_neg n1_4]
    exact tw_iret S hr hlocks hI dX6_told_90

set_option maxHeartbeats 2000000 in
set_option maxRecDepth 100000 in
theorem c_X6_told_ss (l : Launch) (D : tw_G) (ad : Nat → Nat) (b : tw_W) (σ : Sg) (h : Int32) (Q : Nat → Int32) (sz : Nat) (r d q1 q2 : Nat) (wh : Int32) (hok : okM σ) (hr8 : r < 8) (hd4 : d < 4) (hc : d < dcS σ r) (hq1 : q1 < nS σ) (hq16 : q1 < 60) (e1 : σ.1 10 (4 * r + d) = nI q1) (hq2 : q2 < nS σ) (hq26 : q2 < 60) (e2 : σ.1 13 (4 * r + d) = nI q2) : Met l yX6_told (tw_w yX6_told cX6_told 5 (some .int)) (tw_R 3 0 0) (tw_Pc D ad (wX b σ h Q) sz [.ref (ad 0), .int (nI r), .int (nI d), .int wh]) (tw_Q D ad (wX b (σ) h Q) (tw_A ad (wX b σ h Q) sz) (some (.int (toldM σ (nI r) (nI d) wh)))) 0 0 (tw_A ad (wX b σ h Q) sz) := by
  refine tw_met (by decide) rfl (by simp [lg_sl, Value.category]) (fun p e s m below meth c ls S hK hr hlocks hnm hsz hI hl => ?_)
  have hx := S.1
  have hb := S.2.1
  have hl : lv_has ls 5 [(0, .ref (ad 0)), (1, .int (nI r)), (2, .int (nI d)), (3, .int wh)] := hl
  refine lv_aload_n hx hb dX6_told_0 rfl (lv_at hl 0 rfl) ?_
  refine lv_iload_n hx hb dX6_told_1 rfl (lv_at hl 1 rfl) ?_
  refine lv_iload_n hx hb dX6_told_2 rfl (lv_at hl 2 rfl) ?_
  refine tw_calla (tw_rV (As := [.int (nI r), .int (nI d)]) (rest := []) S hK hI kX6_131 (c_X6_findDesk_some l D ad _ _ _ _ _ _ _ hr8 hd4 hc) wX_0 rfl rfl ⟨Nat.le_of_ble_eq_true rfl, Nat.le_of_ble_eq_true rfl⟩ ⟨Nat.le_of_ble_eq_true rfl, Nat.le_of_ble_eq_true rfl⟩ rfl hl.1 rfl (Nat.le_of_ble_eq_true rfl) dX6_told_3) hI (fun H locs hI => ?_)
  refine lv_astore (lv' := [(4, .ref (ad (30 + (4 * r + d)))), (0, .ref (ad 0)), (1, .int (nI r)), (2, .int (nI d)), (3, .int wh)]) hx hb dX6_told_6 hl (by decide) rfl (fun ls hl => ?_)
  refine lv_aload hx hb dX6_told_8 (lv_at hl 0 rfl) ?_
  refine lv_ifnonnull (tgt := 16) hx hb dX6_told_10 (by decide) ?_
  refine lv_iload_n hx hb dX6_told_16 rfl (lv_at hl 4 rfl) ?_
  rcases tsw_0_4 wh with h1 | h1 | h1 | h1 | h1 | ⟨h1, n1_0, n1_1, n1_2, n1_3, n1_4⟩
  · have n1_1 : ¬ wh = 1 := by rw [h1]; decide
    have n1_2 : ¬ wh = 2 := by rw [h1]; decide
    have n1_3 : ¬ wh = 3 := by rw [h1]; decide
    have n1_4 : ¬ wh = 4 := by rw [h1]; decide
    refine lv_tableIn (off := 35) (tgt := 52) hx hb dX6_told_17 (by rw [h1]; decide) (by rw [h1]; decide) (by rw [h1]; decide) (by decide) ?_
    refine lv_aload hx hb dX6_told_52 (lv_at hl 0 rfl) ?_
    refine f6_149_0 S hK hI (wX_desk hr8 hd4 hc) rfl (v' := .int (σ.1 9 (4 * r + d))) rfl dX6_told_54 ?_
    refine lv_topi (fun x2 e2 => ?_)
    subst e2
    rw [told_ok hok hr8 hd4 hc]
    unfold toldD
    try rw [e1]
    try rw [e2]
    try rw [if_pos h1]
    exact tw_iret S hr hlocks hI dX6_told_57
  · have n1_0 : ¬ wh = 0 := by rw [h1]; decide
    have n1_2 : ¬ wh = 2 := by rw [h1]; decide
    have n1_3 : ¬ wh = 3 := by rw [h1]; decide
    have n1_4 : ¬ wh = 4 := by rw [h1]; decide
    refine lv_tableIn (off := 41) (tgt := 58) hx hb dX6_told_17 (by rw [h1]; decide) (by rw [h1]; decide) (by rw [h1]; decide) (by decide) ?_
    refine lv_aload hx hb dX6_told_58 (lv_at hl 0 rfl) ?_
    refine f6_152_0 S hK hI (wX_desk hr8 hd4 hc) (v := va_rf (tI (dec (σ.1 10 (4 * r + d))))) rfl (v' := .ref (ad (100 + q1))) (by rw [e1, dec_nI (by omega)]; rfl) dX6_told_60 ?_
    refine tw_calli (tw_rS (As := [.ref (ad (100 + q1))]) (rest := []) S hK hI kX6_97 (c_X6_numberOf_some l D ad _ _ _ _ _ _ hq1 hq16) ⟨Nat.le_of_ble_eq_true rfl, Nat.le_of_ble_eq_true rfl⟩ ⟨Nat.le_of_ble_eq_true rfl, Nat.le_of_ble_eq_true rfl⟩ rfl hl.1 rfl (Nat.le_of_ble_eq_true rfl) dX6_told_63) hI (fun H locs hI => ?_)
    refine lv_topi (fun x3 e3 => ?_)
    subst e3
    rw [told_ok hok hr8 hd4 hc]
    unfold toldD
    try rw [e1]
    try rw [e2]
    try rw [if_neg n1_0]
    try rw [if_pos h1]
    exact tw_iret S hr hlocks hI dX6_told_66
  · have n1_0 : ¬ wh = 0 := by rw [h1]; decide
    have n1_1 : ¬ wh = 1 := by rw [h1]; decide
    have n1_3 : ¬ wh = 3 := by rw [h1]; decide
    have n1_4 : ¬ wh = 4 := by rw [h1]; decide
    refine lv_tableIn (off := 50) (tgt := 67) hx hb dX6_told_17 (by rw [h1]; decide) (by rw [h1]; decide) (by rw [h1]; decide) (by decide) ?_
    refine lv_aload hx hb dX6_told_67 (lv_at hl 0 rfl) ?_
    refine f6_156_0 S hK hI (wX_desk hr8 hd4 hc) rfl (v' := .int (σ.1 11 (4 * r + d))) rfl dX6_told_69 ?_
    refine lv_topi (fun x4 e4 => ?_)
    subst e4
    rw [told_ok hok hr8 hd4 hc]
    unfold toldD
    try rw [e1]
    try rw [e2]
    try rw [if_neg n1_0]
    try rw [if_neg n1_1]
    try rw [if_pos h1]
    exact tw_iret S hr hlocks hI dX6_told_72
  · have n1_0 : ¬ wh = 0 := by rw [h1]; decide
    have n1_1 : ¬ wh = 1 := by rw [h1]; decide
    have n1_2 : ¬ wh = 2 := by rw [h1]; decide
    have n1_4 : ¬ wh = 4 := by rw [h1]; decide
    refine lv_tableIn (off := 56) (tgt := 73) hx hb dX6_told_17 (by rw [h1]; decide) (by rw [h1]; decide) (by rw [h1]; decide) (by decide) ?_
    refine lv_aload hx hb dX6_told_73 (lv_at hl 0 rfl) ?_
    refine f6_159_0 S hK hI (wX_desk hr8 hd4 hc) rfl (v' := .int (σ.1 12 (4 * r + d))) rfl dX6_told_75 ?_
    refine lv_topi (fun x5 e5 => ?_)
    subst e5
    rw [told_ok hok hr8 hd4 hc]
    unfold toldD
    try rw [e1]
    try rw [e2]
    try rw [if_neg n1_0]
    try rw [if_neg n1_1]
    try rw [if_neg n1_2]
    try rw [if_pos h1]
    exact tw_iret S hr hlocks hI dX6_told_78
  · have n1_0 : ¬ wh = 0 := by rw [h1]; decide
    have n1_1 : ¬ wh = 1 := by rw [h1]; decide
    have n1_2 : ¬ wh = 2 := by rw [h1]; decide
    have n1_3 : ¬ wh = 3 := by rw [h1]; decide
    refine lv_tableIn (off := 62) (tgt := 79) hx hb dX6_told_17 (by rw [h1]; decide) (by rw [h1]; decide) (by rw [h1]; decide) (by decide) ?_
    refine lv_aload hx hb dX6_told_79 (lv_at hl 0 rfl) ?_
    refine f6_162_0 S hK hI (wX_desk hr8 hd4 hc) (v := va_rf (tI (dec (σ.1 13 (4 * r + d))))) rfl (v' := .ref (ad (100 + q2))) (by rw [e2, dec_nI (by omega)]; rfl) dX6_told_81 ?_
    refine tw_calli (tw_rS (As := [.ref (ad (100 + q2))]) (rest := []) S hK hI kX6_97 (c_X6_numberOf_some l D ad _ _ _ _ _ _ hq2 hq26) ⟨Nat.le_of_ble_eq_true rfl, Nat.le_of_ble_eq_true rfl⟩ ⟨Nat.le_of_ble_eq_true rfl, Nat.le_of_ble_eq_true rfl⟩ rfl hl.1 rfl (Nat.le_of_ble_eq_true rfl) dX6_told_84) hI (fun H locs hI => ?_)
    refine lv_topi (fun x6 e6 => ?_)
    subst e6
    rw [told_ok hok hr8 hd4 hc]
    unfold toldD
    try rw [e1]
    try rw [e2]
    try rw [if_neg n1_0]
    try rw [if_neg n1_1]
    try rw [if_neg n1_2]
    try rw [if_neg n1_3]
    try rw [if_pos h1]
    exact tw_iret S hr hlocks hI dX6_told_87
  · refine lv_tableOut (tgt := 88) hx hb dX6_told_17 h1 (by decide) ?_
    refine lv_bipush (v := (-2)) hx hb dX6_told_88 (by decide) ?_
    rw [told_ok hok hr8 hd4 hc]
    unfold toldD
    try rw [e1]
    try rw [e2]
    try rw [if_neg n1_0]
    try rw [if_neg n1_1]
    try rw [if_neg n1_2]
    try rw [if_neg n1_3]
    try rw [if_neg n1_4]
    exact tw_iret S hr hlocks hI dX6_told_90

theorem c_X6_told (l : Launch) (D : tw_G) (ad : Nat → Nat) (b : tw_W) (σ : Sg) (h : Int32) (Q : Nat → Int32) (sz : Nat) (v w9 wh : Int32) (hok : okM σ) (hH : okH σ) : Met l yX6_told (tw_w yX6_told cX6_told 5 (some .int)) (tw_R 3 0 0) (tw_Pc D ad (wX b σ h Q) sz [.ref (ad 0), .int v, .int w9, .int wh]) (tw_Q D ad (wX b (σ) h Q) (tw_A ad (wX b σ h Q) sz) (some (.int (toldM σ v w9 wh)))) 0 0 (tw_A ad (wX b σ h Q) sz) := by
  rcases room_or v with hv | ⟨r, hr8, rfl⟩
  · exact c_X6_told_noroom l D ad b σ h Q sz v w9 wh hok hv
  · rcases desk_or σ r w9 (okD hok hr8).1 with hv | ⟨d, hc, hd4, rfl⟩
    · exact c_X6_told_nodesk l D ad b σ h Q sz r w9 wh hok hr8 hv
    · have h6 := (okN hok).1
      obtain ⟨a1, a2, -⟩ := hH r d hr8 hc
      rcases a1 with e1 | ⟨q1, hq1, e1⟩ <;> rcases a2 with e2 | ⟨q2, hq2, e2⟩
      · exact c_X6_told_nn l D ad b σ h Q sz r d wh hok hr8 hd4 hc e1 e2
      · exact c_X6_told_ns l D ad b σ h Q sz r d q2 wh hok hr8 hd4 hc e1 hq2 (by omega) e2
      · exact c_X6_told_sn l D ad b σ h Q sz r d q1 wh hok hr8 hd4 hc hq1 (by omega) e1 e2
      · exact c_X6_told_ss l D ad b σ h Q sz r d q1 q2 wh hok hr8 hd4 hc hq1 (by omega) e1 hq2 (by omega) e2