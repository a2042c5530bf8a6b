/-! the class: pass, hand -/
theorem go_none (sp : Sg → Nat → Sg) (r : Nat) : ∀ (m a : Nat) (σ : Sg), goO sp r m a none σ = (none, σ)
  | 0, _, _ => rfl
  | _ + 1, _, _ => rfl
theorem go_in {sp : Sg → Nat → Sg} {r m a t : Nat} {σ : Sg} (h : a < dcS σ r) : goO sp r (m + 1) a (some t) σ = goO sp r m (a + 1) (meetF sp (4 * r + a) σ t).1 (meetF sp (4 * r + a) σ t).2 := by
  show (if a < dcS σ r then _ else _) = _
  rw [if_pos h]
theorem go_out {sp : Sg → Nat → Sg} {r m a t : Nat} {σ : Sg} (h : ¬ a < dcS σ r) : goO sp r (m + 1) a (some t) σ = goO sp r m (a + 1) (some t) σ := by
  show (if a < dcS σ r then _ else _) = _
  rw [if_neg h]
theorem noD {σ : Sg} {r d : Nat} (h4 : dcS σ r ≤ 4) (hd : d < 4) (h : ¬ d < dcS σ r) : noDesk σ r (nI d) := Or.inr (nI_le (by omega) (by omega))

set_option maxHeartbeats 2000000 in
set_option maxRecDepth 100000 in
theorem lb_X6_passN {p : Program} {l : Launch} {e : Env} {s : State} {m : MethodId} {av : Array Value} {below : List Frame} {meth : Method} {c : Code} {H : Heap} {locs : List Loc} {Z : State → Prop} {ls : Array Slot} {D : tw_G} {A : Nat → Prop} {ad : Nat → Nat} {b : tw_W} {σ : Sg} {h : Int32} {Q : Nat → Int32} {n r d B : Nat} (S : CallFix p m c cX6_pass 7 s av tw_ws RX6) (hK : tw_K D s) (hI : tw_I D A ad (wX b σ h Q) s.heap H locs) (hl : lv_has ls 7 [(5, .int (nI d)), (4, .null), (3, .ref (ad (10 + r))), (0, .ref (ad 0)), (2, .int (nI r))]) (hV : INV σ B) (hr8 : r < 8) (hd4 : d < 4)  (kk : ∀ (H1 : Heap) (locs1 : List Loc) (ls1 : Array Slot), tw_I D A ad (wX b σ h Q) s.heap H1 locs1 → lv_has ls1 7 [(5, .int (nI (d + 1))), (4, .null), (3, .ref (ad (10 + r))), (0, .ref (ad 0)), (2, .int (nI r))] → W p l e (tw_R (4 * n + 7) 0 0) s m av below meth c H1 locs1 0 0 Z (F0 m 18 ls1 [])) : W p l e (tw_R (4 * n + 7) 0 0) s m av below meth c H locs 0 0 Z (F0 m 18 ls []) := by
  have hx := S.1
  have hb := S.2.1
  by_cases hc : d < dcS σ r
  · refine lv_iload hx hb dX6_pass_18 (lv_at hl 0 rfl) ?_
    refine lv_iconst (v := 4) hx hb dX6_pass_20 (by decide) ?_
    refine lv_icmp_ge (tgt := 59) hx hb dX6_pass_21 (by decide) (fun c1 => ?_) (fun c1 => ?_)
    · exact absurd c1 (nI_ge (a := d) (b := 4) hd4 (by decide))
    · refine lv_aload_n hx hb dX6_pass_24 rfl (lv_at hl 2 rfl) ?_
      refine lv_iload hx hb dX6_pass_25 (lv_at hl 0 rfl) ?_
      refine tw_calla (tw_rVN (As := [.int (nI d)]) (rest := []) S hK hI kX6_172 (c_X4_findDesk_some l D ad _ _ _ _ _ _ _ hr8 hd4 hc) (wX_room hr8) rfl rfl (tw_lvl (by omega) (by decide)) ⟨Nat.le_of_ble_eq_true rfl, Nat.le_of_ble_eq_true rfl⟩ rfl hl.1 rfl (Nat.le_of_ble_eq_true rfl) dX6_pass_27) hI (fun H locs hI => ?_)
      refine lv_astore (lv' := [(6, .ref (ad (30 + (4 * r + d)))), (5, .int (nI d)), (4, .null), (3, .ref (ad (10 + r))), (0, .ref (ad 0)), (2, .int (nI r))]) hx hb dX6_pass_30 hl (by decide) rfl (fun ls hl => ?_)
      refine lv_aload hx hb dX6_pass_32 (lv_at hl 0 rfl) ?_
      refine lv_ifnull hx hb dX6_pass_34 ?_
      refine lv_aloadN hx hb dX6_pass_37 (lv_at hl 2 rfl) ?_
      refine lv_ifnullN (tgt := 53) hx hb dX6_pass_39 (by decide) ?_
      refine lv_iinc (v := nI (d + 1)) (lv' := [(5, .int (nI (d + 1))), (6, .ref (ad (30 + (4 * r + d)))), (4, .null), (3, .ref (ad (10 + r))), (0, .ref (ad 0)), (2, .int (nI r))]) hx hb dX6_pass_53 hl (k := 1) rfl (nA (a := d) (b := 1) (c := d + 1) (by omega)) (by decide) rfl (fun ls hl => ?_)
      refine lv_goto (tgt := 18) hx hb dX6_pass_56 (by decide) ?_
      refine kk _ _ _ hI (lv_sub hl [0, 2, 3, 4, 5] rfl)
  · refine lv_iload hx hb dX6_pass_18 (lv_at hl 0 rfl) ?_
    refine lv_iconst (v := 4) hx hb dX6_pass_20 (by decide) ?_
    refine lv_icmp_ge (tgt := 59) hx hb dX6_pass_21 (by decide) (fun c2 => ?_) (fun c2 => ?_)
    · exact absurd c2 (nI_ge (a := d) (b := 4) hd4 (by decide))
    · refine lv_aload_n hx hb dX6_pass_24 rfl (lv_at hl 2 rfl) ?_
      refine lv_iload hx hb dX6_pass_25 (lv_at hl 0 rfl) ?_
      refine tw_calla (tw_rVN (As := [.int (nI d)]) (rest := []) S hK hI kX6_172 (c_X4_findDesk_none l D ad _ _ _ _ _ _ _ hr8 (okD hV.1 hr8).1 (noD (okD hV.1 hr8).1 hd4 hc)) (wX_room hr8) rfl rfl (tw_lvl (by omega) (by decide)) ⟨Nat.le_of_ble_eq_true rfl, Nat.le_of_ble_eq_true rfl⟩ rfl hl.1 rfl (Nat.le_of_ble_eq_true rfl) dX6_pass_27) hI (fun H locs hI => ?_)
      refine lv_astoreN (lv' := [(6, .null), (5, .int (nI d)), (4, .null), (3, .ref (ad (10 + r))), (0, .ref (ad 0)), (2, .int (nI r))]) hx hb dX6_pass_30 hl (by decide) rfl (fun ls hl => ?_)
      refine lv_aloadN hx hb dX6_pass_32 (lv_at hl 0 rfl) ?_
      refine lv_ifnullN (tgt := 53) hx hb dX6_pass_34 (by decide) ?_
      refine lv_iinc (v := nI (d + 1)) (lv' := [(5, .int (nI (d + 1))), (6, .null), (4, .null), (3, .ref (ad (10 + r))), (0, .ref (ad 0)), (2, .int (nI r))]) hx hb dX6_pass_53 hl (k := 1) rfl (nA (a := d) (b := 1) (c := d + 1) (by omega)) (by decide) rfl (fun ls hl => ?_)
      refine lv_goto (tgt := 18) hx hb dX6_pass_56 (by decide) ?_
      refine kk _ _ _ hI (lv_sub hl [0, 2, 3, 4, 5] rfl)

set_option maxHeartbeats 2000000 in
set_option maxRecDepth 100000 in
theorem lb_X6_passS {p : Program} {l : Launch} {e : Env} {s : State} {m : MethodId} {av : Array Value} {below : List Frame} {meth : Method} {c : Code} {H : Heap} {locs : List Loc} {Z : State → Prop} {ls : Array Slot} {D : tw_G} {A : Nat → Prop} {ad : Nat → Nat} {b : tw_W} {σ : Sg} {h : Int32} {Q : Nat → Int32} {n r d k B : Nat} (S : CallFix p m c cX6_pass 7 s av tw_ws RX6) (hK : tw_K D s) (hI : tw_I D A ad (wX b σ h Q) s.heap H locs) (hl : lv_has ls 7 [(5, .int (nI d)), (4, .ref (ad (100 + k))), (3, .ref (ad (10 + r))), (0, .ref (ad 0)), (2, .int (nI r))]) (hV : INV σ B) (hr8 : r < 8) (hd4 : d < 4) (hc : ¬ d < dcS σ r) (kk : ∀ (H1 : Heap) (locs1 : List Loc) (ls1 : Array Slot), tw_I D A ad (wX b σ h Q) s.heap H1 locs1 → lv_has ls1 7 [(5, .int (nI (d + 1))), (4, .ref (ad (100 + k))), (3, .ref (ad (10 + r))), (0, .ref (ad 0)), (2, .int (nI r))] → W p l e (tw_R (4 * n + 7) 0 0) s m av below meth c H1 locs1 0 0 Z (F0 m 18 ls1 [])) : W p l e (tw_R (4 * n + 7) 0 0) s m av below meth c H locs 0 0 Z (F0 m 18 ls []) := by
  have hx := S.1
  have hb := S.2.1
  refine lv_iload hx hb dX6_pass_18 (lv_at hl 0 rfl) ?_
  refine lv_iconst (v := 4) hx hb dX6_pass_20 (by decide) ?_
  refine lv_icmp_ge (tgt := 59) hx hb dX6_pass_21 (by decide) (fun c1 => ?_) (fun c1 => ?_)
  · exact absurd c1 (nI_ge (a := d) (b := 4) hd4 (by decide))
  · refine lv_aload_n hx hb dX6_pass_24 rfl (lv_at hl 2 rfl) ?_
    refine lv_iload hx hb dX6_pass_25 (lv_at hl 0 rfl) ?_
    refine tw_calla (tw_rVN (As := [.int (nI d)]) (rest := []) S hK hI kX6_172 (c_X4_findDesk_none l D ad _ _ _ _ _ _ _ hr8 (okD hV.1 hr8).1 (noD (okD hV.1 hr8).1 hd4 hc)) (wX_room hr8) rfl rfl (tw_lvl (by omega) (by decide)) ⟨Nat.le_of_ble_eq_true rfl, Nat.le_of_ble_eq_true rfl⟩ rfl hl.1 rfl (Nat.le_of_ble_eq_true rfl) dX6_pass_27) hI (fun H locs hI => ?_)
    refine lv_astoreN (lv' := [(6, .null), (5, .int (nI d)), (4, .ref (ad (100 + k))), (3, .ref (ad (10 + r))), (0, .ref (ad 0)), (2, .int (nI r))]) hx hb dX6_pass_30 hl (by decide) rfl (fun ls hl => ?_)
    refine lv_aloadN hx hb dX6_pass_32 (lv_at hl 0 rfl) ?_
    refine lv_ifnullN (tgt := 53) hx hb dX6_pass_34 (by decide) ?_
    refine lv_iinc (v := nI (d + 1)) (lv' := [(5, .int (nI (d + 1))), (6, .null), (4, .ref (ad (100 + k))), (3, .ref (ad (10 + r))), (0, .ref (ad 0)), (2, .int (nI r))]) hx hb dX6_pass_53 hl (k := 1) rfl (nA (a := d) (b := 1) (c := d + 1) (by omega)) (by decide) rfl (fun ls hl => ?_)
    refine lv_goto (tgt := 18) hx hb dX6_pass_56 (by decide) ?_
    refine kk _ _ _ hI (lv_sub hl [0, 2, 3, 4, 5] rfl)

set_option maxHeartbeats 2000000 in
set_option maxRecDepth 100000 in
theorem lb_X6_passM {p : Program} {l : Launch} {e : Env} {s : State} {m : MethodId} {av : Array Value} {below : List Frame} {meth : Method} {c : Code} {H : Heap} {locs : List Loc} {Z : State → Prop} {ls : Array Slot} {D : tw_G} {A : Nat → Prop} {ad : Nat → Nat} {b : tw_W} {σ : Sg} {h : Int32} {Q : Nat → Int32} {n r d k B : Nat} (S : CallFix p m c cX6_pass 7 s av tw_ws RX6) (hK : tw_K D s) (hP : passC l D ad b h Q n (r + 1)) (er : r + 1 + n = 8) (hI : tw_I D A ad (wX b σ h Q) s.heap H locs) (hl : lv_has ls 7 [(5, .int (nI d)), (4, .ref (ad (100 + k))), (3, .ref (ad (10 + r))), (0, .ref (ad 0)), (2, .int (nI r))]) (hV : INV σ B) (hr8 : r < 8) (hd4 : d < 4) (hB : B + (12 + 3 * cN n) < 2 ^ 62) (hc : d < dcS σ r) (hn : k < nS σ) (h6 : k < 60) (hQ : ¬ Q (4 * r + d) = h) (kk : ∀ (H1 : Heap) (locs1 : List Loc) (ls1 : Array Slot), tw_I D A ad (wX b (meetF (spF n (r + 1)) (4 * r + d) σ k).2 h Q) s.heap H1 locs1 → lv_has ls1 7 [(5, .int (nI (d + 1))), (4, rfv ad (meetF (spF n (r + 1)) (4 * r + d) σ k).1), (3, .ref (ad (10 + r))), (0, .ref (ad 0)), (2, .int (nI r))] → W p l e (tw_R (4 * n + 7) 0 0) s m av below meth c H1 locs1 0 0 Z (F0 m 18 ls1 [])) : W p l e (tw_R (4 * n + 7) 0 0) s m av below meth c H locs 0 0 Z (F0 m 18 ls []) := by
  have hx := S.1
  have hb := S.2.1
  refine lv_iload hx hb dX6_pass_18 (lv_at hl 0 rfl) ?_
  refine lv_iconst (v := 4) hx hb dX6_pass_20 (by decide) ?_
  refine lv_icmp_ge (tgt := 59) hx hb dX6_pass_21 (by decide) (fun c1 => ?_) (fun c1 => ?_)
  · exact absurd c1 (nI_ge (a := d) (b := 4) hd4 (by decide))
  · refine lv_aload_n hx hb dX6_pass_24 rfl (lv_at hl 2 rfl) ?_
    refine lv_iload hx hb dX6_pass_25 (lv_at hl 0 rfl) ?_
    refine tw_calla (tw_rVN (As := [.int (nI d)]) (rest := []) S hK hI kX6_172 (c_X4_findDesk_some l D ad _ _ _ _ _ _ _ hr8 hd4 hc) (wX_room hr8) rfl rfl (tw_lvl (by omega) (by decide)) ⟨Nat.le_of_ble_eq_true rfl, Nat.le_of_ble_eq_true rfl⟩ rfl hl.1 rfl (Nat.le_of_ble_eq_true rfl) dX6_pass_27) hI (fun H locs hI => ?_)
    refine lv_astore (lv' := [(6, .ref (ad (30 + (4 * r + d)))), (5, .int (nI d)), (4, .ref (ad (100 + k))), (3, .ref (ad (10 + r))), (0, .ref (ad 0)), (2, .int (nI r))]) hx hb dX6_pass_30 hl (by decide) rfl (fun ls hl => ?_)
    refine lv_aload hx hb dX6_pass_32 (lv_at hl 0 rfl) ?_
    refine lv_ifnull hx hb dX6_pass_34 ?_
    refine lv_aload hx hb dX6_pass_37 (lv_at hl 2 rfl) ?_
    refine lv_ifnull hx hb dX6_pass_39 ?_
    refine lv_aload_n hx hb dX6_pass_42 rfl (lv_at hl 4 rfl) ?_
    refine lv_aload hx hb dX6_pass_43 (lv_at hl 0 rfl) ?_
    refine lv_aload hx hb dX6_pass_45 (lv_at hl 2 rfl) ?_
    refine lv_iload_n hx hb dX6_pass_47 rfl (lv_at hl 5 rfl) ?_
    refine tw_calla (tw_rV (As := [.ref (ad (30 + (4 * r + d))), .ref (ad (100 + k)), .int (nI r)]) (rest := []) S hK hI kX6_178 (c_X6_meet l D ad _ _ _ _ _ _ _ _ _ _ hP er hV hB hr8 hd4 hc hn h6 hQ) wX_0 rfl rfl (tw_lvl (by omega) (by decide)) ⟨Nat.le_of_ble_eq_true rfl, Nat.le_of_ble_eq_true rfl⟩ rfl hl.1 rfl (Nat.le_of_ble_eq_true rfl) dX6_pass_48) hI (fun H locs hI => ?_)
    refine lv_astoreR (lv' := [(4, rfv ad ((meetF (spF n (r + 1)) (4 * r + d) σ k).1)), (6, .ref (ad (30 + (4 * r + d)))), (5, .int (nI d)), (3, .ref (ad (10 + r))), (0, .ref (ad 0)), (2, .int (nI r))]) hx hb dX6_pass_51 hl (by decide) rfl (fun ls hl => ?_)
    refine lv_iinc (v := nI (d + 1)) (lv' := [(5, .int (nI (d + 1))), (4, rfv ad ((meetF (spF n (r + 1)) (4 * r + d) σ k).1)), (6, .ref (ad (30 + (4 * r + d)))), (3, .ref (ad (10 + r))), (0, .ref (ad 0)), (2, .int (nI r))]) hx hb dX6_pass_53 hl (k := 2) rfl (nA (a := d) (b := 1) (c := d + 1) (by omega)) (by decide) (by simp [rfv_cat]) (fun ls hl => ?_)
    refine lv_goto (tgt := 18) hx hb dX6_pass_56 (by decide) ?_
    refine kk _ _ _ hI (lv_sub hl [0, 1, 3, 4, 5] rfl)

set_option maxRecDepth 100000 in
theorem ll_X6_pass {p : Program} {l : Launch} {e : Env} {s : State} {m : MethodId} {av : Array Value} {below : List Frame} {meth : Method} {c : Code} {Z : State → Prop} {D : tw_G} {A : Nat → Prop} {ad : Nat → Nat} {b : tw_W} {h : Int32} {Q : Nat → Int32} {n r : Nat} (S : CallFix p m c cX6_pass 7 s av tw_ws RX6) (hK : tw_K D s) (hP : passC l D ad b h Q n (r + 1)) (er : r + 1 + n = 8) (hQ : ∀ d : Nat, d < 32 → ¬ Q d = h) : ∀ (y d : Nat) (o : Option Nat) (σ : Sg) (B : Nat) (H : Heap) (locs : List Loc) (ls : Array Slot), INV σ B → B + y * (12 + 3 * cN n) < 2 ^ 62 → d + y = 4 → (∀ t : Nat, o = some t → t < nS σ) → tw_I D A ad (wX b σ h Q) s.heap H locs → lv_has ls 7 [(5, .int (nI d)), (4, rfv ad o), (3, .ref (ad (10 + r))), (0, .ref (ad 0)), (2, .int (nI r))] → (∀ (H1 : Heap) (locs1 : List Loc) (ls1 : Array Slot), tw_I D A ad (wX b (goO (spF n (r + 1)) r y d o σ).2 h Q) s.heap H1 locs1 → lv_has ls1 7 [(5, .int (nI 4)), (4, rfv ad (goO (spF n (r + 1)) r y d o σ).1), (3, .ref (ad (10 + r))), (0, .ref (ad 0)), (2, .int (nI r))] → W p l e (tw_R (4 * n + 7) 0 0) s m av below meth c H1 locs1 0 0 Z (F0 m 18 ls1 [])) → W p l e (tw_R (4 * n + 7) 0 0) s m av below meth c H locs 0 0 Z (F0 m 18 ls [])
  | 0, d, o, σ, B, H, locs, ls, hV, hB, e, ho, hI, hl, kk => by
    have ei : d = 4 := by omega
    subst ei
    exact kk H locs ls hI hl
  | y + 1, d, none, σ, B, H, locs, ls, hV, hB, e, ho, hI, hl, kk => by
    rw [go_none] at kk
    refine lb_X6_passN S hK hI hl hV (by omega) (by omega) (fun H1 locs1 ls1 hI1 hl1 => ?_)
    refine ll_X6_pass S hK hP er hQ y (d + 1) none σ B H1 locs1 ls1 hV (by rw [Nat.succ_mul y (12 + 3 * cN n)] at hB; omega) (by omega) ho hI1 hl1 ?_
    rw [go_none]
    exact kk
  | y + 1, d, some t, σ, B, H, locs, ls, hV, hB, e, ho, hI, hl, kk => by
    rw [Nat.succ_mul y (12 + 3 * cN n)] at hB
    have ht := ho t rfl
    have h6 := (okN hV.1).1
    by_cases c : d < dcS σ r
    · rw [go_in c] at kk
      have hm := meet_Kp (spF_Sp er) hV (by omega) (show r < 8 by omega) c ht
      refine lb_X6_passM S hK hP er hI hl hV (by omega) (by omega) (by omega) c ht (by omega) (hQ _ (by omega)) (fun H1 locs1 ls1 hI1 hl1 => ?_)
      generalize meetF (spF n (r + 1)) (4 * r + d) σ t = P at kk hm hI1 hl1
      exact ll_X6_pass S hK hP er hQ y (d + 1) P.1 P.2 (B + (12 + 3 * cN n)) H1 locs1 ls1 hm.1.1 (by omega) (by omega) (fun t' e => by rw [hm.1.n]; exact hm.2 t' e) hI1 hl1 kk
    · rw [go_out c] at kk
      refine lb_X6_passS S hK hI hl hV (by omega) (by omega) c (fun H1 locs1 ls1 hI1 hl1 => ?_)
      exact ll_X6_pass S hK hP er hQ y (d + 1) (some t) σ B H1 locs1 ls1 hV (by omega) (by omega) ho hI1 hl1 kk
set_option maxHeartbeats 2000000 in
set_option maxRecDepth 100000 in
theorem c_X6_pass_s (l : Launch) (D : tw_G) (ad : Nat → Nat) (b : tw_W) (σ : Sg) (h : Int32) (Q : Nat → Int32) (sz : Nat) (n r k B : Nat) (hP : passC l D ad b h Q n (r + 1)) (er : r + 1 + n = 8) (hQ : ∀ d : Nat, d < 32 → ¬ Q d = h) (hV : INV σ B) (hB : B + cN (n + 1) < 2 ^ 62) (hr8 : r < 8) (hn : k < nS σ) : Met l yX6_pass (tw_w yX6_pass cX6_pass 7 (some (.object "MailRooms$Item"))) (tw_R (4 * n + 7) 0 0) (tw_Pc D ad (wX b σ h Q) sz [.ref (ad 0), .ref (ad (100 + k)), .int (nI r)]) (tw_Q D ad (wX b ((passF (n + 1) r σ k).2) h Q) (tw_A ad (wX b σ h Q) sz) (some (rfv ad (passF (n + 1) r σ k).1))) 0 0 (tw_A ad (wX b σ h Q) sz) := by
  refine tw_met (by decide) rfl (by simp [lg_sl, Value.category]) (fun p e s m below meth c ls S hK hr hlocks hnm hsz hI hl => ?_)
  have hx := S.1
  have hb := S.2.1
  have hl : lv_has ls 7 [(0, .ref (ad 0)), (1, .ref (ad (100 + k))), (2, .int (nI r))] := hl
  refine lv_aload_n hx hb dX6_pass_0 rfl (lv_at hl 0 rfl) ?_
  refine lv_iload_n hx hb dX6_pass_1 rfl (lv_at hl 2 rfl) ?_
  refine tw_calla (tw_rV (As := [.int (nI r)]) (rest := []) S hK hI kX6_112 (c_X6_findRoom_some l D ad _ _ _ _ _ _ hr8) wX_0 rfl rfl (tw_lvl (by omega) (by decide)) ⟨Nat.le_of_ble_eq_true rfl, Nat.le_of_ble_eq_true rfl⟩ rfl hl.1 rfl (Nat.le_of_ble_eq_true rfl) dX6_pass_2) hI (fun H locs hI => ?_)
  refine lv_astore_n (lv' := [(3, .ref (ad (10 + r))), (0, .ref (ad 0)), (1, .ref (ad (100 + k))), (2, .int (nI r))]) hx hb dX6_pass_5 rfl hl (by decide) rfl (fun ls hl => ?_)
  refine lv_aload_n hx hb dX6_pass_6 rfl (lv_at hl 0 rfl) ?_
  refine lv_ifnonnull (tgt := 12) hx hb dX6_pass_7 (by decide) ?_
  refine lv_aload_n hx hb dX6_pass_12 rfl (lv_at hl 2 rfl) ?_
  refine lv_astore (lv' := [(4, .ref (ad (100 + k))), (3, .ref (ad (10 + r))), (0, .ref (ad 0)), (1, .ref (ad (100 + k))), (2, .int (nI r))]) hx hb dX6_pass_13 hl (by decide) rfl (fun ls hl => ?_)
  refine lv_iconst (v := 0) hx hb dX6_pass_15 (by decide) ?_
  refine lv_istore (lv' := [(5, .int 0), (4, .ref (ad (100 + k))), (3, .ref (ad (10 + r))), (0, .ref (ad 0)), (1, .ref (ad (100 + k))), (2, .int (nI r))]) hx hb dX6_pass_16 hl (by decide) rfl (fun ls hl => ?_)
  refine ll_X6_pass S hK hP er hQ 4 0 (some k) σ B _ _ _ hV hB rfl (fun t e => by cases e; exact hn) hI (lv_sub hl [0, 1, 2, 3, 5] rfl) (fun H locs ls hI hl => ?_)
  change tw_I D _ ad (wX b (passF (n + 1) r σ k).2 h Q) s.heap H locs at hI
  have hl : lv_has ls 7 [(5, .int 4), (4, rfv ad (passF (n + 1) r σ k).1), (3, .ref (ad (10 + r))), (0, .ref (ad 0)), (2, .int (nI r))] := hl
  generalize passF (n + 1) r σ k = P at hI hl ⊢
  refine lv_iload hx hb dX6_pass_18 (lv_at hl 0 rfl) ?_
  refine lv_iconst (v := 4) hx hb dX6_pass_20 (by decide) ?_
  refine lv_icmp_ge (tgt := 59) hx hb dX6_pass_21 (by decide) (fun c1 => ?_) (fun c1 => ?_)
  · refine lv_aloadR hx hb dX6_pass_59 (lv_at hl 1 rfl) ?_
    try rw [if_pos (show (4 : Int32) ≤ 4 from by decide)]
    exact tw_aret S hr rfv_or hlocks hI dX6_pass_61
  · exact absurd c1 (by decide)

set_option maxHeartbeats 2000000 in
set_option maxRecDepth 100000 in
theorem c_X6_pass_0 (l : Launch) (D : tw_G) (ad : Nat → Nat) (b : tw_W) (σ : Sg) (h : Int32) (Q : Nat → Int32) (sz : Nat) (k : Nat) : Met l yX6_pass (tw_w yX6_pass cX6_pass 7 (some (.object "MailRooms$Item"))) (tw_R 3 0 0) (tw_Pc D ad (wX b σ h Q) sz [.ref (ad 0), .ref (ad (100 + k)), .int 8]) (tw_Q D ad (wX b (σ) h Q) (tw_A ad (wX b σ h Q) sz) (some .null)) 0 0 (tw_A ad (wX b σ h Q) sz) := by
  refine tw_met (by decide) rfl (by simp [lg_sl, Value.category]) (fun p e s m below meth c ls S hK hr hlocks hnm hsz hI hl => ?_)
  have hx := S.1
  have hb := S.2.1
  have hl : lv_has ls 7 [(0, .ref (ad 0)), (1, .ref (ad (100 + k))), (2, .int 8)] := hl
  refine lv_aload_n hx hb dX6_pass_0 rfl (lv_at hl 0 rfl) ?_
  refine lv_iload_n hx hb dX6_pass_1 rfl (lv_at hl 2 rfl) ?_
  refine tw_calla (tw_rV (As := [.int 8]) (rest := []) S hK hI kX6_112 (c_X6_findRoom_none l D ad _ _ _ _ _ _ (Or.inr (by decide))) wX_0 rfl rfl ⟨Nat.le_of_ble_eq_true rfl, Nat.le_of_ble_eq_true rfl⟩ ⟨Nat.le_of_ble_eq_true rfl, Nat.le_of_ble_eq_true rfl⟩ rfl hl.1 rfl (Nat.le_of_ble_eq_true rfl) dX6_pass_2) hI (fun H locs hI => ?_)
  refine lv_astore_nN (lv' := [(3, .null), (0, .ref (ad 0)), (1, .ref (ad (100 + k))), (2, .int 8)]) hx hb dX6_pass_5 rfl hl (by decide) rfl (fun ls hl => ?_)
  refine lv_aload_nN hx hb dX6_pass_6 rfl (lv_at hl 0 rfl) ?_
  refine lv_ifnonnullN hx hb dX6_pass_7 ?_
  refine lv_null hx hb dX6_pass_10 ?_
  exact tw_aret S hr (Or.inl rfl) hlocks hI dX6_pass_11

theorem c_X6_pass (l : Launch) (D : tw_G) (ad : Nat → Nat) (b : tw_W) (h : Int32) (Q : Nat → Int32) (hQ : ∀ d : Nat, d < 32 → ¬ Q d = h) : ∀ n r : Nat, r + n = 8 → passC l D ad b h Q n r
  | 0, r, e => by
    have e8 : r = 8 := by omega
    subst e8
    exact fun σ sz B t hV hB ht => c_X6_pass_0 l D ad b σ h Q sz t
  | n + 1, r, e => fun σ sz B t hV hB ht => c_X6_pass_s l D ad b σ h Q sz n r t B (c_X6_pass l D ad b h Q hQ n (r + 1) (by omega)) (by omega) hQ hV hB (by omega) ht

theorem wXg_desk {b : tw_W} {root : List Value} {n : Nat} {dc : Nat → Nat} {cnt : Nat → Int32} {desk desk' : Nat → List Value} {item : Nat → tw_T} {arr : Nat → Option tw_T} (h : ∀ d : Nat, d < 32 → desk' d = desk d) : wXg b root n dc cnt desk' item arr = wXg b root n dc cnt desk item arr := by
  funext t
  unfold wXg
  by_cases c : 30 ≤ t ∧ t < 62 ∧ (t - 30) % 4 < dc ((t - 30) / 4)
  · rw [h (t - 30) (by omega)]
  · rw [if_neg c, if_neg c]
theorem xDesk_z {σ : Sg} {h v : Int32} {Q : Nat → Int32} {d : Nat} (hd : d < 32) : xDesk (zF σ 32) v (xAsk σ h Q) d = xDesk σ h Q d := by
  unfold xDesk
  have e : xAsk (zF σ 32) v (xAsk σ h Q) d = xAsk σ h Q d := by
    show (if (zF σ 32).1 14 d = 1 then v else xAsk σ h Q d) = _
    rw [zF_at, if_pos hd, if_neg (by decide)]
  rw [e]
  rfl
theorem wX_hand {b : tw_W} {σ : Sg} {h v : Int32} {Q : Nat → Int32} : va_up (wX b σ h Q) 0 (some (.inr (5, (xRoot σ h).set 3 (.int v)))) = wX b (zF σ 32) v (xAsk σ h Q) := by
  have e : wX b (zF σ 32) v (xAsk σ h Q) = wXg b (xRoot (zF σ 32) v) (nS σ) (dcS σ) (σ.1 5) (xDesk σ h Q) (xItem σ) (xArr σ) := wXg_desk (fun d hd => xDesk_z hd)
  rw [e]
  funext t
  by_cases ht : t = 0
  · subst ht
    rw [va_up_self]
    rfl
  · rw [va_up_ne _ _ ht]
    unfold wX wXg
    rw [if_neg ht, if_neg ht]
theorem px_25 {p : Program} {l : Launch} {e : Env} {R : Room} {s : State} {m : MethodId} {args : Array Value} {below : List Frame} {meth : Method} {c : Code} {H : Heap} {locs : List Loc} {cells slots : Nat} {Z : State → Prop} {cc : ByteArray} {pc nL : Nat} {ls : Array Slot} {rest : List Value} {D : tw_G} {A : Nat → Prop} {ad : Nat → Nat} {b : tw_W} {σ : Sg} {h : Int32} {Q : Nat → Int32} {v : Int32} (S : CallFix p m c cc nL s args tw_ws RX6) (hK : tw_K D s) (hI : tw_I D A ad (wX b σ h Q) s.heap H locs) (hdg : decode cc pc = .ok (.putfield 25, 3)) (kk : ∀ (H1 : Heap) (locs1 : List Loc), tw_I D A ad (wX b (zF σ 32) v (xAsk σ h Q)) s.heap H1 locs1 → W p l e R s m args below meth c H1 locs1 cells slots Z (F0 m (pc + 3) ls rest)) : W p l e R s m args below meth c H locs cells slots Z (F0 m pc ls (.int v :: .ref (ad 0) :: rest)) :=
  p6_25_6 S hK hI wX_0 (v := .int v) rfl rfl rfl (Nat.le_of_ble_eq_true rfl) hdg (fun H1 locs1 h1 => kk H1 locs1 (by
    rw [← wX_hand]
    exact h1))

set_option maxHeartbeats 2000000 in
set_option maxRecDepth 100000 in
theorem c_X6_hand_none (l : Launch) (D : tw_G) (ad : Nat → Nat) (b : tw_W) (σ : Sg) (h : Int32) (Q : Nat → Int32) (sz : Nat) (t r : Int32) (hok : okM σ) (hv : noItem σ t) : Met l yX6_hand (tw_w yX6_hand cX6_hand 4 (some .int)) (tw_R 36 0 0) (tw_Pc D ad (wX b σ h Q) sz [.ref (ad 0), .int t, .int r]) (tw_Q D ad (wX b (refuseM σ (-2)) h Q) (tw_A ad (wX b σ h Q) sz) (some (.int (-2)))) 0 0 (tw_A ad (wX b σ h Q) sz) := by
  refine tw_met (by decide) rfl (by simp [lg_sl, Value.category]) (fun p e s m below meth c ls S hK hr hlocks hnm hsz hI hl => ?_)
  have hx := S.1
  have hb := S.2.1
  have hl : lv_has ls 4 [(0, .ref (ad 0)), (1, .int t), (2, .int r)] := hl
  refine lv_aload_n hx hb dX6_hand_0 rfl (lv_at hl 0 rfl) ?_
  refine lv_iload_n hx hb dX6_hand_1 rfl (lv_at hl 1 rfl) ?_
  refine tw_calla (tw_rV (As := [.int t]) (rest := []) S hK hI kX6_78 (c_X6_findItem_none l D ad _ _ _ _ _ _ (okN hok).1 hv) wX_0 rfl rfl (tw_lvl (by omega) (by decide)) ⟨Nat.le_of_ble_eq_true rfl, Nat.le_of_ble_eq_true rfl⟩ rfl hl.1 rfl (Nat.le_of_ble_eq_true rfl) dX6_hand_2) hI (fun H locs hI => ?_)
  refine lv_astore_nN (lv' := [(3, .null), (0, .ref (ad 0)), (1, .int t), (2, .int r)]) hx hb dX6_hand_5 rfl hl (by decide) rfl (fun ls hl => ?_)
  refine lv_aload_nN hx hb dX6_hand_6 rfl (lv_at hl 0 rfl) ?_
  refine lv_ifnullN (tgt := 18) hx hb dX6_hand_7 (by decide) ?_
  refine lv_aload_n hx hb dX6_hand_18 rfl (lv_at hl 1 rfl) ?_
  refine lv_bipush (v := (-2)) hx hb dX6_hand_19 (by decide) ?_
  refine tw_calli (tw_rV (As := [.int (-2)]) (rest := []) S hK hI kX6_50 (c_X6_refuse l D ad _ _ _ _ _ _) wX_0 rfl rfl (tw_lvl (by omega) (by decide)) ⟨Nat.le_of_ble_eq_true rfl, Nat.le_of_ble_eq_true rfl⟩ rfl hl.1 rfl (Nat.le_of_ble_eq_true rfl) dX6_hand_21) hI (fun H locs hI => ?_)
  refine lv_topi (fun x1 e1 => ?_)
  subst e1
  exact tw_iret S hr hlocks hI dX6_hand_24

set_option maxHeartbeats 2000000 in
set_option maxRecDepth 100000 in
theorem c_X6_hand_noroom (l : Launch) (D : tw_G) (ad : Nat → Nat) (b : tw_W) (σ : Sg) (h : Int32) (Q : Nat → Int32) (sz : Nat) (k : Nat) (r : Int32) (hok : okM σ) (hn : k < nS σ) (h6 : k < 60) (hv : r < 0 ∨ 8 ≤ r) : Met l yX6_hand (tw_w yX6_hand cX6_hand 4 (some .int)) (tw_R 36 0 0) (tw_Pc D ad (wX b σ h Q) sz [.ref (ad 0), .int (nI k), .int r]) (tw_Q D ad (wX b (refuseM σ (-2)) h Q) (tw_A ad (wX b σ h Q) sz) (some (.int (-2)))) 0 0 (tw_A ad (wX b σ h Q) sz) := by
  refine tw_met (by decide) rfl (by simp [lg_sl, Value.category]) (fun p e s m below meth c ls S hK hr hlocks hnm hsz hI hl => ?_)
  have hx := S.1
  have hb := S.2.1
  have hl : lv_has ls 4 [(0, .ref (ad 0)), (1, .int (nI k)), (2, .int r)] := hl
  refine lv_aload_n hx hb dX6_hand_0 rfl (lv_at hl 0 rfl) ?_
  refine lv_iload_n hx hb dX6_hand_1 rfl (lv_at hl 1 rfl) ?_
  refine tw_calla (tw_rV (As := [.int (nI k)]) (rest := []) S hK hI kX6_78 (c_X6_findItem_some l D ad _ _ _ _ _ _ hn h6) wX_0 rfl rfl (tw_lvl (by omega) (by decide)) ⟨Nat.le_of_ble_eq_true rfl, Nat.le_of_ble_eq_true rfl⟩ rfl hl.1 rfl (Nat.le_of_ble_eq_true rfl) dX6_hand_2) hI (fun H locs hI => ?_)
  refine lv_astore_n (lv' := [(3, .ref (ad (100 + k))), (0, .ref (ad 0)), (1, .int (nI k)), (2, .int r)]) hx hb dX6_hand_5 rfl hl (by decide) rfl (fun ls hl => ?_)
  refine lv_aload_n hx hb dX6_hand_6 rfl (lv_at hl 0 rfl) ?_
  refine lv_ifnull hx hb dX6_hand_7 ?_
  refine lv_aload_n hx hb dX6_hand_10 rfl (lv_at hl 1 rfl) ?_
  refine lv_iload_n hx hb dX6_hand_11 rfl (lv_at hl 3 rfl) ?_
  refine tw_calla (tw_rV (As := [.int r]) (rest := []) S hK hI kX6_112 (c_X6_findRoom_none l D ad _ _ _ _ _ _ hv) wX_0 rfl rfl (tw_lvl (by omega) (by decide)) ⟨Nat.le_of_ble_eq_true rfl, Nat.le_of_ble_eq_true rfl⟩ rfl hl.1 rfl (Nat.le_of_ble_eq_true rfl) dX6_hand_12) hI (fun H locs hI => ?_)
  refine lv_ifnonnullN hx hb dX6_hand_15 ?_
  refine lv_aload_n hx hb dX6_hand_18 rfl (lv_at hl 1 rfl) ?_
  refine lv_bipush (v := (-2)) hx hb dX6_hand_19 (by decide) ?_
  refine tw_calli (tw_rV (As := [.int (-2)]) (rest := []) S hK hI kX6_50 (c_X6_refuse l D ad _ _ _ _ _ _) wX_0 rfl rfl (tw_lvl (by omega) (by decide)) ⟨Nat.le_of_ble_eq_true rfl, Nat.le_of_ble_eq_true rfl⟩ rfl hl.1 rfl (Nat.le_of_ble_eq_true rfl) dX6_hand_21) hI (fun H locs hI => ?_)
  refine lv_topi (fun x1 e1 => ?_)
  subst e1
  exact tw_iret S hr hlocks hI dX6_hand_24

theorem cN_mono : ∀ n : Nat, cN n ≤ cN (n + 1)
  | 0 => Nat.zero_le _
  | n + 1 => by
    show 4 * (12 + 3 * cN n) ≤ 4 * (12 + 3 * cN (n + 1))
    have := cN_mono n
    omega
theorem cN_le : ∀ n : Nat, n ≤ 8 → cN n ≤ 2000000000 := by decide +kernel

set_option maxHeartbeats 2000000 in
set_option maxRecDepth 100000 in
theorem c_X6_hand_ok (l : Launch) (D : tw_G) (ad : Nat → Nat) (b : tw_W) (σ0 : Sg) (h : Int32) (Q : Nat → Int32) (sz : Nat) (k r B : Nat) (hV0 : INV σ0 B) (hB : B + 2000000000 < 2 ^ 62) (hQ : ∀ d : Nat, d < 32 → ¬ xAsk σ0 h Q d = h + 1) (hn0 : k < nS σ0) (h6 : k < 60) (hr8 : r < 8) : Met l yX6_hand (tw_w yX6_hand cX6_hand 4 (some .int)) (tw_R 36 0 0) (tw_Pc D ad (wX b σ0 h Q) sz [.ref (ad 0), .int (nI k), .int (nI r)]) (tw_Q D ad (wX b ((handOK σ0 k r).2) (h + 1) (xAsk σ0 h Q)) (tw_A ad (wX b σ0 h Q) sz) (some (.int (handOK σ0 k r).1))) 0 0 (tw_A ad (wX b σ0 h Q) sz) := by
  refine tw_met (by decide) rfl (by simp [lg_sl, Value.category]) (fun p e s m below meth c ls S hK hr hlocks hnm hsz hI hl => ?_)
  have hx := S.1
  have hb := S.2.1
  have hl : lv_has ls 4 [(0, .ref (ad 0)), (1, .int (nI k)), (2, .int (nI r))] := hl
  refine lv_aload_n hx hb dX6_hand_0 rfl (lv_at hl 0 rfl) ?_
  refine lv_iload_n hx hb dX6_hand_1 rfl (lv_at hl 1 rfl) ?_
  refine tw_calla (tw_rV (As := [.int (nI k)]) (rest := []) S hK hI kX6_78 (c_X6_findItem_some l D ad _ _ _ _ _ _ hn0 h6) wX_0 rfl rfl (tw_lvl (by omega) (by decide)) ⟨Nat.le_of_ble_eq_true rfl, Nat.le_of_ble_eq_true rfl⟩ rfl hl.1 rfl (Nat.le_of_ble_eq_true rfl) dX6_hand_2) hI (fun H locs hI => ?_)
  refine lv_astore_n (lv' := [(3, .ref (ad (100 + k))), (0, .ref (ad 0)), (1, .int (nI k)), (2, .int (nI r))]) hx hb dX6_hand_5 rfl hl (by decide) rfl (fun ls hl => ?_)
  refine lv_aload_n hx hb dX6_hand_6 rfl (lv_at hl 0 rfl) ?_
  refine lv_ifnull hx hb dX6_hand_7 ?_
  refine lv_aload_n hx hb dX6_hand_10 rfl (lv_at hl 1 rfl) ?_
  refine lv_iload_n hx hb dX6_hand_11 rfl (lv_at hl 3 rfl) ?_
  refine tw_calla (tw_rV (As := [.int (nI r)]) (rest := []) S hK hI kX6_112 (c_X6_findRoom_some l D ad _ _ _ _ _ _ hr8) wX_0 rfl rfl (tw_lvl (by omega) (by decide)) ⟨Nat.le_of_ble_eq_true rfl, Nat.le_of_ble_eq_true rfl⟩ rfl hl.1 rfl (Nat.le_of_ble_eq_true rfl) dX6_hand_12) hI (fun H locs hI => ?_)
  refine lv_ifnonnull (tgt := 25) hx hb dX6_hand_15 (by decide) ?_
  refine lv_aload_n hx hb dX6_hand_25 rfl (lv_at hl 1 rfl) ?_
  refine lv_dup hx hb dX6_hand_26 rfl ?_
  refine gx_25 S hK hI dX6_hand_27 ?_
  refine lv_iconst (v := 1) hx hb dX6_hand_30 (by decide) ?_
  refine lv_iadd hx hb dX6_hand_31 ?_
  refine px_25 S hK hI dX6_hand_32 (fun H locs hI => ?_)
  refine lv_aload_n hx hb dX6_hand_35 rfl (lv_at hl 1 rfl) ?_
  refine lv_iconst (v := 0) hx hb dX6_hand_36 (by decide) ?_
  refine px_28 S hK hI dX6_hand_37 (fun H locs hI => ?_)
  have hV := INV_h1 hV0
  have hn : k < nS (sI (zF σ0 32) 26 0 0) := hn0
  have hX := hand_X σ0 k r
  rw [hX]
  clear hX
  have hkp := pass_Kp (8 - r) r _ B k (by omega) hV (by have := cN_le (8 - r) (by omega); omega) hn
  generalize sI (zF σ0 32) 26 0 0 = σ at hI hV hn hkp ⊢
  refine lv_aload_n hx hb dX6_hand_40 rfl (lv_at hl 1 rfl) ?_
  refine lv_aload_n hx hb dX6_hand_41 rfl (lv_at hl 1 rfl) ?_
  refine lv_aload_n hx hb dX6_hand_42 rfl (lv_at hl 0 rfl) ?_
  refine lv_iload_n hx hb dX6_hand_43 rfl (lv_at hl 3 rfl) ?_
  refine tw_calla (tw_rV (As := [.ref (ad (100 + k)), .int (nI r)]) (rest := [.ref (ad 0)]) S hK hI kX6_145 (c_X6_pass l D ad b (h + 1) (xAsk σ0 h Q) hQ (8 - r) r (by omega) σ _ B k hV (by have := cN_le (8 - r) (by omega); omega) hn) wX_0 rfl rfl (tw_lvl (by omega) (by decide)) ⟨Nat.le_of_ble_eq_true rfl, Nat.le_of_ble_eq_true rfl⟩ rfl hl.1 rfl (Nat.le_of_ble_eq_true rfl) dX6_hand_44) hI (fun H locs hI => ?_)
  generalize passF (8 - r) r σ k = P at hI hkp ⊢
  obtain ⟨o, τ⟩ := P
  cases o with
  | none =>
    refine tw_calli (tw_rS (As := [.null]) (rest := [.ref (ad 0)]) S hK hI kX6_97 (c_X6_numberOf_none l D ad _ _ _ _ _) (tw_lvl (by omega) (by decide)) ⟨Nat.le_of_ble_eq_true rfl, Nat.le_of_ble_eq_true rfl⟩ rfl hl.1 rfl (Nat.le_of_ble_eq_true rfl) dX6_hand_47) hI (fun H locs hI => ?_)
    refine lv_topi (fun x1 e1 => ?_)
    refine px_31 S hK hI dX6_hand_50 (fun H locs hI => ?_)
    refine lv_aload_n hx hb dX6_hand_53 rfl (lv_at hl 1 rfl) ?_
    refine lv_aload_n hx hb dX6_hand_54 rfl (lv_at hl 1 rfl) ?_
    refine gx_28 S hK hI dX6_hand_55 ?_
    refine lv_topi (fun x2 e2 => ?_)
    refine tw_calli (tw_rV (As := [.int x2]) (rest := []) S hK hI kX6_62 (c_X6_accept l D ad _ _ _ _ _ _) wX_0 rfl rfl (tw_lvl (by omega) (by decide)) ⟨Nat.le_of_ble_eq_true rfl, Nat.le_of_ble_eq_true rfl⟩ rfl hl.1 rfl (Nat.le_of_ble_eq_true rfl) dX6_hand_58) hI (fun H locs hI => ?_)
    refine lv_topi (fun x3 e3 => ?_)
    subst e3
    subst e2
    subst e1
    exact tw_iret S hr hlocks hI dX6_hand_61
  | some q =>
    have hq : q < nS τ := by rw [hkp.1.n]; exact hkp.2 q rfl
    have hq6 : nS τ ≤ 60 := (okN hkp.1.1.1).1
    refine tw_calli (tw_rS (As := [.ref (ad (100 + q))]) (rest := [.ref (ad 0)]) S hK hI kX6_97 (c_X6_numberOf_some l D ad _ _ _ _ _ _ hq (by omega)) (tw_lvl (by omega) (by decide)) ⟨Nat.le_of_ble_eq_true rfl, Nat.le_of_ble_eq_true rfl⟩ rfl hl.1 rfl (Nat.le_of_ble_eq_true rfl) dX6_hand_47) hI (fun H locs hI => ?_)
    refine lv_topi (fun x4 e4 => ?_)
    refine px_31 S hK hI dX6_hand_50 (fun H locs hI => ?_)
    refine lv_aload_n hx hb dX6_hand_53 rfl (lv_at hl 1 rfl) ?_
    refine lv_aload_n hx hb dX6_hand_54 rfl (lv_at hl 1 rfl) ?_
    refine gx_28 S hK hI dX6_hand_55 ?_
    refine lv_topi (fun x5 e5 => ?_)
    refine tw_calli (tw_rV (As := [.int x5]) (rest := []) S hK hI kX6_62 (c_X6_accept l D ad _ _ _ _ _ _) wX_0 rfl rfl (tw_lvl (by omega) (by decide)) ⟨Nat.le_of_ble_eq_true rfl, Nat.le_of_ble_eq_true rfl⟩ rfl hl.1 rfl (Nat.le_of_ble_eq_true rfl) dX6_hand_58) hI (fun H locs hI => ?_)
    refine lv_topi (fun x6 e6 => ?_)
    subst e6
    subst e5
    subst e4
    exact tw_iret S hr hlocks hI dX6_hand_61
