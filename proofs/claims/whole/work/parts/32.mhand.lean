/-! the reference: hand -/
def gjB (f : Nat) : Bool := f == 21 || f == 22 || f == 23 || f == 24 || f == 25
def gj (σ : Sg) (F : Nat → Nat → Int32) : Sg := (fun f => cond (gjB f) (F f) (σ.1 f), σ.2)
theorem gj_off {σ : Sg} {F : Nat → Nat → Int32} {f : Nat} (h : gjB f = false) : (gj σ F).1 f = σ.1 f := by
  show cond (gjB f) (F f) (σ.1 f) = _
  rw [h]
  rfl
theorem gr_gj {τ : Sg} {F : Nat → Nat → Int32} {v : Int32} (h15 : F 15 = τ.1 15) (h20 : F 20 = va_up (τ.1 20) 0 v) : gr τ F = gj (sI τ 20 0 v) F := by
  refine Prod.ext (funext fun f => ?_) rfl
  by_cases c15 : f = 15
  · subst c15
    rw [gr_on rfl, gj_off rfl, sI_ne _ _ _ (by decide), h15]
  · by_cases c20 : f = 20
    · subst c20
      rw [gr_on rfl, gj_off rfl, sI_row, h20]
    · show cond (grB f) (F f) (τ.1 f) = cond (gjB f) (F f) ((sI τ 20 0 v).1 f)
      rw [sI_ne _ _ _ c20]
      have e : grB f = gjB f := by
        unfold grB gjB
        rw [show (f == 15) = false from beq_eq_false_iff_ne.mpr c15, show (f == 20) = false from beq_eq_false_iff_ne.mpr c20]
        rfl
      rw [e]
theorem INV_hand1 {σ : Sg} {B : Nat} (h : INV σ B) : INV (hand1 σ) B := INV_z (Kp_sI (f := 26) (by decide) (Kp_sI (f := 15) (by decide) h).1).1

set_option maxHeartbeats 2000000 in
set_option maxRecDepth 100000 in
theorem lb_X7_hand {p : Program} {l : Launch} {e : Env} {s : State} {m : MethodId} {av : Array Value} {below : List Frame} {meth : Method} {c : Code} {H : Heap} {locs : List Loc} {Z : State → Prop} {σ : Sg} {ls : Array Slot} {D : tw_G} {A : Nat → Prop} {ad : Nat → Nat} {b : tw_W} {k r i : Nat} (S : CallFix p m c cX7_hand 4 s av tw_ws RX7) (hK : tw_K D s) (hI : tw_I D A ad (wM b (zF σ i)) s.heap H locs) (hl : lv_has ls 4 [(3, .int (nI i)), (0, .ref (ad 1000)), (1, .int (nI k)), (2, .int (nI r))]) (hi : i < 32) (kk : ∀ (H1 : Heap) (locs1 : List Loc) (ls1 : Array Slot), tw_I D A ad (wM b (zF σ (i + 1))) s.heap H1 locs1 → lv_has ls1 4 [(3, .int (nI (i + 1))), (0, .ref (ad 1000)), (1, .int (nI k)), (2, .int (nI r))] → W p l e (tw_R 7 0 0) s m av below meth c H1 locs1 0 0 Z (F0 m 34 ls1 [])) : W p l e (tw_R 7 0 0) s m av below meth c H locs 0 0 Z (F0 m 34 ls []) := by
  have hx := S.1
  have hb := S.2.1
  refine lv_iload_n hx hb dX7_hand_34 rfl (lv_at hl 0 rfl) ?_
  refine lv_bipush (v := 32) hx hb dX7_hand_35 (by decide) ?_
  refine lv_icmp_ge (tgt := 53) hx hb dX7_hand_37 (by decide) (fun c1 => ?_) (fun c1 => ?_)
  · exact absurd c1 (nI_ge (a := i) (b := 32) hi (by decide))
  · refine lv_aload_n hx hb dX7_hand_40 rfl (lv_at hl 1 rfl) ?_
    refine gm_51 S hK hI dX7_hand_41 ?_
    refine lv_iload_n hx hb dX7_hand_44 rfl (lv_at hl 0 rfl) ?_
    refine lv_iconst (v := 0) hx hb dX7_hand_45 (by decide) ?_
    refine sn_14 (j := i) S hK hI (by omega) (by decide) dX7_hand_46 (fun H locs hI => ?_)
    refine lv_iinc (v := nI (i + 1)) (lv' := [(3, .int (nI (i + 1))), (0, .ref (ad 1000)), (1, .int (nI k)), (2, .int (nI r))]) hx hb dX7_hand_47 hl (k := 0) rfl (nA (a := i) (b := 1) (c := i + 1) (by omega)) (by decide) rfl (fun ls hl => ?_)
    refine lv_goto (tgt := 34) hx hb dX7_hand_50 (by decide) ?_
    exact kk _ _ _ (by rw [← zF_s]; exact hI) (lv_sub hl [0, 1, 2, 3] rfl)

set_option maxRecDepth 100000 in
theorem ll_X7_hand {p : Program} {l : Launch} {e : Env} {s : State} {m : MethodId} {av : Array Value} {below : List Frame} {meth : Method} {c : Code} {Z : State → Prop} {σ : Sg} {D : tw_G} {A : Nat → Prop} {ad : Nat → Nat} {b : tw_W} {k r : Nat} (S : CallFix p m c cX7_hand 4 s av tw_ws RX7) (hK : tw_K D s) : ∀ (y i : Nat) (H : Heap) (locs : List Loc) (ls : Array Slot), i + y = 32 → tw_I D A ad (wM b (zF σ i)) s.heap H locs → lv_has ls 4 [(3, .int (nI i)), (0, .ref (ad 1000)), (1, .int (nI k)), (2, .int (nI r))] → (∀ (H1 : Heap) (locs1 : List Loc) (ls1 : Array Slot), tw_I D A ad (wM b (zF σ 32)) s.heap H1 locs1 → lv_has ls1 4 [(3, .int (nI 32)), (0, .ref (ad 1000)), (1, .int (nI k)), (2, .int (nI r))] → W p l e (tw_R 7 0 0) s m av below meth c H1 locs1 0 0 Z (F0 m 34 ls1 [])) → W p l e (tw_R 7 0 0) s m av below meth c H locs 0 0 Z (F0 m 34 ls [])
  | 0, i, H, locs, ls, e, hI, hl, kk => by
    have ei : i = 32 := by omega
    subst ei
    exact kk H locs ls hI hl
  | y + 1, i, H, locs, ls, e, hI, hl, kk => lb_X7_hand S hK hI hl (by omega) (fun H1 locs1 ls1 hI1 hl1 => ll_X7_hand S hK y (i + 1) H1 locs1 ls1 (by omega) hI1 hl1 kk)
set_option maxHeartbeats 2000000 in
set_option maxRecDepth 100000 in
theorem c_X7_hand_none (l : Launch) (D : tw_G) (ad : Nat → Nat) (b : tw_W) (σ : Sg) (sz : Nat) (t r : Int32) (hok : okM σ) (hv : noItem σ t) : Met l yX7_hand (tw_w yX7_hand cX7_hand 4 (some .int)) (tw_R 7 0 0) (tw_Pc D ad (wM b σ) sz [.ref (ad 1000), .int t, .int r]) (tw_Q D ad (wM b (refuseM σ (-2))) (tw_A ad (wM b σ) sz) (some (.int (-2)))) 0 0 (tw_A ad (wM b σ) sz) := by
  have hit : isItemM (acc σ) t = 0 := item_no (okM_acc hok) hv
  refine tw_met (by decide) rfl (by simp [lg_sl, Value.category]) (fun p e s m below meth c ls S hK hr hlocks hnm hsz hI hl => ?_)
  have hx := S.1
  have hb := S.2.1
  have hl : lv_has ls 4 [(0, .ref (ad 1000)), (1, .int t), (2, .int r)] := hl
  refine lv_aload_n hx hb dX7_hand_0 rfl (lv_at hl 0 rfl) ?_
  refine lv_iconst (v := 0) hx hb dX7_hand_1 (by decide) ?_
  refine pm_77 S hK hI dX7_hand_2 (fun H locs hI => ?_)
  refine lv_aload_n hx hb dX7_hand_5 rfl (lv_at hl 0 rfl) ?_
  refine lv_iload_n hx hb dX7_hand_6 rfl (lv_at hl 1 rfl) ?_
  refine tw_calli (tw_rV (As := [.int t]) (rest := []) S hK hI kX7_104 (c_X7_isItem l D ad _ _ _ _) (t := 1000) (fs := mRoot _) rfl rfl rfl ⟨Nat.le_of_ble_eq_true rfl, Nat.le_of_ble_eq_true rfl⟩ ⟨Nat.le_of_ble_eq_true rfl, Nat.le_of_ble_eq_true rfl⟩ rfl hl.1 rfl (Nat.le_of_ble_eq_true rfl) dX7_hand_7) hI (fun H locs hI => ?_)
  refine lv_topi (fun x1 e1 => ?_)
  refine lv_if_eq (tgt := 20) hx hb dX7_hand_10 (by decide) (fun c2 => ?_) (fun c2 => ?_)
  · refine lv_aload_n hx hb dX7_hand_20 rfl (lv_at hl 0 rfl) ?_
    refine lv_bipush (v := (-2)) hx hb dX7_hand_21 (by decide) ?_
    refine tw_calli (tw_rV (As := [.int (-2)]) (rest := []) S hK hI kX7_93 (c_X7_refuse l D ad _ _ _ _) (t := 1000) (fs := mRoot _) rfl rfl rfl ⟨Nat.le_of_ble_eq_true rfl, Nat.le_of_ble_eq_true rfl⟩ ⟨Nat.le_of_ble_eq_true rfl, Nat.le_of_ble_eq_true rfl⟩ rfl hl.1 rfl (Nat.le_of_ble_eq_true rfl) dX7_hand_23) hI (fun H locs hI => ?_)
    refine lv_topi (fun x3 e3 => ?_)
    subst e3
    subst e1
    rw [← refuse_acc]
    try rw [if_pos hit]
    exact tw_iret S hr hlocks hI dX7_hand_26
  · exact (by subst e1; exact absurd hit c2)

set_option maxHeartbeats 2000000 in
set_option maxRecDepth 100000 in
theorem c_X7_hand_noroom (l : Launch) (D : tw_G) (ad : Nat → Nat) (b : tw_W) (σ : Sg) (sz : Nat) (k : Nat) (r : Int32) (hok : okM σ) (hn : k < nS σ) (hv : r < 0 ∨ 8 ≤ r) : Met l yX7_hand (tw_w yX7_hand cX7_hand 4 (some .int)) (tw_R 7 0 0) (tw_Pc D ad (wM b σ) sz [.ref (ad 1000), .int (nI k), .int r]) (tw_Q D ad (wM b (refuseM σ (-2))) (tw_A ad (wM b σ) sz) (some (.int (-2)))) 0 0 (tw_A ad (wM b σ) sz) := by
  have hit : ¬ isItemM (acc σ) (nI k) = 0 := item_yes (okM_acc hok) hn
  have hir : isRoomF r = 0 := room_no hv
  refine tw_met (by decide) rfl (by simp [lg_sl, Value.category]) (fun p e s m below meth c ls S hK hr hlocks hnm hsz hI hl => ?_)
  have hx := S.1
  have hb := S.2.1
  have hl : lv_has ls 4 [(0, .ref (ad 1000)), (1, .int (nI k)), (2, .int r)] := hl
  refine lv_aload_n hx hb dX7_hand_0 rfl (lv_at hl 0 rfl) ?_
  refine lv_iconst (v := 0) hx hb dX7_hand_1 (by decide) ?_
  refine pm_77 S hK hI dX7_hand_2 (fun H locs hI => ?_)
  refine lv_aload_n hx hb dX7_hand_5 rfl (lv_at hl 0 rfl) ?_
  refine lv_iload_n hx hb dX7_hand_6 rfl (lv_at hl 1 rfl) ?_
  refine tw_calli (tw_rV (As := [.int (nI k)]) (rest := []) S hK hI kX7_104 (c_X7_isItem l D ad _ _ _ _) (t := 1000) (fs := mRoot _) rfl rfl rfl ⟨Nat.le_of_ble_eq_true rfl, Nat.le_of_ble_eq_true rfl⟩ ⟨Nat.le_of_ble_eq_true rfl, Nat.le_of_ble_eq_true rfl⟩ rfl hl.1 rfl (Nat.le_of_ble_eq_true rfl) dX7_hand_7) hI (fun H locs hI => ?_)
  refine lv_topi (fun x1 e1 => ?_)
  refine lv_if_eq (tgt := 20) hx hb dX7_hand_10 (by decide) (fun c2 => ?_) (fun c2 => ?_)
  · exact (by subst e1; exact absurd c2 hit)
  · refine lv_iload_n hx hb dX7_hand_13 rfl (lv_at hl 2 rfl) ?_
    refine tw_calli (tw_rS (As := [.int r]) (rest := []) S hK hI kX7_131 (c_X7_isRoom l D ad _ _ _) ⟨Nat.le_of_ble_eq_true rfl, Nat.le_of_ble_eq_true rfl⟩ ⟨Nat.le_of_ble_eq_true rfl, Nat.le_of_ble_eq_true rfl⟩ rfl hl.1 rfl (Nat.le_of_ble_eq_true rfl) dX7_hand_14) hI (fun H locs hI => ?_)
    refine lv_topi (fun x3 e3 => ?_)
    refine lv_if_ne (tgt := 27) hx hb dX7_hand_17 (by decide) (fun c4 => ?_) (fun c4 => ?_)
    · exact (by subst e3; subst e1; exact absurd hir c4)
    · refine lv_aload_n hx hb dX7_hand_20 rfl (lv_at hl 0 rfl) ?_
      refine lv_bipush (v := (-2)) hx hb dX7_hand_21 (by decide) ?_
      refine tw_calli (tw_rV (As := [.int (-2)]) (rest := []) S hK hI kX7_93 (c_X7_refuse l D ad _ _ _ _) (t := 1000) (fs := mRoot _) rfl rfl rfl ⟨Nat.le_of_ble_eq_true rfl, Nat.le_of_ble_eq_true rfl⟩ ⟨Nat.le_of_ble_eq_true rfl, Nat.le_of_ble_eq_true rfl⟩ rfl hl.1 rfl (Nat.le_of_ble_eq_true rfl) dX7_hand_23) hI (fun H locs hI => ?_)
      refine lv_topi (fun x5 e5 => ?_)
      subst e5
      subst e3
      subst e1
      rw [← refuse_acc]
      try rw [if_neg hit]
      try rw [if_pos hir]
      exact tw_iret S hr hlocks hI dX7_hand_26

theorem beg_15 {F : Nat → Nat → Int32} {t r v : Int32} : begF (fI F 25 0 v) t r 15 = F 15 := by
  unfold begF
  rw [fI_ne _ _ _ (by decide), fI_ne _ _ _ (by decide), fI_ne _ _ _ (by decide), fI_ne _ _ _ (by decide), fI_ne _ _ _ (by decide), fI_ne _ _ _ (by decide)]
theorem beg_20 {F : Nat → Nat → Int32} {t r v : Int32} : begF (fI F 25 0 v) t r 20 = F 20 := by
  unfold begF
  rw [fI_ne _ _ _ (by decide), fI_ne _ _ _ (by decide), fI_ne _ _ _ (by decide), fI_ne _ _ _ (by decide), fI_ne _ _ _ (by decide), fI_ne _ _ _ (by decide)]

set_option maxHeartbeats 2000000 in
set_option maxRecDepth 100000 in
theorem c_X7_hand_ok (l : Launch) (D : tw_G) (ad : Nat → Nat) (b : tw_W) (σ : Sg) (sz : Nat) (k r B : Nat) (hV0 : INV σ B) (hB : B + 2000000000 < 2 ^ 62) (hn0 : k < nS σ) (h6 : k < 60) (hr8 : r < 8) : Met l yX7_hand (tw_w yX7_hand cX7_hand 4 (some .int)) (tw_R 7 0 0) (tw_Pc D ad (wM b σ) sz [.ref (ad 1000), .int (nI k), .int (nI r)]) (fun a s1 oc t => ∃ F1 : Nat → Nat → Int32, tw_Q D ad (wM b (gj (handOK σ k r).2 F1)) (tw_A ad (wM b σ) sz) (some (.int (handOK σ k r).1)) a s1 oc t) 0 0 (tw_A ad (wM b σ) sz) := by
  have hit : ¬ isItemM (acc σ) (nI k) = 0 := item_yes (okM_acc hV0.1) hn0
  have hir : ¬ isRoomF (nI r) = 0 := room_yes hr8
  refine tw_met (by decide) rfl (by simp [lg_sl, Value.category]) (fun p e s m below meth c ls S hK hr hlocks hnm hsz hI hl => ?_)
  have hx := S.1
  have hb := S.2.1
  have hl : lv_has ls 4 [(0, .ref (ad 1000)), (1, .int (nI k)), (2, .int (nI r))] := hl
  refine lv_aload_n hx hb dX7_hand_0 rfl (lv_at hl 0 rfl) ?_
  refine lv_iconst (v := 0) hx hb dX7_hand_1 (by decide) ?_
  refine pm_77 S hK hI dX7_hand_2 (fun H locs hI => ?_)
  refine lv_aload_n hx hb dX7_hand_5 rfl (lv_at hl 0 rfl) ?_
  refine lv_iload_n hx hb dX7_hand_6 rfl (lv_at hl 1 rfl) ?_
  refine tw_calli (tw_rV (As := [.int (nI k)]) (rest := []) S hK hI kX7_104 (c_X7_isItem l D ad _ _ _ _) (t := 1000) (fs := mRoot _) rfl rfl rfl ⟨Nat.le_of_ble_eq_true rfl, Nat.le_of_ble_eq_true rfl⟩ ⟨Nat.le_of_ble_eq_true rfl, Nat.le_of_ble_eq_true rfl⟩ rfl hl.1 rfl (Nat.le_of_ble_eq_true rfl) dX7_hand_7) hI (fun H locs hI => ?_)
  refine lv_topi (fun x1 e1 => ?_)
  refine lv_if_eq (tgt := 20) hx hb dX7_hand_10 (by decide) (fun c2 => ?_) (fun c2 => ?_)
  · exact (by subst e1; exact absurd c2 hit)
  · refine lv_iload_n hx hb dX7_hand_13 rfl (lv_at hl 2 rfl) ?_
    refine tw_calli (tw_rS (As := [.int (nI r)]) (rest := []) S hK hI kX7_131 (c_X7_isRoom l D ad _ _ _) ⟨Nat.le_of_ble_eq_true rfl, Nat.le_of_ble_eq_true rfl⟩ ⟨Nat.le_of_ble_eq_true rfl, Nat.le_of_ble_eq_true rfl⟩ rfl hl.1 rfl (Nat.le_of_ble_eq_true rfl) dX7_hand_14) hI (fun H locs hI => ?_)
    refine lv_topi (fun x3 e3 => ?_)
    refine lv_if_ne (tgt := 27) hx hb dX7_hand_17 (by decide) (fun c4 => ?_) (fun c4 => ?_)
    · refine lv_aload_n hx hb dX7_hand_27 rfl (lv_at hl 0 rfl) ?_
      refine lv_iconst (v := 0) hx hb dX7_hand_28 (by decide) ?_
      refine pm_152 S hK hI dX7_hand_29 (fun H locs hI => ?_)
      refine lv_iconst (v := 0) hx hb dX7_hand_32 (by decide) ?_
      refine lv_istore_n (lv' := [(3, .int 0), (0, .ref (ad 1000)), (1, .int (nI k)), (2, .int (nI r))]) hx hb dX7_hand_33 rfl hl (by decide) rfl (fun ls hl => ?_)
      have hI : tw_I D (tw_A ad (wM b σ) sz) ad (wM b (zF (sI (acc σ) 26 0 0) 0)) s.heap H locs := by rw [zF_0]; exact hI
      refine ll_X7_hand S hK 32 0 _ _ _ rfl hI (lv_sub hl [0, 1, 2, 3] rfl) (fun H locs ls hI hl => ?_)
      change tw_I D (tw_A ad (wM b σ) sz) ad (wM b (hand1 σ)) s.heap H locs at hI
      have hl : lv_has ls 4 [(3, .int 32), (0, .ref (ad 1000)), (1, .int (nI k)), (2, .int (nI r))] := hl
      have hV := INV_hand1 hV0
      have hn : k < nS (hand1 σ) := hn0
      refine lv_iload_n hx hb dX7_hand_34 rfl (lv_at hl 0 rfl) ?_
      refine lv_bipush (v := 32) hx hb dX7_hand_35 (by decide) ?_
      refine lv_icmp_ge (tgt := 53) hx hb dX7_hand_37 (by decide) (fun c5 => ?_) (fun c5 => ?_)
      · refine lv_aload_n hx hb dX7_hand_53 rfl (lv_at hl 1 rfl) ?_
        refine lv_iconst (v := 0) hx hb dX7_hand_54 (by decide) ?_
        refine pm_145 S hK hI dX7_hand_55 (fun H locs hI => ?_)
        refine lv_aload_n hx hb dX7_hand_58 rfl (lv_at hl 1 rfl) ?_
        refine lv_iload_n hx hb dX7_hand_59 rfl (lv_at hl 2 rfl) ?_
        refine lv_iload_n hx hb dX7_hand_60 rfl (lv_at hl 3 rfl) ?_
        refine tw_callv (tw_rV (As := [.int (nI k), .int (nI r)]) (rest := []) S hK hI kX7_148 (c_X7_begin l D ad _ _ _ _ _ (show vp_in (nI 0) 9 from vp_in_nI (by decide) (by decide))) (t := 1000) (fs := mRoot _) rfl rfl rfl ⟨Nat.le_of_ble_eq_true rfl, Nat.le_of_ble_eq_true rfl⟩ ⟨Nat.le_of_ble_eq_true rfl, Nat.le_of_ble_eq_true rfl⟩ rfl hl.1 rfl (Nat.le_of_ble_eq_true rfl) dX7_hand_61) hI (fun H locs hI => ?_)
        have hI : tw_I D (tw_A ad (wM b σ) sz) ad (wM b (gr (hand1 σ) (begF (fI (hand1 σ).1 25 0 0) (nI k) (nI r)))) s.heap H locs := by rw [← gr_begin, ← gr_fI _ _ rfl, gr_id]; exact hI
        have e8 : 8 - r = (7 - r) + 1 := by omega
        refine run S hK (7 - r) r (by omega) 0 (by omega) 4 0 k (hand1 σ) B _ _ _ _ rfl (Nat.zero_le _) hV (by have := cN_le (7 - r + 1) (by omega); show B + cN (7 - r + 1) < 2 ^ 62; omega) hn (beg_Fr (n := 0) (fI_at _ _ _ _) (by decide) rfl) hI (lv_sub hl [1] rfl) (fun F1 H locs ls hF hI hl => ?_)
        have ep : goO (spF (7 - r) (r + 1)) r 4 0 (some k) (hand1 σ) = passF (8 - r) r (hand1 σ) k := by rw [e8]; rfl
        rw [ep] at hF hI
        have hd : F1 25 0 = 0 := hF.2.2.2
        refine lv_aload_n hx hb dX7_hand_64 rfl (lv_at hl 0 rfl) ?_
        refine gm_145 S hK hI dX7_hand_65 ?_
        refine lv_eqi (v := 0) (hd) ?_
        refine lv_if_le (tgt := 137) hx hb dX7_hand_68 (by decide) (fun c6 => ?_) (fun c6 => ?_)
        · refine lv_aload_n hx hb dX7_hand_137 rfl (lv_at hl 0 rfl) ?_
          refine gm_152 S hK hI dX7_hand_138 ?_
          refine lv_topi (fun x7 e7 => ?_)
          subst e7
          have hf : gr (passF (8 - r) r (hand1 σ) k).2 F1 = gj (handOK σ k r).2 F1 := by
            refine gr_gj ?_ ?_
            · rw [hF.2.1, beg_15]; rw [pass_keep _ _ _ _ (f := 15) rfl]
            · rw [hF.2.2.1, if_pos rfl, beg_20]; rw [pass_keep _ _ _ _ (f := 20) rfl]
          rw [hf] at hI
          exact W.iret S.1 S.2.1 hr (fun t ht _ => ⟨F1, tw_ret hI ht⟩) hI.2.2.1.2.2 dX7_hand_141 hlocks
        · exact absurd c6 (by decide)
      · exact absurd c5 (by decide)
    · exact (by subst e3; subst e1; exact absurd c4 hir)
