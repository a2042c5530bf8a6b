/-! the class: turn, grow -/
theorem turn_0 {σ : Sg} {k : Nat} (h : σ.1 2 k = 0) : turnF σ k = σ := by
  unfold turnF
  rw [h, if_neg (by decide), if_neg (by decide)]
theorem turn_1 {σ : Sg} {k : Nat} (h : σ.1 2 k = 1) : turnF σ k = σ := by
  unfold turnF
  rw [h, if_neg (by decide), if_neg (by decide)]
theorem turn_2 {σ : Sg} {k : Nat} (h : σ.1 2 k = 2) : turnF σ k = sC (sC σ (3 * k) (σ.2 (3 * k + 1))) (3 * k + 1) (σ.2 (3 * k)) := by
  unfold turnF
  rw [if_pos h]
theorem turn_3 {σ : Sg} {k : Nat} (h : σ.1 2 k = 3) : turnF σ k = sC (sC σ (3 * k) (σ.2 (3 * k + 2))) (3 * k + 2) (σ.2 (3 * k)) := by
  unfold turnF
  rw [h, if_neg (by decide), if_pos rfl]
theorem z_or (z : Nat) (h : z ≤ 3) : z = 0 ∨ z = 1 ∨ z = 2 ∨ z = 3 := by omega

set_option maxHeartbeats 2000000 in
set_option maxRecDepth 100000 in
theorem c_X2_turn_0 (l : Launch) (D : tw_G) (ad : Nat → Nat) (b : tw_W) (σ : Sg) (h : Int32) (Q : Nat → Int32) (sz : Nat) (k : Nat) (hn : k < nS σ) (h6 : k < 60) (hN : isNumK (σ.1 1 k) = true) (ez : szS σ k = 0) (ez2 : σ.1 2 k = 0) : Met l yX2_turn (tw_w yX2_turn cX2_turn 5 none) (tw_R 0 0 0) (tw_Pc D ad (wX b σ h Q) sz [.ref (ad (100 + k))]) (tw_Q D ad (wX b (turnF σ k) h Q) (tw_A ad (wX b σ h Q) sz) none) 0 0 (tw_A ad (wX b σ h Q) sz) := by
  refine tw_met (by decide) rfl (by simp [lg_sl, Value.category]) (fun p e s m below meth c ls S hK hr hlocks hnm hsz hI hl => ?_)
  have hx := S.1
  have hb := S.2.1
  have hl : lv_has ls 5 [(0, .ref (ad (100 + k)))] := hl
  refine lv_iconst (v := 0) hx hb dX2_turn_0 (by decide) ?_
  refine lv_istore_n (lv' := [(1, .int 0), (0, .ref (ad (100 + k)))]) hx hb dX2_turn_1 rfl hl (by decide) rfl (fun ls hl => ?_)
  refine lv_aload_n hx hb dX2_turn_2 rfl (lv_at hl 1 rfl) ?_
  refine f2_9_2 S hK hI (xI_num hn h6 hN) rfl (v' := .ref (ad (200 + k))) rfl dX2_turn_3 ?_
  refine tw_alen S hK hI (t := 200 + k) (xA_num hn h6 hN) rfl (v := 0) (by show nI (szS σ k) = _; rw [ez]; rfl) dX2_turn_6 ?_
  refine lv_iconst (v := 1) hx hb dX2_turn_7 (by decide) ?_
  refine lv_isub hx hb dX2_turn_8 ?_
  refine lv_eqi (v := (-1)) (by decide) ?_
  refine lv_istore_n (lv' := [(2, .int (-1)), (1, .int 0), (0, .ref (ad (100 + k)))]) hx hb dX2_turn_9 rfl hl (by decide) rfl (fun ls hl => ?_)
  refine lv_iload_n hx hb dX2_turn_10 rfl (lv_at hl 1 rfl) ?_
  refine lv_iload_n hx hb dX2_turn_11 rfl (lv_at hl 0 rfl) ?_
  refine lv_icmp_ge (tgt := 50) hx hb dX2_turn_12 (by decide) (fun c1 => ?_) (fun c1 => ?_)
  · rw [turn_0 ez2]
    try rw [if_pos (show ((-1) : Int32) ≤ 0 from by decide)]
    exact tw_vret S hr hlocks hI dX2_turn_50
  · exact absurd c1 (by decide)

set_option maxHeartbeats 2000000 in
set_option maxRecDepth 100000 in
theorem c_X2_turn_1 (l : Launch) (D : tw_G) (ad : Nat → Nat) (b : tw_W) (σ : Sg) (h : Int32) (Q : Nat → Int32) (sz : Nat) (k : Nat) (hn : k < nS σ) (h6 : k < 60) (hN : isNumK (σ.1 1 k) = true) (ez : szS σ k = 1) (ez2 : σ.1 2 k = 1) : Met l yX2_turn (tw_w yX2_turn cX2_turn 5 none) (tw_R 0 0 0) (tw_Pc D ad (wX b σ h Q) sz [.ref (ad (100 + k))]) (tw_Q D ad (wX b (turnF σ k) h Q) (tw_A ad (wX b σ h Q) sz) none) 0 0 (tw_A ad (wX b σ h Q) sz) := by
  refine tw_met (by decide) rfl (by simp [lg_sl, Value.category]) (fun p e s m below meth c ls S hK hr hlocks hnm hsz hI hl => ?_)
  have hx := S.1
  have hb := S.2.1
  have hl : lv_has ls 5 [(0, .ref (ad (100 + k)))] := hl
  refine lv_iconst (v := 0) hx hb dX2_turn_0 (by decide) ?_
  refine lv_istore_n (lv' := [(1, .int 0), (0, .ref (ad (100 + k)))]) hx hb dX2_turn_1 rfl hl (by decide) rfl (fun ls hl => ?_)
  refine lv_aload_n hx hb dX2_turn_2 rfl (lv_at hl 1 rfl) ?_
  refine f2_9_2 S hK hI (xI_num hn h6 hN) rfl (v' := .ref (ad (200 + k))) rfl dX2_turn_3 ?_
  refine tw_alen S hK hI (t := 200 + k) (xA_num hn h6 hN) rfl (v := 1) (by show nI (szS σ k) = _; rw [ez]; rfl) dX2_turn_6 ?_
  refine lv_iconst (v := 1) hx hb dX2_turn_7 (by decide) ?_
  refine lv_isub hx hb dX2_turn_8 ?_
  refine lv_eqi (v := 0) (by decide) ?_
  refine lv_istore_n (lv' := [(2, .int 0), (1, .int 0), (0, .ref (ad (100 + k)))]) hx hb dX2_turn_9 rfl hl (by decide) rfl (fun ls hl => ?_)
  refine lv_iload_n hx hb dX2_turn_10 rfl (lv_at hl 1 rfl) ?_
  refine lv_iload_n hx hb dX2_turn_11 rfl (lv_at hl 0 rfl) ?_
  refine lv_icmp_ge (tgt := 50) hx hb dX2_turn_12 (by decide) (fun c1 => ?_) (fun c1 => ?_)
  · rw [turn_1 ez2]
    try rw [if_pos (show (0 : Int32) ≤ 0 from by decide)]
    exact tw_vret S hr hlocks hI dX2_turn_50
  · exact absurd c1 (by decide)

set_option maxHeartbeats 2000000 in
set_option maxRecDepth 100000 in
theorem c_X2_turn_2 (l : Launch) (D : tw_G) (ad : Nat → Nat) (b : tw_W) (σ : Sg) (h : Int32) (Q : Nat → Int32) (sz : Nat) (k : Nat) (hn : k < nS σ) (h6 : k < 60) (hN : isNumK (σ.1 1 k) = true) (ez : szS σ k = 2) (ez2 : σ.1 2 k = 2) : Met l yX2_turn (tw_w yX2_turn cX2_turn 5 none) (tw_R 0 0 0) (tw_Pc D ad (wX b σ h Q) sz [.ref (ad (100 + k))]) (tw_Q D ad (wX b (turnF σ k) h Q) (tw_A ad (wX b σ h Q) sz) none) 0 0 (tw_A ad (wX b σ h Q) sz) := by
  refine tw_met (by decide) rfl (by simp [lg_sl, Value.category]) (fun p e s m below meth c ls S hK hr hlocks hnm hsz hI hl => ?_)
  have hx := S.1
  have hb := S.2.1
  have hl : lv_has ls 5 [(0, .ref (ad (100 + k)))] := hl
  refine lv_iconst (v := 0) hx hb dX2_turn_0 (by decide) ?_
  refine lv_istore_n (lv' := [(1, .int 0), (0, .ref (ad (100 + k)))]) hx hb dX2_turn_1 rfl hl (by decide) rfl (fun ls hl => ?_)
  refine lv_aload_n hx hb dX2_turn_2 rfl (lv_at hl 1 rfl) ?_
  refine f2_9_2 S hK hI (xI_num hn h6 hN) rfl (v' := .ref (ad (200 + k))) rfl dX2_turn_3 ?_
  refine tw_alen S hK hI (t := 200 + k) (xA_num hn h6 hN) rfl (v := 2) (by show nI (szS σ k) = _; rw [ez]; rfl) dX2_turn_6 ?_
  refine lv_iconst (v := 1) hx hb dX2_turn_7 (by decide) ?_
  refine lv_isub hx hb dX2_turn_8 ?_
  refine lv_eqi (v := 1) (by decide) ?_
  refine lv_istore_n (lv' := [(2, .int 1), (1, .int 0), (0, .ref (ad (100 + k)))]) hx hb dX2_turn_9 rfl hl (by decide) rfl (fun ls hl => ?_)
  refine lv_iload_n hx hb dX2_turn_10 rfl (lv_at hl 1 rfl) ?_
  refine lv_iload_n hx hb dX2_turn_11 rfl (lv_at hl 0 rfl) ?_
  refine lv_icmp_ge (tgt := 50) hx hb dX2_turn_12 (by decide) (fun c1 => ?_) (fun c1 => ?_)
  · exact absurd c1 (by decide)
  · refine lv_aload_n hx hb dX2_turn_15 rfl (lv_at hl 2 rfl) ?_
    refine f2_9_2 S hK hI (xI_num hn h6 hN) rfl (v' := .ref (ad (200 + k))) rfl dX2_turn_16 ?_
    refine lv_iload_n hx hb dX2_turn_19 rfl (lv_at hl 1 rfl) ?_
    refine xl_num (k := k) (i := 0) S hK hI hn h6 hN (by show _ < szS σ k; rw [ez]; decide) (by decide) (by show szS σ k < _; omega) dX2_turn_20 ?_
    refine lv_topl (fun x2 e2 => ?_)
    refine lv_lstore_n (lv' := [(3, .long x2), (2, .int 1), (1, .int 0), (0, .ref (ad (100 + k)))]) hx hb dX2_turn_21 rfl hl (by decide) rfl (fun ls hl => ?_)
    refine lv_aload_n hx hb dX2_turn_22 rfl (lv_at hl 3 rfl) ?_
    refine f2_9_2 S hK hI (xI_num hn h6 hN) rfl (v' := .ref (ad (200 + k))) rfl dX2_turn_23 ?_
    refine lv_iload_n hx hb dX2_turn_26 rfl (lv_at hl 2 rfl) ?_
    refine lv_aload_n hx hb dX2_turn_27 rfl (lv_at hl 3 rfl) ?_
    refine f2_9_2 S hK hI (xI_num hn h6 hN) rfl (v' := .ref (ad (200 + k))) rfl dX2_turn_28 ?_
    refine lv_iload_n hx hb dX2_turn_31 rfl (lv_at hl 1 rfl) ?_
    refine xl_num (k := k) (i := 1) S hK hI hn h6 hN (by show _ < szS σ k; rw [ez]; decide) (by decide) (by show szS σ k < _; omega) dX2_turn_32 ?_
    refine lv_topl (fun x3 e3 => ?_)
    refine xs_num (k := k) (i := 0) S hK hI hn h6 hN (by show _ < szS σ k; rw [ez]; decide) (by decide) (by show szS σ k < _; omega) dX2_turn_33 (fun H locs hI => ?_)
    refine lv_aload_n hx hb dX2_turn_34 rfl (lv_at hl 3 rfl) ?_
    refine f2_9_2 S hK hI (xI_num hn h6 hN) rfl (v' := .ref (ad (200 + k))) rfl dX2_turn_35 ?_
    refine lv_iload_n hx hb dX2_turn_38 rfl (lv_at hl 1 rfl) ?_
    refine lv_lload_n hx hb dX2_turn_39 rfl (lv_at hl 0 rfl) ?_
    refine xs_num (k := k) (i := 1) S hK hI hn h6 hN (by show _ < szS σ k; rw [ez]; decide) (by decide) (by show szS σ k < _; omega) dX2_turn_40 (fun H locs hI => ?_)
    refine lv_iinc (v := 1) (lv' := [(1, .int 1), (3, .long x2), (2, .int 1), (0, .ref (ad (100 + k)))]) hx hb dX2_turn_41 hl (k := 2) rfl (by decide) (by decide) rfl (fun ls hl => ?_)
    refine lv_iinc (v := 0) (lv' := [(2, .int 0), (1, .int 1), (3, .long x2), (0, .ref (ad (100 + k)))]) hx hb dX2_turn_44 hl (k := 2) rfl (by decide) (by decide) rfl (fun ls hl => ?_)
    refine lv_goto (tgt := 10) hx hb dX2_turn_47 (by decide) ?_
    refine lv_iload_n hx hb dX2_turn_10 rfl (lv_at hl 1 rfl) ?_
    refine lv_iload_n hx hb dX2_turn_11 rfl (lv_at hl 0 rfl) ?_
    refine lv_icmp_ge (tgt := 50) hx hb dX2_turn_12 (by decide) (fun c4 => ?_) (fun c4 => ?_)
    · subst e3
      subst e2
      rw [turn_2 ez2]
      try rw [if_neg (show ¬ (1 : Int32) ≤ 0 from by decide)]
      try rw [if_pos (show (0 : Int32) ≤ 1 from by decide)]
      exact tw_vret S hr hlocks hI dX2_turn_50
    · exact absurd c4 (by decide)

set_option maxHeartbeats 2000000 in
set_option maxRecDepth 100000 in
theorem c_X2_turn_3 (l : Launch) (D : tw_G) (ad : Nat → Nat) (b : tw_W) (σ : Sg) (h : Int32) (Q : Nat → Int32) (sz : Nat) (k : Nat) (hn : k < nS σ) (h6 : k < 60) (hN : isNumK (σ.1 1 k) = true) (ez : szS σ k = 3) (ez2 : σ.1 2 k = 3) : Met l yX2_turn (tw_w yX2_turn cX2_turn 5 none) (tw_R 0 0 0) (tw_Pc D ad (wX b σ h Q) sz [.ref (ad (100 + k))]) (tw_Q D ad (wX b (turnF σ k) h Q) (tw_A ad (wX b σ h Q) sz) none) 0 0 (tw_A ad (wX b σ h Q) sz) := by
  refine tw_met (by decide) rfl (by simp [lg_sl, Value.category]) (fun p e s m below meth c ls S hK hr hlocks hnm hsz hI hl => ?_)
  have hx := S.1
  have hb := S.2.1
  have hl : lv_has ls 5 [(0, .ref (ad (100 + k)))] := hl
  refine lv_iconst (v := 0) hx hb dX2_turn_0 (by decide) ?_
  refine lv_istore_n (lv' := [(1, .int 0), (0, .ref (ad (100 + k)))]) hx hb dX2_turn_1 rfl hl (by decide) rfl (fun ls hl => ?_)
  refine lv_aload_n hx hb dX2_turn_2 rfl (lv_at hl 1 rfl) ?_
  refine f2_9_2 S hK hI (xI_num hn h6 hN) rfl (v' := .ref (ad (200 + k))) rfl dX2_turn_3 ?_
  refine tw_alen S hK hI (t := 200 + k) (xA_num hn h6 hN) rfl (v := 3) (by show nI (szS σ k) = _; rw [ez]; rfl) dX2_turn_6 ?_
  refine lv_iconst (v := 1) hx hb dX2_turn_7 (by decide) ?_
  refine lv_isub hx hb dX2_turn_8 ?_
  refine lv_eqi (v := 2) (by decide) ?_
  refine lv_istore_n (lv' := [(2, .int 2), (1, .int 0), (0, .ref (ad (100 + k)))]) hx hb dX2_turn_9 rfl hl (by decide) rfl (fun ls hl => ?_)
  refine lv_iload_n hx hb dX2_turn_10 rfl (lv_at hl 1 rfl) ?_
  refine lv_iload_n hx hb dX2_turn_11 rfl (lv_at hl 0 rfl) ?_
  refine lv_icmp_ge (tgt := 50) hx hb dX2_turn_12 (by decide) (fun c1 => ?_) (fun c1 => ?_)
  · exact absurd c1 (by decide)
  · refine lv_aload_n hx hb dX2_turn_15 rfl (lv_at hl 2 rfl) ?_
    refine f2_9_2 S hK hI (xI_num hn h6 hN) rfl (v' := .ref (ad (200 + k))) rfl dX2_turn_16 ?_
    refine lv_iload_n hx hb dX2_turn_19 rfl (lv_at hl 1 rfl) ?_
    refine xl_num (k := k) (i := 0) S hK hI hn h6 hN (by show _ < szS σ k; rw [ez]; decide) (by decide) (by show szS σ k < _; omega) dX2_turn_20 ?_
    refine lv_topl (fun x2 e2 => ?_)
    refine lv_lstore_n (lv' := [(3, .long x2), (2, .int 2), (1, .int 0), (0, .ref (ad (100 + k)))]) hx hb dX2_turn_21 rfl hl (by decide) rfl (fun ls hl => ?_)
    refine lv_aload_n hx hb dX2_turn_22 rfl (lv_at hl 3 rfl) ?_
    refine f2_9_2 S hK hI (xI_num hn h6 hN) rfl (v' := .ref (ad (200 + k))) rfl dX2_turn_23 ?_
    refine lv_iload_n hx hb dX2_turn_26 rfl (lv_at hl 2 rfl) ?_
    refine lv_aload_n hx hb dX2_turn_27 rfl (lv_at hl 3 rfl) ?_
    refine f2_9_2 S hK hI (xI_num hn h6 hN) rfl (v' := .ref (ad (200 + k))) rfl dX2_turn_28 ?_
    refine lv_iload_n hx hb dX2_turn_31 rfl (lv_at hl 1 rfl) ?_
    refine xl_num (k := k) (i := 2) S hK hI hn h6 hN (by show _ < szS σ k; rw [ez]; decide) (by decide) (by show szS σ k < _; omega) dX2_turn_32 ?_
    refine lv_topl (fun x3 e3 => ?_)
    refine xs_num (k := k) (i := 0) S hK hI hn h6 hN (by show _ < szS σ k; rw [ez]; decide) (by decide) (by show szS σ k < _; omega) dX2_turn_33 (fun H locs hI => ?_)
    refine lv_aload_n hx hb dX2_turn_34 rfl (lv_at hl 3 rfl) ?_
    refine f2_9_2 S hK hI (xI_num hn h6 hN) rfl (v' := .ref (ad (200 + k))) rfl dX2_turn_35 ?_
    refine lv_iload_n hx hb dX2_turn_38 rfl (lv_at hl 1 rfl) ?_
    refine lv_lload_n hx hb dX2_turn_39 rfl (lv_at hl 0 rfl) ?_
    refine xs_num (k := k) (i := 2) S hK hI hn h6 hN (by show _ < szS σ k; rw [ez]; decide) (by decide) (by show szS σ k < _; omega) dX2_turn_40 (fun H locs hI => ?_)
    refine lv_iinc (v := 1) (lv' := [(1, .int 1), (3, .long x2), (2, .int 2), (0, .ref (ad (100 + k)))]) hx hb dX2_turn_41 hl (k := 2) rfl (by decide) (by decide) rfl (fun ls hl => ?_)
    refine lv_iinc (v := 1) (lv' := [(2, .int 1), (1, .int 1), (3, .long x2), (0, .ref (ad (100 + k)))]) hx hb dX2_turn_44 hl (k := 2) rfl (by decide) (by decide) rfl (fun ls hl => ?_)
    refine lv_goto (tgt := 10) hx hb dX2_turn_47 (by decide) ?_
    refine lv_iload_n hx hb dX2_turn_10 rfl (lv_at hl 1 rfl) ?_
    refine lv_iload_n hx hb dX2_turn_11 rfl (lv_at hl 0 rfl) ?_
    refine lv_icmp_ge (tgt := 50) hx hb dX2_turn_12 (by decide) (fun c4 => ?_) (fun c4 => ?_)
    · subst e3
      subst e2
      rw [turn_3 ez2]
      try rw [if_neg (show ¬ (2 : Int32) ≤ 0 from by decide)]
      try rw [if_pos (show (1 : Int32) ≤ 1 from by decide)]
      exact tw_vret S hr hlocks hI dX2_turn_50
    · exact absurd c4 (by decide)

theorem c_X2_turn (l : Launch) (D : tw_G) (ad : Nat → Nat) (b : tw_W) (σ : Sg) (h : Int32) (Q : Nat → Int32) (sz : Nat) (k : Nat) (hok : okM σ) (hn : k < nS σ) (h6 : k < 60) (hN : isNumK (σ.1 1 k) = true) : Met l yX2_turn (tw_w yX2_turn cX2_turn 5 none) (tw_R 0 0 0) (tw_Pc D ad (wX b σ h Q) sz [.ref (ad (100 + k))]) (tw_Q D ad (wX b (turnF σ k) h Q) (tw_A ad (wX b σ h Q) sz) none) 0 0 (tw_A ad (wX b σ h Q) sz) := by
  have hz := okZ hok h6
  rcases z_or _ hz.1 with e | e | e | e
  · exact c_X2_turn_0 l D ad b σ h Q sz k hn h6 hN e (by rw [hz.2, e]; rfl)
  · exact c_X2_turn_1 l D ad b σ h Q sz k hn h6 hN e (by rw [hz.2, e]; rfl)
  · exact c_X2_turn_2 l D ad b σ h Q sz k hn h6 hN e (by rw [hz.2, e]; rfl)
  · exact c_X2_turn_3 l D ad b σ h Q sz k hn h6 hN e (by rw [hz.2, e]; rfl)
set_option maxHeartbeats 2000000 in
set_option maxRecDepth 100000 in
theorem c_X5_turn_0 (l : Launch) (D : tw_G) (ad : Nat → Nat) (b : tw_W) (σ : Sg) (h : Int32) (Q : Nat → Int32) (sz : Nat) (k : Nat) (hn : k < nS σ) (h6 : k < 60) (hN : isNumK (σ.1 1 k) = false) (hO : isOneK (σ.1 1 k) = false) (ez : szS σ k = 0) (ez2 : σ.1 2 k = 0) : Met l yX5_turn (tw_w yX5_turn cX5_turn 4 none) (tw_R 0 0 0) (tw_Pc D ad (wX b σ h Q) sz [.ref (ad (100 + k))]) (tw_Q D ad (wX b (turnF σ k) h Q) (tw_A ad (wX b σ h Q) sz) none) 0 0 (tw_A ad (wX b σ h Q) sz) := by
  refine tw_met (by decide) rfl (by simp [lg_sl, Value.category]) (fun p e s m below meth c ls S hK hr hlocks hnm hsz hI hl => ?_)
  have hx := S.1
  have hb := S.2.1
  have hl : lv_has ls 4 [(0, .ref (ad (100 + k)))] := hl
  refine lv_iconst (v := 0) hx hb dX5_turn_0 (by decide) ?_
  refine lv_istore_n (lv' := [(1, .int 0), (0, .ref (ad (100 + k)))]) hx hb dX5_turn_1 rfl hl (by decide) rfl (fun ls hl => ?_)
  refine lv_aload_n hx hb dX5_turn_2 rfl (lv_at hl 1 rfl) ?_
  refine f5_9_5 S hK hI (xI_th hn h6 hN hO) rfl (v' := .ref (ad (200 + k))) rfl dX5_turn_3 ?_
  refine tw_alen S hK hI (t := 200 + k) (xA_th hn h6 hN hO) rfl (v := 0) (by show nI (szS σ k) = _; rw [ez]; rfl) dX5_turn_6 ?_
  refine lv_iconst (v := 1) hx hb dX5_turn_7 (by decide) ?_
  refine lv_isub hx hb dX5_turn_8 ?_
  refine lv_eqi (v := (-1)) (by decide) ?_
  refine lv_istore_n (lv' := [(2, .int (-1)), (1, .int 0), (0, .ref (ad (100 + k)))]) hx hb dX5_turn_9 rfl hl (by decide) rfl (fun ls hl => ?_)
  refine lv_iload_n hx hb dX5_turn_10 rfl (lv_at hl 1 rfl) ?_
  refine lv_iload_n hx hb dX5_turn_11 rfl (lv_at hl 0 rfl) ?_
  refine lv_icmp_ge (tgt := 50) hx hb dX5_turn_12 (by decide) (fun c1 => ?_) (fun c1 => ?_)
  · rw [turn_0 ez2]
    try rw [if_pos (show ((-1) : Int32) ≤ 0 from by decide)]
    exact tw_vret S hr hlocks hI dX5_turn_50
  · exact absurd c1 (by decide)

set_option maxHeartbeats 2000000 in
set_option maxRecDepth 100000 in
theorem c_X5_turn_1 (l : Launch) (D : tw_G) (ad : Nat → Nat) (b : tw_W) (σ : Sg) (h : Int32) (Q : Nat → Int32) (sz : Nat) (k : Nat) (hn : k < nS σ) (h6 : k < 60) (hN : isNumK (σ.1 1 k) = false) (hO : isOneK (σ.1 1 k) = false) (ez : szS σ k = 1) (ez2 : σ.1 2 k = 1) : Met l yX5_turn (tw_w yX5_turn cX5_turn 4 none) (tw_R 0 0 0) (tw_Pc D ad (wX b σ h Q) sz [.ref (ad (100 + k))]) (tw_Q D ad (wX b (turnF σ k) h Q) (tw_A ad (wX b σ h Q) sz) none) 0 0 (tw_A ad (wX b σ h Q) sz) := by
  refine tw_met (by decide) rfl (by simp [lg_sl, Value.category]) (fun p e s m below meth c ls S hK hr hlocks hnm hsz hI hl => ?_)
  have hx := S.1
  have hb := S.2.1
  have hl : lv_has ls 4 [(0, .ref (ad (100 + k)))] := hl
  refine lv_iconst (v := 0) hx hb dX5_turn_0 (by decide) ?_
  refine lv_istore_n (lv' := [(1, .int 0), (0, .ref (ad (100 + k)))]) hx hb dX5_turn_1 rfl hl (by decide) rfl (fun ls hl => ?_)
  refine lv_aload_n hx hb dX5_turn_2 rfl (lv_at hl 1 rfl) ?_
  refine f5_9_5 S hK hI (xI_th hn h6 hN hO) rfl (v' := .ref (ad (200 + k))) rfl dX5_turn_3 ?_
  refine tw_alen S hK hI (t := 200 + k) (xA_th hn h6 hN hO) rfl (v := 1) (by show nI (szS σ k) = _; rw [ez]; rfl) dX5_turn_6 ?_
  refine lv_iconst (v := 1) hx hb dX5_turn_7 (by decide) ?_
  refine lv_isub hx hb dX5_turn_8 ?_
  refine lv_eqi (v := 0) (by decide) ?_
  refine lv_istore_n (lv' := [(2, .int 0), (1, .int 0), (0, .ref (ad (100 + k)))]) hx hb dX5_turn_9 rfl hl (by decide) rfl (fun ls hl => ?_)
  refine lv_iload_n hx hb dX5_turn_10 rfl (lv_at hl 1 rfl) ?_
  refine lv_iload_n hx hb dX5_turn_11 rfl (lv_at hl 0 rfl) ?_
  refine lv_icmp_ge (tgt := 50) hx hb dX5_turn_12 (by decide) (fun c1 => ?_) (fun c1 => ?_)
  · rw [turn_1 ez2]
    try rw [if_pos (show (0 : Int32) ≤ 0 from by decide)]
    exact tw_vret S hr hlocks hI dX5_turn_50
  · exact absurd c1 (by decide)

set_option maxHeartbeats 2000000 in
set_option maxRecDepth 100000 in
theorem c_X5_turn_2nn (l : Launch) (D : tw_G) (ad : Nat → Nat) (b : tw_W) (σ : Sg) (h : Int32) (Q : Nat → Int32) (sz : Nat) (k : Nat) (hn : k < nS σ) (h6 : k < 60) (hN : isNumK (σ.1 1 k) = false) (hO : isOneK (σ.1 1 k) = false) (ez : szS σ k = 2) (ez2 : σ.1 2 k = 2) (hc0 : decL (σ.2 (3 * k + 0)) = none) (hc1 : decL (σ.2 (3 * k + 1)) = none) : Met l yX5_turn (tw_w yX5_turn cX5_turn 4 none) (tw_R 0 0 0) (tw_Pc D ad (wX b σ h Q) sz [.ref (ad (100 + k))]) (tw_Q D ad (wX b (turnF σ k) h Q) (tw_A ad (wX b σ h Q) sz) none) 0 0 (tw_A ad (wX b σ h Q) sz) := by
  refine tw_met (by decide) rfl (by simp [lg_sl, Value.category]) (fun p e s m below meth c ls S hK hr hlocks hnm hsz hI hl => ?_)
  have hx := S.1
  have hb := S.2.1
  have hl : lv_has ls 4 [(0, .ref (ad (100 + k)))] := hl
  refine lv_iconst (v := 0) hx hb dX5_turn_0 (by decide) ?_
  refine lv_istore_n (lv' := [(1, .int 0), (0, .ref (ad (100 + k)))]) hx hb dX5_turn_1 rfl hl (by decide) rfl (fun ls hl => ?_)
  refine lv_aload_n hx hb dX5_turn_2 rfl (lv_at hl 1 rfl) ?_
  refine f5_9_5 S hK hI (xI_th hn h6 hN hO) rfl (v' := .ref (ad (200 + k))) rfl dX5_turn_3 ?_
  refine tw_alen S hK hI (t := 200 + k) (xA_th hn h6 hN hO) rfl (v := 2) (by show nI (szS σ k) = _; rw [ez]; rfl) dX5_turn_6 ?_
  refine lv_iconst (v := 1) hx hb dX5_turn_7 (by decide) ?_
  refine lv_isub hx hb dX5_turn_8 ?_
  refine lv_eqi (v := 1) (by decide) ?_
  refine lv_istore_n (lv' := [(2, .int 1), (1, .int 0), (0, .ref (ad (100 + k)))]) hx hb dX5_turn_9 rfl hl (by decide) rfl (fun ls hl => ?_)
  refine lv_iload_n hx hb dX5_turn_10 rfl (lv_at hl 1 rfl) ?_
  refine lv_iload_n hx hb dX5_turn_11 rfl (lv_at hl 0 rfl) ?_
  refine lv_icmp_ge (tgt := 50) hx hb dX5_turn_12 (by decide) (fun c1 => ?_) (fun c1 => ?_)
  · exact absurd c1 (by decide)
  · refine lv_aload_n hx hb dX5_turn_15 rfl (lv_at hl 2 rfl) ?_
    refine f5_9_5 S hK hI (xI_th hn h6 hN hO) rfl (v' := .ref (ad (200 + k))) rfl dX5_turn_16 ?_
    refine lv_iload_n hx hb dX5_turn_19 rfl (lv_at hl 1 rfl) ?_
    refine xl_th (k := k) (i := 0) (v := .null) S hK hI hn h6 hN hO (by rw [ez]; decide) (by decide) (by omega) (by rw [hc0]; rfl) dX5_turn_20 ?_
    refine lv_astore_nN (lv' := [(3, .null), (2, .int 1), (1, .int 0), (0, .ref (ad (100 + k)))]) hx hb dX5_turn_21 rfl hl (by decide) rfl (fun ls hl => ?_)
    refine lv_aload_n hx hb dX5_turn_22 rfl (lv_at hl 3 rfl) ?_
    refine f5_9_5 S hK hI (xI_th hn h6 hN hO) rfl (v' := .ref (ad (200 + k))) rfl dX5_turn_23 ?_
    refine lv_iload_n hx hb dX5_turn_26 rfl (lv_at hl 2 rfl) ?_
    refine lv_aload_n hx hb dX5_turn_27 rfl (lv_at hl 3 rfl) ?_
    refine f5_9_5 S hK hI (xI_th hn h6 hN hO) rfl (v' := .ref (ad (200 + k))) rfl dX5_turn_28 ?_
    refine lv_iload_n hx hb dX5_turn_31 rfl (lv_at hl 1 rfl) ?_
    refine xl_th (k := k) (i := 1) (v := .null) S hK hI hn h6 hN hO (by rw [ez]; decide) (by decide) (by omega) (by rw [hc1]; rfl) dX5_turn_32 ?_
    refine xs_th (k := k) (i := 0) (q := σ.2 (3 * k + 1)) S hK hI hn h6 hN hO (by show _ < szS σ k; rw [ez]; decide) (by decide) (by show szS σ k < _; omega) (by rw [hc1]; rfl) (fun y e => by rw [hc1] at e; cases e) dX5_turn_33 (fun H locs hI => ?_)
    refine lv_aload_n hx hb dX5_turn_34 rfl (lv_at hl 3 rfl) ?_
    refine f5_9_5 S hK hI (xI_th hn h6 hN hO) rfl (v' := .ref (ad (200 + k))) rfl dX5_turn_35 ?_
    refine lv_iload_n hx hb dX5_turn_38 rfl (lv_at hl 1 rfl) ?_
    refine lv_aload_nN hx hb dX5_turn_39 rfl (lv_at hl 0 rfl) ?_
    refine xs_th (k := k) (i := 1) (q := σ.2 (3 * k + 0)) S hK hI hn h6 hN hO (by show _ < szS σ k; rw [ez]; decide) (by decide) (by show szS σ k < _; omega) (by rw [hc0]; rfl) (fun y e => by rw [hc0] at e; cases e) dX5_turn_40 (fun H locs hI => ?_)
    refine lv_iinc (v := 1) (lv' := [(1, .int 1), (3, .null), (2, .int 1), (0, .ref (ad (100 + k)))]) hx hb dX5_turn_41 hl (k := 2) rfl (by decide) (by decide) rfl (fun ls hl => ?_)
    refine lv_iinc (v := 0) (lv' := [(2, .int 0), (1, .int 1), (3, .null), (0, .ref (ad (100 + k)))]) hx hb dX5_turn_44 hl (k := 2) rfl (by decide) (by decide) rfl (fun ls hl => ?_)
    refine lv_goto (tgt := 10) hx hb dX5_turn_47 (by decide) ?_
    refine lv_iload_n hx hb dX5_turn_10 rfl (lv_at hl 1 rfl) ?_
    refine lv_iload_n hx hb dX5_turn_11 rfl (lv_at hl 0 rfl) ?_
    refine lv_icmp_ge (tgt := 50) hx hb dX5_turn_12 (by decide) (fun c2 => ?_) (fun c2 => ?_)
    · rw [turn_2 ez2]
      try rw [if_neg (show ¬ (1 : Int32) ≤ 0 from by decide)]
      try rw [if_pos (show (0 : Int32) ≤ 1 from by decide)]
      exact tw_vret S hr hlocks hI dX5_turn_50
    · exact absurd c2 (by decide)

set_option maxHeartbeats 2000000 in
set_option maxRecDepth 100000 in
theorem c_X5_turn_2nr (l : Launch) (D : tw_G) (ad : Nat → Nat) (b : tw_W) (σ : Sg) (h : Int32) (Q : Nat → Int32) (sz : Nat) (k q1 : Nat) (hn : k < nS σ) (h6 : k < 60) (hN : isNumK (σ.1 1 k) = false) (hO : isOneK (σ.1 1 k) = false) (ez : szS σ k = 2) (ez2 : σ.1 2 k = 2) (hc0 : decL (σ.2 (3 * k + 0)) = none) (hc1 : decL (σ.2 (3 * k + 1)) = some q1) (hq1 : q1 < nS σ) (hp1 : q1 < 60) : Met l yX5_turn (tw_w yX5_turn cX5_turn 4 none) (tw_R 0 0 0) (tw_Pc D ad (wX b σ h Q) sz [.ref (ad (100 + k))]) (tw_Q D ad (wX b (turnF σ k) h Q) (tw_A ad (wX b σ h Q) sz) none) 0 0 (tw_A ad (wX b σ h Q) sz) := by
  refine tw_met (by decide) rfl (by simp [lg_sl, Value.category]) (fun p e s m below meth c ls S hK hr hlocks hnm hsz hI hl => ?_)
  have hx := S.1
  have hb := S.2.1
  have hl : lv_has ls 4 [(0, .ref (ad (100 + k)))] := hl
  refine lv_iconst (v := 0) hx hb dX5_turn_0 (by decide) ?_
  refine lv_istore_n (lv' := [(1, .int 0), (0, .ref (ad (100 + k)))]) hx hb dX5_turn_1 rfl hl (by decide) rfl (fun ls hl => ?_)
  refine lv_aload_n hx hb dX5_turn_2 rfl (lv_at hl 1 rfl) ?_
  refine f5_9_5 S hK hI (xI_th hn h6 hN hO) rfl (v' := .ref (ad (200 + k))) rfl dX5_turn_3 ?_
  refine tw_alen S hK hI (t := 200 + k) (xA_th hn h6 hN hO) rfl (v := 2) (by show nI (szS σ k) = _; rw [ez]; rfl) dX5_turn_6 ?_
  refine lv_iconst (v := 1) hx hb dX5_turn_7 (by decide) ?_
  refine lv_isub hx hb dX5_turn_8 ?_
  refine lv_eqi (v := 1) (by decide) ?_
  refine lv_istore_n (lv' := [(2, .int 1), (1, .int 0), (0, .ref (ad (100 + k)))]) hx hb dX5_turn_9 rfl hl (by decide) rfl (fun ls hl => ?_)
  refine lv_iload_n hx hb dX5_turn_10 rfl (lv_at hl 1 rfl) ?_
  refine lv_iload_n hx hb dX5_turn_11 rfl (lv_at hl 0 rfl) ?_
  refine lv_icmp_ge (tgt := 50) hx hb dX5_turn_12 (by decide) (fun c1 => ?_) (fun c1 => ?_)
  · exact absurd c1 (by decide)
  · refine lv_aload_n hx hb dX5_turn_15 rfl (lv_at hl 2 rfl) ?_
    refine f5_9_5 S hK hI (xI_th hn h6 hN hO) rfl (v' := .ref (ad (200 + k))) rfl dX5_turn_16 ?_
    refine lv_iload_n hx hb dX5_turn_19 rfl (lv_at hl 1 rfl) ?_
    refine xl_th (k := k) (i := 0) (v := .null) S hK hI hn h6 hN hO (by rw [ez]; decide) (by decide) (by omega) (by rw [hc0]; rfl) dX5_turn_20 ?_
    refine lv_astore_nN (lv' := [(3, .null), (2, .int 1), (1, .int 0), (0, .ref (ad (100 + k)))]) hx hb dX5_turn_21 rfl hl (by decide) rfl (fun ls hl => ?_)
    refine lv_aload_n hx hb dX5_turn_22 rfl (lv_at hl 3 rfl) ?_
    refine f5_9_5 S hK hI (xI_th hn h6 hN hO) rfl (v' := .ref (ad (200 + k))) rfl dX5_turn_23 ?_
    refine lv_iload_n hx hb dX5_turn_26 rfl (lv_at hl 2 rfl) ?_
    refine lv_aload_n hx hb dX5_turn_27 rfl (lv_at hl 3 rfl) ?_
    refine f5_9_5 S hK hI (xI_th hn h6 hN hO) rfl (v' := .ref (ad (200 + k))) rfl dX5_turn_28 ?_
    refine lv_iload_n hx hb dX5_turn_31 rfl (lv_at hl 1 rfl) ?_
    refine xl_th (k := k) (i := 1) (v := .ref (ad (100 + q1))) S hK hI hn h6 hN hO (by rw [ez]; decide) (by decide) (by omega) (by rw [hc1]; rfl) dX5_turn_32 ?_
    refine xs_th (k := k) (i := 0) (q := σ.2 (3 * k + 1)) S hK hI hn h6 hN hO (by show _ < szS σ k; rw [ez]; decide) (by decide) (by show szS σ k < _; omega) (by rw [hc1]; rfl) (fun y e => by rw [hc1] at e; cases e; exact xAny hK hI hq1 hp1) dX5_turn_33 (fun H locs hI => ?_)
    refine lv_aload_n hx hb dX5_turn_34 rfl (lv_at hl 3 rfl) ?_
    refine f5_9_5 S hK hI (xI_th hn h6 hN hO) rfl (v' := .ref (ad (200 + k))) rfl dX5_turn_35 ?_
    refine lv_iload_n hx hb dX5_turn_38 rfl (lv_at hl 1 rfl) ?_
    refine lv_aload_nN hx hb dX5_turn_39 rfl (lv_at hl 0 rfl) ?_
    refine xs_th (k := k) (i := 1) (q := σ.2 (3 * k + 0)) S hK hI hn h6 hN hO (by show _ < szS σ k; rw [ez]; decide) (by decide) (by show szS σ k < _; omega) (by rw [hc0]; rfl) (fun y e => by rw [hc0] at e; cases e) dX5_turn_40 (fun H locs hI => ?_)
    refine lv_iinc (v := 1) (lv' := [(1, .int 1), (3, .null), (2, .int 1), (0, .ref (ad (100 + k)))]) hx hb dX5_turn_41 hl (k := 2) rfl (by decide) (by decide) rfl (fun ls hl => ?_)
    refine lv_iinc (v := 0) (lv' := [(2, .int 0), (1, .int 1), (3, .null), (0, .ref (ad (100 + k)))]) hx hb dX5_turn_44 hl (k := 2) rfl (by decide) (by decide) rfl (fun ls hl => ?_)
    refine lv_goto (tgt := 10) hx hb dX5_turn_47 (by decide) ?_
    refine lv_iload_n hx hb dX5_turn_10 rfl (lv_at hl 1 rfl) ?_
    refine lv_iload_n hx hb dX5_turn_11 rfl (lv_at hl 0 rfl) ?_
    refine lv_icmp_ge (tgt := 50) hx hb dX5_turn_12 (by decide) (fun c2 => ?_) (fun c2 => ?_)
    · rw [turn_2 ez2]
      try rw [if_neg (show ¬ (1 : Int32) ≤ 0 from by decide)]
      try rw [if_pos (show (0 : Int32) ≤ 1 from by decide)]
      exact tw_vret S hr hlocks hI dX5_turn_50
    · exact absurd c2 (by decide)

set_option maxHeartbeats 2000000 in
set_option maxRecDepth 100000 in
theorem c_X5_turn_2rn (l : Launch) (D : tw_G) (ad : Nat → Nat) (b : tw_W) (σ : Sg) (h : Int32) (Q : Nat → Int32) (sz : Nat) (k q0 : Nat) (hn : k < nS σ) (h6 : k < 60) (hN : isNumK (σ.1 1 k) = false) (hO : isOneK (σ.1 1 k) = false) (ez : szS σ k = 2) (ez2 : σ.1 2 k = 2) (hc0 : decL (σ.2 (3 * k + 0)) = some q0) (hq0 : q0 < nS σ) (hp0 : q0 < 60) (hc1 : decL (σ.2 (3 * k + 1)) = none) : Met l yX5_turn (tw_w yX5_turn cX5_turn 4 none) (tw_R 0 0 0) (tw_Pc D ad (wX b σ h Q) sz [.ref (ad (100 + k))]) (tw_Q D ad (wX b (turnF σ k) h Q) (tw_A ad (wX b σ h Q) sz) none) 0 0 (tw_A ad (wX b σ h Q) sz) := by
  refine tw_met (by decide) rfl (by simp [lg_sl, Value.category]) (fun p e s m below meth c ls S hK hr hlocks hnm hsz hI hl => ?_)
  have hx := S.1
  have hb := S.2.1
  have hl : lv_has ls 4 [(0, .ref (ad (100 + k)))] := hl
  refine lv_iconst (v := 0) hx hb dX5_turn_0 (by decide) ?_
  refine lv_istore_n (lv' := [(1, .int 0), (0, .ref (ad (100 + k)))]) hx hb dX5_turn_1 rfl hl (by decide) rfl (fun ls hl => ?_)
  refine lv_aload_n hx hb dX5_turn_2 rfl (lv_at hl 1 rfl) ?_
  refine f5_9_5 S hK hI (xI_th hn h6 hN hO) rfl (v' := .ref (ad (200 + k))) rfl dX5_turn_3 ?_
  refine tw_alen S hK hI (t := 200 + k) (xA_th hn h6 hN hO) rfl (v := 2) (by show nI (szS σ k) = _; rw [ez]; rfl) dX5_turn_6 ?_
  refine lv_iconst (v := 1) hx hb dX5_turn_7 (by decide) ?_
  refine lv_isub hx hb dX5_turn_8 ?_
  refine lv_eqi (v := 1) (by decide) ?_
  refine lv_istore_n (lv' := [(2, .int 1), (1, .int 0), (0, .ref (ad (100 + k)))]) hx hb dX5_turn_9 rfl hl (by decide) rfl (fun ls hl => ?_)
  refine lv_iload_n hx hb dX5_turn_10 rfl (lv_at hl 1 rfl) ?_
  refine lv_iload_n hx hb dX5_turn_11 rfl (lv_at hl 0 rfl) ?_
  refine lv_icmp_ge (tgt := 50) hx hb dX5_turn_12 (by decide) (fun c1 => ?_) (fun c1 => ?_)
  · exact absurd c1 (by decide)
  · refine lv_aload_n hx hb dX5_turn_15 rfl (lv_at hl 2 rfl) ?_
    refine f5_9_5 S hK hI (xI_th hn h6 hN hO) rfl (v' := .ref (ad (200 + k))) rfl dX5_turn_16 ?_
    refine lv_iload_n hx hb dX5_turn_19 rfl (lv_at hl 1 rfl) ?_
    refine xl_th (k := k) (i := 0) (v := .ref (ad (100 + q0))) S hK hI hn h6 hN hO (by rw [ez]; decide) (by decide) (by omega) (by rw [hc0]; rfl) dX5_turn_20 ?_
    refine lv_astore_n (lv' := [(3, .ref (ad (100 + q0))), (2, .int 1), (1, .int 0), (0, .ref (ad (100 + k)))]) hx hb dX5_turn_21 rfl hl (by decide) rfl (fun ls hl => ?_)
    refine lv_aload_n hx hb dX5_turn_22 rfl (lv_at hl 3 rfl) ?_
    refine f5_9_5 S hK hI (xI_th hn h6 hN hO) rfl (v' := .ref (ad (200 + k))) rfl dX5_turn_23 ?_
    refine lv_iload_n hx hb dX5_turn_26 rfl (lv_at hl 2 rfl) ?_
    refine lv_aload_n hx hb dX5_turn_27 rfl (lv_at hl 3 rfl) ?_
    refine f5_9_5 S hK hI (xI_th hn h6 hN hO) rfl (v' := .ref (ad (200 + k))) rfl dX5_turn_28 ?_
    refine lv_iload_n hx hb dX5_turn_31 rfl (lv_at hl 1 rfl) ?_
    refine xl_th (k := k) (i := 1) (v := .null) S hK hI hn h6 hN hO (by rw [ez]; decide) (by decide) (by omega) (by rw [hc1]; rfl) dX5_turn_32 ?_
    refine xs_th (k := k) (i := 0) (q := σ.2 (3 * k + 1)) S hK hI hn h6 hN hO (by show _ < szS σ k; rw [ez]; decide) (by decide) (by show szS σ k < _; omega) (by rw [hc1]; rfl) (fun y e => by rw [hc1] at e; cases e) dX5_turn_33 (fun H locs hI => ?_)
    refine lv_aload_n hx hb dX5_turn_34 rfl (lv_at hl 3 rfl) ?_
    refine f5_9_5 S hK hI (xI_th hn h6 hN hO) rfl (v' := .ref (ad (200 + k))) rfl dX5_turn_35 ?_
    refine lv_iload_n hx hb dX5_turn_38 rfl (lv_at hl 1 rfl) ?_
    refine lv_aload_n hx hb dX5_turn_39 rfl (lv_at hl 0 rfl) ?_
    refine xs_th (k := k) (i := 1) (q := σ.2 (3 * k + 0)) S hK hI hn h6 hN hO (by show _ < szS σ k; rw [ez]; decide) (by decide) (by show szS σ k < _; omega) (by rw [hc0]; rfl) (fun y e => by rw [hc0] at e; cases e; exact xAny hK hI hq0 hp0) dX5_turn_40 (fun H locs hI => ?_)
    refine lv_iinc (v := 1) (lv' := [(1, .int 1), (3, .ref (ad (100 + q0))), (2, .int 1), (0, .ref (ad (100 + k)))]) hx hb dX5_turn_41 hl (k := 2) rfl (by decide) (by decide) rfl (fun ls hl => ?_)
    refine lv_iinc (v := 0) (lv' := [(2, .int 0), (1, .int 1), (3, .ref (ad (100 + q0))), (0, .ref (ad (100 + k)))]) hx hb dX5_turn_44 hl (k := 2) rfl (by decide) (by decide) rfl (fun ls hl => ?_)
    refine lv_goto (tgt := 10) hx hb dX5_turn_47 (by decide) ?_
    refine lv_iload_n hx hb dX5_turn_10 rfl (lv_at hl 1 rfl) ?_
    refine lv_iload_n hx hb dX5_turn_11 rfl (lv_at hl 0 rfl) ?_
    refine lv_icmp_ge (tgt := 50) hx hb dX5_turn_12 (by decide) (fun c2 => ?_) (fun c2 => ?_)
    · rw [turn_2 ez2]
      try rw [if_neg (show ¬ (1 : Int32) ≤ 0 from by decide)]
      try rw [if_pos (show (0 : Int32) ≤ 1 from by decide)]
      exact tw_vret S hr hlocks hI dX5_turn_50
    · exact absurd c2 (by decide)

set_option maxHeartbeats 2000000 in
set_option maxRecDepth 100000 in
theorem c_X5_turn_2rr (l : Launch) (D : tw_G) (ad : Nat → Nat) (b : tw_W) (σ : Sg) (h : Int32) (Q : Nat → Int32) (sz : Nat) (k q0 q1 : Nat) (hn : k < nS σ) (h6 : k < 60) (hN : isNumK (σ.1 1 k) = false) (hO : isOneK (σ.1 1 k) = false) (ez : szS σ k = 2) (ez2 : σ.1 2 k = 2) (hc0 : decL (σ.2 (3 * k + 0)) = some q0) (hq0 : q0 < nS σ) (hp0 : q0 < 60) (hc1 : decL (σ.2 (3 * k + 1)) = some q1) (hq1 : q1 < nS σ) (hp1 : q1 < 60) : Met l yX5_turn (tw_w yX5_turn cX5_turn 4 none) (tw_R 0 0 0) (tw_Pc D ad (wX b σ h Q) sz [.ref (ad (100 + k))]) (tw_Q D ad (wX b (turnF σ k) h Q) (tw_A ad (wX b σ h Q) sz) none) 0 0 (tw_A ad (wX b σ h Q) sz) := by
  refine tw_met (by decide) rfl (by simp [lg_sl, Value.category]) (fun p e s m below meth c ls S hK hr hlocks hnm hsz hI hl => ?_)
  have hx := S.1
  have hb := S.2.1
  have hl : lv_has ls 4 [(0, .ref (ad (100 + k)))] := hl
  refine lv_iconst (v := 0) hx hb dX5_turn_0 (by decide) ?_
  refine lv_istore_n (lv' := [(1, .int 0), (0, .ref (ad (100 + k)))]) hx hb dX5_turn_1 rfl hl (by decide) rfl (fun ls hl => ?_)
  refine lv_aload_n hx hb dX5_turn_2 rfl (lv_at hl 1 rfl) ?_
  refine f5_9_5 S hK hI (xI_th hn h6 hN hO) rfl (v' := .ref (ad (200 + k))) rfl dX5_turn_3 ?_
  refine tw_alen S hK hI (t := 200 + k) (xA_th hn h6 hN hO) rfl (v := 2) (by show nI (szS σ k) = _; rw [ez]; rfl) dX5_turn_6 ?_
  refine lv_iconst (v := 1) hx hb dX5_turn_7 (by decide) ?_
  refine lv_isub hx hb dX5_turn_8 ?_
  refine lv_eqi (v := 1) (by decide) ?_
  refine lv_istore_n (lv' := [(2, .int 1), (1, .int 0), (0, .ref (ad (100 + k)))]) hx hb dX5_turn_9 rfl hl (by decide) rfl (fun ls hl => ?_)
  refine lv_iload_n hx hb dX5_turn_10 rfl (lv_at hl 1 rfl) ?_
  refine lv_iload_n hx hb dX5_turn_11 rfl (lv_at hl 0 rfl) ?_
  refine lv_icmp_ge (tgt := 50) hx hb dX5_turn_12 (by decide) (fun c1 => ?_) (fun c1 => ?_)
  · exact absurd c1 (by decide)
  · refine lv_aload_n hx hb dX5_turn_15 rfl (lv_at hl 2 rfl) ?_
    refine f5_9_5 S hK hI (xI_th hn h6 hN hO) rfl (v' := .ref (ad (200 + k))) rfl dX5_turn_16 ?_
    refine lv_iload_n hx hb dX5_turn_19 rfl (lv_at hl 1 rfl) ?_
    refine xl_th (k := k) (i := 0) (v := .ref (ad (100 + q0))) S hK hI hn h6 hN hO (by rw [ez]; decide) (by decide) (by omega) (by rw [hc0]; rfl) dX5_turn_20 ?_
    refine lv_astore_n (lv' := [(3, .ref (ad (100 + q0))), (2, .int 1), (1, .int 0), (0, .ref (ad (100 + k)))]) hx hb dX5_turn_21 rfl hl (by decide) rfl (fun ls hl => ?_)
    refine lv_aload_n hx hb dX5_turn_22 rfl (lv_at hl 3 rfl) ?_
    refine f5_9_5 S hK hI (xI_th hn h6 hN hO) rfl (v' := .ref (ad (200 + k))) rfl dX5_turn_23 ?_
    refine lv_iload_n hx hb dX5_turn_26 rfl (lv_at hl 2 rfl) ?_
    refine lv_aload_n hx hb dX5_turn_27 rfl (lv_at hl 3 rfl) ?_
    refine f5_9_5 S hK hI (xI_th hn h6 hN hO) rfl (v' := .ref (ad (200 + k))) rfl dX5_turn_28 ?_
    refine lv_iload_n hx hb dX5_turn_31 rfl (lv_at hl 1 rfl) ?_
    refine xl_th (k := k) (i := 1) (v := .ref (ad (100 + q1))) S hK hI hn h6 hN hO (by rw [ez]; decide) (by decide) (by omega) (by rw [hc1]; rfl) dX5_turn_32 ?_
    refine xs_th (k := k) (i := 0) (q := σ.2 (3 * k + 1)) S hK hI hn h6 hN hO (by show _ < szS σ k; rw [ez]; decide) (by decide) (by show szS σ k < _; omega) (by rw [hc1]; rfl) (fun y e => by rw [hc1] at e; cases e; exact xAny hK hI hq1 hp1) dX5_turn_33 (fun H locs hI => ?_)
    refine lv_aload_n hx hb dX5_turn_34 rfl (lv_at hl 3 rfl) ?_
    refine f5_9_5 S hK hI (xI_th hn h6 hN hO) rfl (v' := .ref (ad (200 + k))) rfl dX5_turn_35 ?_
    refine lv_iload_n hx hb dX5_turn_38 rfl (lv_at hl 1 rfl) ?_
    refine lv_aload_n hx hb dX5_turn_39 rfl (lv_at hl 0 rfl) ?_
    refine xs_th (k := k) (i := 1) (q := σ.2 (3 * k + 0)) S hK hI hn h6 hN hO (by show _ < szS σ k; rw [ez]; decide) (by decide) (by show szS σ k < _; omega) (by rw [hc0]; rfl) (fun y e => by rw [hc0] at e; cases e; exact xAny hK hI hq0 hp0) dX5_turn_40 (fun H locs hI => ?_)
    refine lv_iinc (v := 1) (lv' := [(1, .int 1), (3, .ref (ad (100 + q0))), (2, .int 1), (0, .ref (ad (100 + k)))]) hx hb dX5_turn_41 hl (k := 2) rfl (by decide) (by decide) rfl (fun ls hl => ?_)
    refine lv_iinc (v := 0) (lv' := [(2, .int 0), (1, .int 1), (3, .ref (ad (100 + q0))), (0, .ref (ad (100 + k)))]) hx hb dX5_turn_44 hl (k := 2) rfl (by decide) (by decide) rfl (fun ls hl => ?_)
    refine lv_goto (tgt := 10) hx hb dX5_turn_47 (by decide) ?_
    refine lv_iload_n hx hb dX5_turn_10 rfl (lv_at hl 1 rfl) ?_
    refine lv_iload_n hx hb dX5_turn_11 rfl (lv_at hl 0 rfl) ?_
    refine lv_icmp_ge (tgt := 50) hx hb dX5_turn_12 (by decide) (fun c2 => ?_) (fun c2 => ?_)
    · rw [turn_2 ez2]
      try rw [if_neg (show ¬ (1 : Int32) ≤ 0 from by decide)]
      try rw [if_pos (show (0 : Int32) ≤ 1 from by decide)]
      exact tw_vret S hr hlocks hI dX5_turn_50
    · exact absurd c2 (by decide)

set_option maxHeartbeats 2000000 in
set_option maxRecDepth 100000 in
theorem c_X5_turn_3nn (l : Launch) (D : tw_G) (ad : Nat → Nat) (b : tw_W) (σ : Sg) (h : Int32) (Q : Nat → Int32) (sz : Nat) (k : Nat) (hn : k < nS σ) (h6 : k < 60) (hN : isNumK (σ.1 1 k) = false) (hO : isOneK (σ.1 1 k) = false) (ez : szS σ k = 3) (ez2 : σ.1 2 k = 3) (hc0 : decL (σ.2 (3 * k + 0)) = none) (hc2 : decL (σ.2 (3 * k + 2)) = none) : Met l yX5_turn (tw_w yX5_turn cX5_turn 4 none) (tw_R 0 0 0) (tw_Pc D ad (wX b σ h Q) sz [.ref (ad (100 + k))]) (tw_Q D ad (wX b (turnF σ k) h Q) (tw_A ad (wX b σ h Q) sz) none) 0 0 (tw_A ad (wX b σ h Q) sz) := by
  refine tw_met (by decide) rfl (by simp [lg_sl, Value.category]) (fun p e s m below meth c ls S hK hr hlocks hnm hsz hI hl => ?_)
  have hx := S.1
  have hb := S.2.1
  have hl : lv_has ls 4 [(0, .ref (ad (100 + k)))] := hl
  refine lv_iconst (v := 0) hx hb dX5_turn_0 (by decide) ?_
  refine lv_istore_n (lv' := [(1, .int 0), (0, .ref (ad (100 + k)))]) hx hb dX5_turn_1 rfl hl (by decide) rfl (fun ls hl => ?_)
  refine lv_aload_n hx hb dX5_turn_2 rfl (lv_at hl 1 rfl) ?_
  refine f5_9_5 S hK hI (xI_th hn h6 hN hO) rfl (v' := .ref (ad (200 + k))) rfl dX5_turn_3 ?_
  refine tw_alen S hK hI (t := 200 + k) (xA_th hn h6 hN hO) rfl (v := 3) (by show nI (szS σ k) = _; rw [ez]; rfl) dX5_turn_6 ?_
  refine lv_iconst (v := 1) hx hb dX5_turn_7 (by decide) ?_
  refine lv_isub hx hb dX5_turn_8 ?_
  refine lv_eqi (v := 2) (by decide) ?_
  refine lv_istore_n (lv' := [(2, .int 2), (1, .int 0), (0, .ref (ad (100 + k)))]) hx hb dX5_turn_9 rfl hl (by decide) rfl (fun ls hl => ?_)
  refine lv_iload_n hx hb dX5_turn_10 rfl (lv_at hl 1 rfl) ?_
  refine lv_iload_n hx hb dX5_turn_11 rfl (lv_at hl 0 rfl) ?_
  refine lv_icmp_ge (tgt := 50) hx hb dX5_turn_12 (by decide) (fun c1 => ?_) (fun c1 => ?_)
  · exact absurd c1 (by decide)
  · refine lv_aload_n hx hb dX5_turn_15 rfl (lv_at hl 2 rfl) ?_
    refine f5_9_5 S hK hI (xI_th hn h6 hN hO) rfl (v' := .ref (ad (200 + k))) rfl dX5_turn_16 ?_
    refine lv_iload_n hx hb dX5_turn_19 rfl (lv_at hl 1 rfl) ?_
    refine xl_th (k := k) (i := 0) (v := .null) S hK hI hn h6 hN hO (by rw [ez]; decide) (by decide) (by omega) (by rw [hc0]; rfl) dX5_turn_20 ?_
    refine lv_astore_nN (lv' := [(3, .null), (2, .int 2), (1, .int 0), (0, .ref (ad (100 + k)))]) hx hb dX5_turn_21 rfl hl (by decide) rfl (fun ls hl => ?_)
    refine lv_aload_n hx hb dX5_turn_22 rfl (lv_at hl 3 rfl) ?_
    refine f5_9_5 S hK hI (xI_th hn h6 hN hO) rfl (v' := .ref (ad (200 + k))) rfl dX5_turn_23 ?_
    refine lv_iload_n hx hb dX5_turn_26 rfl (lv_at hl 2 rfl) ?_
    refine lv_aload_n hx hb dX5_turn_27 rfl (lv_at hl 3 rfl) ?_
    refine f5_9_5 S hK hI (xI_th hn h6 hN hO) rfl (v' := .ref (ad (200 + k))) rfl dX5_turn_28 ?_
    refine lv_iload_n hx hb dX5_turn_31 rfl (lv_at hl 1 rfl) ?_
    refine xl_th (k := k) (i := 2) (v := .null) S hK hI hn h6 hN hO (by rw [ez]; decide) (by decide) (by omega) (by rw [hc2]; rfl) dX5_turn_32 ?_
    refine xs_th (k := k) (i := 0) (q := σ.2 (3 * k + 2)) S hK hI hn h6 hN hO (by show _ < szS σ k; rw [ez]; decide) (by decide) (by show szS σ k < _; omega) (by rw [hc2]; rfl) (fun y e => by rw [hc2] at e; cases e) dX5_turn_33 (fun H locs hI => ?_)
    refine lv_aload_n hx hb dX5_turn_34 rfl (lv_at hl 3 rfl) ?_
    refine f5_9_5 S hK hI (xI_th hn h6 hN hO) rfl (v' := .ref (ad (200 + k))) rfl dX5_turn_35 ?_
    refine lv_iload_n hx hb dX5_turn_38 rfl (lv_at hl 1 rfl) ?_
    refine lv_aload_nN hx hb dX5_turn_39 rfl (lv_at hl 0 rfl) ?_
    refine xs_th (k := k) (i := 2) (q := σ.2 (3 * k + 0)) S hK hI hn h6 hN hO (by show _ < szS σ k; rw [ez]; decide) (by decide) (by show szS σ k < _; omega) (by rw [hc0]; rfl) (fun y e => by rw [hc0] at e; cases e) dX5_turn_40 (fun H locs hI => ?_)
    refine lv_iinc (v := 1) (lv' := [(1, .int 1), (3, .null), (2, .int 2), (0, .ref (ad (100 + k)))]) hx hb dX5_turn_41 hl (k := 2) rfl (by decide) (by decide) rfl (fun ls hl => ?_)
    refine lv_iinc (v := 1) (lv' := [(2, .int 1), (1, .int 1), (3, .null), (0, .ref (ad (100 + k)))]) hx hb dX5_turn_44 hl (k := 2) rfl (by decide) (by decide) rfl (fun ls hl => ?_)
    refine lv_goto (tgt := 10) hx hb dX5_turn_47 (by decide) ?_
    refine lv_iload_n hx hb dX5_turn_10 rfl (lv_at hl 1 rfl) ?_
    refine lv_iload_n hx hb dX5_turn_11 rfl (lv_at hl 0 rfl) ?_
    refine lv_icmp_ge (tgt := 50) hx hb dX5_turn_12 (by decide) (fun c2 => ?_) (fun c2 => ?_)
    · rw [turn_3 ez2]
      try rw [if_neg (show ¬ (2 : Int32) ≤ 0 from by decide)]
      try rw [if_pos (show (1 : Int32) ≤ 1 from by decide)]
      exact tw_vret S hr hlocks hI dX5_turn_50
    · exact absurd c2 (by decide)

set_option maxHeartbeats 2000000 in
set_option maxRecDepth 100000 in
theorem c_X5_turn_3nr (l : Launch) (D : tw_G) (ad : Nat → Nat) (b : tw_W) (σ : Sg) (h : Int32) (Q : Nat → Int32) (sz : Nat) (k q2 : Nat) (hn : k < nS σ) (h6 : k < 60) (hN : isNumK (σ.1 1 k) = false) (hO : isOneK (σ.1 1 k) = false) (ez : szS σ k = 3) (ez2 : σ.1 2 k = 3) (hc0 : decL (σ.2 (3 * k + 0)) = none) (hc2 : decL (σ.2 (3 * k + 2)) = some q2) (hq2 : q2 < nS σ) (hp2 : q2 < 60) : Met l yX5_turn (tw_w yX5_turn cX5_turn 4 none) (tw_R 0 0 0) (tw_Pc D ad (wX b σ h Q) sz [.ref (ad (100 + k))]) (tw_Q D ad (wX b (turnF σ k) h Q) (tw_A ad (wX b σ h Q) sz) none) 0 0 (tw_A ad (wX b σ h Q) sz) := by
  refine tw_met (by decide) rfl (by simp [lg_sl, Value.category]) (fun p e s m below meth c ls S hK hr hlocks hnm hsz hI hl => ?_)
  have hx := S.1
  have hb := S.2.1
  have hl : lv_has ls 4 [(0, .ref (ad (100 + k)))] := hl
  refine lv_iconst (v := 0) hx hb dX5_turn_0 (by decide) ?_
  refine lv_istore_n (lv' := [(1, .int 0), (0, .ref (ad (100 + k)))]) hx hb dX5_turn_1 rfl hl (by decide) rfl (fun ls hl => ?_)
  refine lv_aload_n hx hb dX5_turn_2 rfl (lv_at hl 1 rfl) ?_
  refine f5_9_5 S hK hI (xI_th hn h6 hN hO) rfl (v' := .ref (ad (200 + k))) rfl dX5_turn_3 ?_
  refine tw_alen S hK hI (t := 200 + k) (xA_th hn h6 hN hO) rfl (v := 3) (by show nI (szS σ k) = _; rw [ez]; rfl) dX5_turn_6 ?_
  refine lv_iconst (v := 1) hx hb dX5_turn_7 (by decide) ?_
  refine lv_isub hx hb dX5_turn_8 ?_
  refine lv_eqi (v := 2) (by decide) ?_
  refine lv_istore_n (lv' := [(2, .int 2), (1, .int 0), (0, .ref (ad (100 + k)))]) hx hb dX5_turn_9 rfl hl (by decide) rfl (fun ls hl => ?_)
  refine lv_iload_n hx hb dX5_turn_10 rfl (lv_at hl 1 rfl) ?_
  refine lv_iload_n hx hb dX5_turn_11 rfl (lv_at hl 0 rfl) ?_
  refine lv_icmp_ge (tgt := 50) hx hb dX5_turn_12 (by decide) (fun c1 => ?_) (fun c1 => ?_)
  · exact absurd c1 (by decide)
  · refine lv_aload_n hx hb dX5_turn_15 rfl (lv_at hl 2 rfl) ?_
    refine f5_9_5 S hK hI (xI_th hn h6 hN hO) rfl (v' := .ref (ad (200 + k))) rfl dX5_turn_16 ?_
    refine lv_iload_n hx hb dX5_turn_19 rfl (lv_at hl 1 rfl) ?_
    refine xl_th (k := k) (i := 0) (v := .null) S hK hI hn h6 hN hO (by rw [ez]; decide) (by decide) (by omega) (by rw [hc0]; rfl) dX5_turn_20 ?_
    refine lv_astore_nN (lv' := [(3, .null), (2, .int 2), (1, .int 0), (0, .ref (ad (100 + k)))]) hx hb dX5_turn_21 rfl hl (by decide) rfl (fun ls hl => ?_)
    refine lv_aload_n hx hb dX5_turn_22 rfl (lv_at hl 3 rfl) ?_
    refine f5_9_5 S hK hI (xI_th hn h6 hN hO) rfl (v' := .ref (ad (200 + k))) rfl dX5_turn_23 ?_
    refine lv_iload_n hx hb dX5_turn_26 rfl (lv_at hl 2 rfl) ?_
    refine lv_aload_n hx hb dX5_turn_27 rfl (lv_at hl 3 rfl) ?_
    refine f5_9_5 S hK hI (xI_th hn h6 hN hO) rfl (v' := .ref (ad (200 + k))) rfl dX5_turn_28 ?_
    refine lv_iload_n hx hb dX5_turn_31 rfl (lv_at hl 1 rfl) ?_
    refine xl_th (k := k) (i := 2) (v := .ref (ad (100 + q2))) S hK hI hn h6 hN hO (by rw [ez]; decide) (by decide) (by omega) (by rw [hc2]; rfl) dX5_turn_32 ?_
    refine xs_th (k := k) (i := 0) (q := σ.2 (3 * k + 2)) S hK hI hn h6 hN hO (by show _ < szS σ k; rw [ez]; decide) (by decide) (by show szS σ k < _; omega) (by rw [hc2]; rfl) (fun y e => by rw [hc2] at e; cases e; exact xAny hK hI hq2 hp2) dX5_turn_33 (fun H locs hI => ?_)
    refine lv_aload_n hx hb dX5_turn_34 rfl (lv_at hl 3 rfl) ?_
    refine f5_9_5 S hK hI (xI_th hn h6 hN hO) rfl (v' := .ref (ad (200 + k))) rfl dX5_turn_35 ?_
    refine lv_iload_n hx hb dX5_turn_38 rfl (lv_at hl 1 rfl) ?_
    refine lv_aload_nN hx hb dX5_turn_39 rfl (lv_at hl 0 rfl) ?_
    refine xs_th (k := k) (i := 2) (q := σ.2 (3 * k + 0)) S hK hI hn h6 hN hO (by show _ < szS σ k; rw [ez]; decide) (by decide) (by show szS σ k < _; omega) (by rw [hc0]; rfl) (fun y e => by rw [hc0] at e; cases e) dX5_turn_40 (fun H locs hI => ?_)
    refine lv_iinc (v := 1) (lv' := [(1, .int 1), (3, .null), (2, .int 2), (0, .ref (ad (100 + k)))]) hx hb dX5_turn_41 hl (k := 2) rfl (by decide) (by decide) rfl (fun ls hl => ?_)
    refine lv_iinc (v := 1) (lv' := [(2, .int 1), (1, .int 1), (3, .null), (0, .ref (ad (100 + k)))]) hx hb dX5_turn_44 hl (k := 2) rfl (by decide) (by decide) rfl (fun ls hl => ?_)
    refine lv_goto (tgt := 10) hx hb dX5_turn_47 (by decide) ?_
    refine lv_iload_n hx hb dX5_turn_10 rfl (lv_at hl 1 rfl) ?_
    refine lv_iload_n hx hb dX5_turn_11 rfl (lv_at hl 0 rfl) ?_
    refine lv_icmp_ge (tgt := 50) hx hb dX5_turn_12 (by decide) (fun c2 => ?_) (fun c2 => ?_)
    · rw [turn_3 ez2]
      try rw [if_neg (show ¬ (2 : Int32) ≤ 0 from by decide)]
      try rw [if_pos (show (1 : Int32) ≤ 1 from by decide)]
      exact tw_vret S hr hlocks hI dX5_turn_50
    · exact absurd c2 (by decide)

set_option maxHeartbeats 2000000 in
set_option maxRecDepth 100000 in
theorem c_X5_turn_3rn (l : Launch) (D : tw_G) (ad : Nat → Nat) (b : tw_W) (σ : Sg) (h : Int32) (Q : Nat → Int32) (sz : Nat) (k q0 : Nat) (hn : k < nS σ) (h6 : k < 60) (hN : isNumK (σ.1 1 k) = false) (hO : isOneK (σ.1 1 k) = false) (ez : szS σ k = 3) (ez2 : σ.1 2 k = 3) (hc0 : decL (σ.2 (3 * k + 0)) = some q0) (hq0 : q0 < nS σ) (hp0 : q0 < 60) (hc2 : decL (σ.2 (3 * k + 2)) = none) : Met l yX5_turn (tw_w yX5_turn cX5_turn 4 none) (tw_R 0 0 0) (tw_Pc D ad (wX b σ h Q) sz [.ref (ad (100 + k))]) (tw_Q D ad (wX b (turnF σ k) h Q) (tw_A ad (wX b σ h Q) sz) none) 0 0 (tw_A ad (wX b σ h Q) sz) := by
  refine tw_met (by decide) rfl (by simp [lg_sl, Value.category]) (fun p e s m below meth c ls S hK hr hlocks hnm hsz hI hl => ?_)
  have hx := S.1
  have hb := S.2.1
  have hl : lv_has ls 4 [(0, .ref (ad (100 + k)))] := hl
  refine lv_iconst (v := 0) hx hb dX5_turn_0 (by decide) ?_
  refine lv_istore_n (lv' := [(1, .int 0), (0, .ref (ad (100 + k)))]) hx hb dX5_turn_1 rfl hl (by decide) rfl (fun ls hl => ?_)
  refine lv_aload_n hx hb dX5_turn_2 rfl (lv_at hl 1 rfl) ?_
  refine f5_9_5 S hK hI (xI_th hn h6 hN hO) rfl (v' := .ref (ad (200 + k))) rfl dX5_turn_3 ?_
  refine tw_alen S hK hI (t := 200 + k) (xA_th hn h6 hN hO) rfl (v := 3) (by show nI (szS σ k) = _; rw [ez]; rfl) dX5_turn_6 ?_
  refine lv_iconst (v := 1) hx hb dX5_turn_7 (by decide) ?_
  refine lv_isub hx hb dX5_turn_8 ?_
  refine lv_eqi (v := 2) (by decide) ?_
  refine lv_istore_n (lv' := [(2, .int 2), (1, .int 0), (0, .ref (ad (100 + k)))]) hx hb dX5_turn_9 rfl hl (by decide) rfl (fun ls hl => ?_)
  refine lv_iload_n hx hb dX5_turn_10 rfl (lv_at hl 1 rfl) ?_
  refine lv_iload_n hx hb dX5_turn_11 rfl (lv_at hl 0 rfl) ?_
  refine lv_icmp_ge (tgt := 50) hx hb dX5_turn_12 (by decide) (fun c1 => ?_) (fun c1 => ?_)
  · exact absurd c1 (by decide)
  · refine lv_aload_n hx hb dX5_turn_15 rfl (lv_at hl 2 rfl) ?_
    refine f5_9_5 S hK hI (xI_th hn h6 hN hO) rfl (v' := .ref (ad (200 + k))) rfl dX5_turn_16 ?_
    refine lv_iload_n hx hb dX5_turn_19 rfl (lv_at hl 1 rfl) ?_
    refine xl_th (k := k) (i := 0) (v := .ref (ad (100 + q0))) S hK hI hn h6 hN hO (by rw [ez]; decide) (by decide) (by omega) (by rw [hc0]; rfl) dX5_turn_20 ?_
    refine lv_astore_n (lv' := [(3, .ref (ad (100 + q0))), (2, .int 2), (1, .int 0), (0, .ref (ad (100 + k)))]) hx hb dX5_turn_21 rfl hl (by decide) rfl (fun ls hl => ?_)
    refine lv_aload_n hx hb dX5_turn_22 rfl (lv_at hl 3 rfl) ?_
    refine f5_9_5 S hK hI (xI_th hn h6 hN hO) rfl (v' := .ref (ad (200 + k))) rfl dX5_turn_23 ?_
    refine lv_iload_n hx hb dX5_turn_26 rfl (lv_at hl 2 rfl) ?_
    refine lv_aload_n hx hb dX5_turn_27 rfl (lv_at hl 3 rfl) ?_
    refine f5_9_5 S hK hI (xI_th hn h6 hN hO) rfl (v' := .ref (ad (200 + k))) rfl dX5_turn_28 ?_
    refine lv_iload_n hx hb dX5_turn_31 rfl (lv_at hl 1 rfl) ?_
    refine xl_th (k := k) (i := 2) (v := .null) S hK hI hn h6 hN hO (by rw [ez]; decide) (by decide) (by omega) (by rw [hc2]; rfl) dX5_turn_32 ?_
    refine xs_th (k := k) (i := 0) (q := σ.2 (3 * k + 2)) S hK hI hn h6 hN hO (by show _ < szS σ k; rw [ez]; decide) (by decide) (by show szS σ k < _; omega) (by rw [hc2]; rfl) (fun y e => by rw [hc2] at e; cases e) dX5_turn_33 (fun H locs hI => ?_)
    refine lv_aload_n hx hb dX5_turn_34 rfl (lv_at hl 3 rfl) ?_
    refine f5_9_5 S hK hI (xI_th hn h6 hN hO) rfl (v' := .ref (ad (200 + k))) rfl dX5_turn_35 ?_
    refine lv_iload_n hx hb dX5_turn_38 rfl (lv_at hl 1 rfl) ?_
    refine lv_aload_n hx hb dX5_turn_39 rfl (lv_at hl 0 rfl) ?_
    refine xs_th (k := k) (i := 2) (q := σ.2 (3 * k + 0)) S hK hI hn h6 hN hO (by show _ < szS σ k; rw [ez]; decide) (by decide) (by show szS σ k < _; omega) (by rw [hc0]; rfl) (fun y e => by rw [hc0] at e; cases e; exact xAny hK hI hq0 hp0) dX5_turn_40 (fun H locs hI => ?_)
    refine lv_iinc (v := 1) (lv' := [(1, .int 1), (3, .ref (ad (100 + q0))), (2, .int 2), (0, .ref (ad (100 + k)))]) hx hb dX5_turn_41 hl (k := 2) rfl (by decide) (by decide) rfl (fun ls hl => ?_)
    refine lv_iinc (v := 1) (lv' := [(2, .int 1), (1, .int 1), (3, .ref (ad (100 + q0))), (0, .ref (ad (100 + k)))]) hx hb dX5_turn_44 hl (k := 2) rfl (by decide) (by decide) rfl (fun ls hl => ?_)
    refine lv_goto (tgt := 10) hx hb dX5_turn_47 (by decide) ?_
    refine lv_iload_n hx hb dX5_turn_10 rfl (lv_at hl 1 rfl) ?_
    refine lv_iload_n hx hb dX5_turn_11 rfl (lv_at hl 0 rfl) ?_
    refine lv_icmp_ge (tgt := 50) hx hb dX5_turn_12 (by decide) (fun c2 => ?_) (fun c2 => ?_)
    · rw [turn_3 ez2]
      try rw [if_neg (show ¬ (2 : Int32) ≤ 0 from by decide)]
      try rw [if_pos (show (1 : Int32) ≤ 1 from by decide)]
      exact tw_vret S hr hlocks hI dX5_turn_50
    · exact absurd c2 (by decide)

set_option maxHeartbeats 2000000 in
set_option maxRecDepth 100000 in
theorem c_X5_turn_3rr (l : Launch) (D : tw_G) (ad : Nat → Nat) (b : tw_W) (σ : Sg) (h : Int32) (Q : Nat → Int32) (sz : Nat) (k q0 q2 : Nat) (hn : k < nS σ) (h6 : k < 60) (hN : isNumK (σ.1 1 k) = false) (hO : isOneK (σ.1 1 k) = false) (ez : szS σ k = 3) (ez2 : σ.1 2 k = 3) (hc0 : decL (σ.2 (3 * k + 0)) = some q0) (hq0 : q0 < nS σ) (hp0 : q0 < 60) (hc2 : decL (σ.2 (3 * k + 2)) = some q2) (hq2 : q2 < nS σ) (hp2 : q2 < 60) : Met l yX5_turn (tw_w yX5_turn cX5_turn 4 none) (tw_R 0 0 0) (tw_Pc D ad (wX b σ h Q) sz [.ref (ad (100 + k))]) (tw_Q D ad (wX b (turnF σ k) h Q) (tw_A ad (wX b σ h Q) sz) none) 0 0 (tw_A ad (wX b σ h Q) sz) := by
  refine tw_met (by decide) rfl (by simp [lg_sl, Value.category]) (fun p e s m below meth c ls S hK hr hlocks hnm hsz hI hl => ?_)
  have hx := S.1
  have hb := S.2.1
  have hl : lv_has ls 4 [(0, .ref (ad (100 + k)))] := hl
  refine lv_iconst (v := 0) hx hb dX5_turn_0 (by decide) ?_
  refine lv_istore_n (lv' := [(1, .int 0), (0, .ref (ad (100 + k)))]) hx hb dX5_turn_1 rfl hl (by decide) rfl (fun ls hl => ?_)
  refine lv_aload_n hx hb dX5_turn_2 rfl (lv_at hl 1 rfl) ?_
  refine f5_9_5 S hK hI (xI_th hn h6 hN hO) rfl (v' := .ref (ad (200 + k))) rfl dX5_turn_3 ?_
  refine tw_alen S hK hI (t := 200 + k) (xA_th hn h6 hN hO) rfl (v := 3) (by show nI (szS σ k) = _; rw [ez]; rfl) dX5_turn_6 ?_
  refine lv_iconst (v := 1) hx hb dX5_turn_7 (by decide) ?_
  refine lv_isub hx hb dX5_turn_8 ?_
  refine lv_eqi (v := 2) (by decide) ?_
  refine lv_istore_n (lv' := [(2, .int 2), (1, .int 0), (0, .ref (ad (100 + k)))]) hx hb dX5_turn_9 rfl hl (by decide) rfl (fun ls hl => ?_)
  refine lv_iload_n hx hb dX5_turn_10 rfl (lv_at hl 1 rfl) ?_
  refine lv_iload_n hx hb dX5_turn_11 rfl (lv_at hl 0 rfl) ?_
  refine lv_icmp_ge (tgt := 50) hx hb dX5_turn_12 (by decide) (fun c1 => ?_) (fun c1 => ?_)
  · exact absurd c1 (by decide)
  · refine lv_aload_n hx hb dX5_turn_15 rfl (lv_at hl 2 rfl) ?_
    refine f5_9_5 S hK hI (xI_th hn h6 hN hO) rfl (v' := .ref (ad (200 + k))) rfl dX5_turn_16 ?_
    refine lv_iload_n hx hb dX5_turn_19 rfl (lv_at hl 1 rfl) ?_
    refine xl_th (k := k) (i := 0) (v := .ref (ad (100 + q0))) S hK hI hn h6 hN hO (by rw [ez]; decide) (by decide) (by omega) (by rw [hc0]; rfl) dX5_turn_20 ?_
    refine lv_astore_n (lv' := [(3, .ref (ad (100 + q0))), (2, .int 2), (1, .int 0), (0, .ref (ad (100 + k)))]) hx hb dX5_turn_21 rfl hl (by decide) rfl (fun ls hl => ?_)
    refine lv_aload_n hx hb dX5_turn_22 rfl (lv_at hl 3 rfl) ?_
    refine f5_9_5 S hK hI (xI_th hn h6 hN hO) rfl (v' := .ref (ad (200 + k))) rfl dX5_turn_23 ?_
    refine lv_iload_n hx hb dX5_turn_26 rfl (lv_at hl 2 rfl) ?_
    refine lv_aload_n hx hb dX5_turn_27 rfl (lv_at hl 3 rfl) ?_
    refine f5_9_5 S hK hI (xI_th hn h6 hN hO) rfl (v' := .ref (ad (200 + k))) rfl dX5_turn_28 ?_
    refine lv_iload_n hx hb dX5_turn_31 rfl (lv_at hl 1 rfl) ?_
    refine xl_th (k := k) (i := 2) (v := .ref (ad (100 + q2))) S hK hI hn h6 hN hO (by rw [ez]; decide) (by decide) (by omega) (by rw [hc2]; rfl) dX5_turn_32 ?_
    refine xs_th (k := k) (i := 0) (q := σ.2 (3 * k + 2)) S hK hI hn h6 hN hO (by show _ < szS σ k; rw [ez]; decide) (by decide) (by show szS σ k < _; omega) (by rw [hc2]; rfl) (fun y e => by rw [hc2] at e; cases e; exact xAny hK hI hq2 hp2) dX5_turn_33 (fun H locs hI => ?_)
    refine lv_aload_n hx hb dX5_turn_34 rfl (lv_at hl 3 rfl) ?_
    refine f5_9_5 S hK hI (xI_th hn h6 hN hO) rfl (v' := .ref (ad (200 + k))) rfl dX5_turn_35 ?_
    refine lv_iload_n hx hb dX5_turn_38 rfl (lv_at hl 1 rfl) ?_
    refine lv_aload_n hx hb dX5_turn_39 rfl (lv_at hl 0 rfl) ?_
    refine xs_th (k := k) (i := 2) (q := σ.2 (3 * k + 0)) S hK hI hn h6 hN hO (by show _ < szS σ k; rw [ez]; decide) (by decide) (by show szS σ k < _; omega) (by rw [hc0]; rfl) (fun y e => by rw [hc0] at e; cases e; exact xAny hK hI hq0 hp0) dX5_turn_40 (fun H locs hI => ?_)
    refine lv_iinc (v := 1) (lv' := [(1, .int 1), (3, .ref (ad (100 + q0))), (2, .int 2), (0, .ref (ad (100 + k)))]) hx hb dX5_turn_41 hl (k := 2) rfl (by decide) (by decide) rfl (fun ls hl => ?_)
    refine lv_iinc (v := 1) (lv' := [(2, .int 1), (1, .int 1), (3, .ref (ad (100 + q0))), (0, .ref (ad (100 + k)))]) hx hb dX5_turn_44 hl (k := 2) rfl (by decide) (by decide) rfl (fun ls hl => ?_)
    refine lv_goto (tgt := 10) hx hb dX5_turn_47 (by decide) ?_
    refine lv_iload_n hx hb dX5_turn_10 rfl (lv_at hl 1 rfl) ?_
    refine lv_iload_n hx hb dX5_turn_11 rfl (lv_at hl 0 rfl) ?_
    refine lv_icmp_ge (tgt := 50) hx hb dX5_turn_12 (by decide) (fun c2 => ?_) (fun c2 => ?_)
    · rw [turn_3 ez2]
      try rw [if_neg (show ¬ (2 : Int32) ≤ 0 from by decide)]
      try rw [if_pos (show (1 : Int32) ≤ 1 from by decide)]
      exact tw_vret S hr hlocks hI dX5_turn_50
    · exact absurd c2 (by decide)

theorem c_X5_turn (l : Launch) (D : tw_G) (ad : Nat → Nat) (b : tw_W) (σ : Sg) (h : Int32) (Q : Nat → Int32) (sz : Nat) (k : Nat) (hok : okM σ) (hT : okT σ) (hn : k < nS σ) (h6 : k < 60) (hN : isNumK (σ.1 1 k) = false) (hO : isOneK (σ.1 1 k) = false) : Met l yX5_turn (tw_w yX5_turn cX5_turn 4 none) (tw_R 0 0 0) (tw_Pc D ad (wX b σ h Q) sz [.ref (ad (100 + k))]) (tw_Q D ad (wX b (turnF σ k) h Q) (tw_A ad (wX b σ h Q) sz) none) 0 0 (tw_A ad (wX b σ h Q) sz) := by
  have hz := okZ hok h6
  rcases z_or _ hz.1 with e | e | e | e
  · exact c_X5_turn_0 l D ad b σ h Q sz k hn h6 hN hO e (by rw [hz.2, e]; rfl)
  · exact c_X5_turn_1 l D ad b σ h Q sz k hn h6 hN hO e (by rw [hz.2, e]; rfl)
  ·
    have e2 : σ.1 2 k = 2 := by rw [hz.2, e]; rfl
    rcases cell_or hok hT hn hN (i := 0) (by omega) with ⟨-, c0⟩ | ⟨q0, hq0, hp0, -, c0⟩ <;> rcases cell_or hok hT hn hN (i := 1) (by omega) with ⟨-, c1⟩ | ⟨q1, hq1, hp1, -, c1⟩
    · exact c_X5_turn_2nn l D ad b σ h Q sz k hn h6 hN hO e e2 c0 c1
    · exact c_X5_turn_2nr l D ad b σ h Q sz k q1 hn h6 hN hO e e2 c0 c1 hq1 hp1
    · exact c_X5_turn_2rn l D ad b σ h Q sz k q0 hn h6 hN hO e e2 c0 hq0 hp0 c1
    · exact c_X5_turn_2rr l D ad b σ h Q sz k q0 q1 hn h6 hN hO e e2 c0 hq0 hp0 c1 hq1 hp1
  ·
    have e2 : σ.1 2 k = 3 := by rw [hz.2, e]; rfl
    rcases cell_or hok hT hn hN (i := 0) (by omega) with ⟨-, c0⟩ | ⟨q0, hq0, hp0, -, c0⟩ <;> rcases cell_or hok hT hn hN (i := 2) (by omega) with ⟨-, c1⟩ | ⟨q1, hq1, hp1, -, c1⟩
    · exact c_X5_turn_3nn l D ad b σ h Q sz k hn h6 hN hO e e2 c0 c1
    · exact c_X5_turn_3nr l D ad b σ h Q sz k q1 hn h6 hN hO e e2 c0 c1 hq1 hp1
    · exact c_X5_turn_3rn l D ad b σ h Q sz k q0 hn h6 hN hO e e2 c0 hq0 hp0 c1
    · exact c_X5_turn_3rr l D ad b σ h Q sz k q0 q1 hn h6 hN hO e e2 c0 hq0 hp0 c1 hq1 hp1
theorem low_num {σ : Sg} {k : Nat} (hN : isNumK (σ.1 1 k) = true) : stampLowF σ k = bumpN σ (σ.1 1 k) k (szS σ k) := by
  unfold stampLowF
  have h0 : addS (σ.1 1 k) = 0 := by
    unfold addS
    rw [if_neg, if_pos (oneF0 (oneF_num hN))]
    intro e
    rw [e] at hN
    exact absurd hN (by decide)
  rw [numF1 hN, if_neg (by decide), h0, Int32.add_zero, sI_id]
theorem low_one {σ : Sg} {k : Nat} (hN : isNumK (σ.1 1 k) = false) (hO : isOneK (σ.1 1 k) = true) : stampLowF σ k = sI σ 3 k (σ.1 3 k + if σ.1 1 k = 6 then 2 else 1) := by
  unfold stampLowF addS
  rw [numF0 hN, if_pos rfl, oneF1 hO, if_neg (show ¬ (1 : Int32) = 0 by decide)]
theorem low_th {σ : Sg} {k : Nat} (hN : isNumK (σ.1 1 k) = false) (hO : isOneK (σ.1 1 k) = false) : stampLowF σ k = σ := by
  unfold stampLowF
  have h0 : addS (σ.1 1 k) = 0 := by
    unfold addS
    rw [if_neg, if_pos (oneF0 hO)]
    intro e
    rw [e] at hO
    exact absurd hO (by decide)
  rw [numF0 hN, if_pos rfl, h0, Int32.add_zero, sI_id]

set_option maxHeartbeats 2000000 in
set_option maxRecDepth 100000 in
theorem c_X2_grow_0s (l : Launch) (D : tw_G) (ad : Nat → Nat) (b : tw_W) (σ : Sg) (h : Int32) (Q : Nat → Int32) (sz : Nat) (k : Nat) (v : Int32) (hkd : okKd σ) (hn : k < nS σ) (h6 : k < 60) (hN : isNumK (σ.1 1 k) = true) (ez : szS σ k = 0) (ez2 : σ.1 2 k = 0) (h3 : σ.1 1 k = 3) : Met l yX2_grow (tw_w yX2_grow cX2_grow 3 none) (tw_R 1 0 0) (tw_Pc D ad (wX b σ h Q) sz [.ref (ad (100 + k)), .int v]) (tw_Q D ad (wX b (stampLowF σ k) h Q) (tw_A ad (wX b σ h Q) sz) none) 0 0 (tw_A ad (wX b σ h Q) sz) := by
  refine tw_met (by decide) rfl (by simp [lg_sl, Value.category]) (fun p e s m below meth c ls S hK hr hlocks hnm hsz hI hl => ?_)
  have hx := S.1
  have hb := S.2.1
  have hl : lv_has ls 3 [(0, .ref (ad (100 + k))), (1, .int v)] := hl
  refine lv_iconst (v := 0) hx hb dX2_grow_0 (by decide) ?_
  refine lv_istore_n (lv' := [(2, .int 0), (0, .ref (ad (100 + k))), (1, .int v)]) hx hb dX2_grow_1 rfl hl (by decide) rfl (fun ls hl => ?_)
  refine lv_iload_n hx hb dX2_grow_2 rfl (lv_at hl 0 rfl) ?_
  refine lv_aload_n hx hb dX2_grow_3 rfl (lv_at hl 1 rfl) ?_
  refine f2_9_2 S hK hI (xI_num hn h6 hN) rfl (v' := .ref (ad (200 + k))) rfl dX2_grow_4 ?_
  refine tw_alen S hK hI (t := 200 + k) (xA_num hn h6 hN) rfl (v := 0) (by show nI (szS σ k) = _; rw [ez]; rfl) dX2_grow_7 ?_
  refine lv_icmp_ge (tgt := 54) hx hb dX2_grow_8 (by decide) (fun c1 => ?_) (fun c1 => ?_)
  · rw [low_num hN, ez]
    unfold bumpN
    try rw [if_pos (show (0 : Int32) ≤ 0 from by decide)]
    exact tw_vret S hr hlocks hI dX2_grow_54
  · exact absurd c1 (by decide)

set_option maxHeartbeats 2000000 in
set_option maxRecDepth 100000 in
theorem c_X2_grow_0n (l : Launch) (D : tw_G) (ad : Nat → Nat) (b : tw_W) (σ : Sg) (h : Int32) (Q : Nat → Int32) (sz : Nat) (k : Nat) (v : Int32) (hkd : okKd σ) (hn : k < nS σ) (h6 : k < 60) (hN : isNumK (σ.1 1 k) = true) (ez : szS σ k = 0) (ez2 : σ.1 2 k = 0) (h3 : ¬ σ.1 1 k = 3) : Met l yX2_grow (tw_w yX2_grow cX2_grow 3 none) (tw_R 1 0 0) (tw_Pc D ad (wX b σ h Q) sz [.ref (ad (100 + k)), .int v]) (tw_Q D ad (wX b (stampLowF σ k) h Q) (tw_A ad (wX b σ h Q) sz) none) 0 0 (tw_A ad (wX b σ h Q) sz) := by
  refine tw_met (by decide) rfl (by simp [lg_sl, Value.category]) (fun p e s m below meth c ls S hK hr hlocks hnm hsz hI hl => ?_)
  have hx := S.1
  have hb := S.2.1
  have hl : lv_has ls 3 [(0, .ref (ad (100 + k))), (1, .int v)] := hl
  refine lv_iconst (v := 0) hx hb dX2_grow_0 (by decide) ?_
  refine lv_istore_n (lv' := [(2, .int 0), (0, .ref (ad (100 + k))), (1, .int v)]) hx hb dX2_grow_1 rfl hl (by decide) rfl (fun ls hl => ?_)
  refine lv_iload_n hx hb dX2_grow_2 rfl (lv_at hl 0 rfl) ?_
  refine lv_aload_n hx hb dX2_grow_3 rfl (lv_at hl 1 rfl) ?_
  refine f2_9_2 S hK hI (xI_num hn h6 hN) rfl (v' := .ref (ad (200 + k))) rfl dX2_grow_4 ?_
  refine tw_alen S hK hI (t := 200 + k) (xA_num hn h6 hN) rfl (v := 0) (by show nI (szS σ k) = _; rw [ez]; rfl) dX2_grow_7 ?_
  refine lv_icmp_ge (tgt := 54) hx hb dX2_grow_8 (by decide) (fun c1 => ?_) (fun c1 => ?_)
  · rw [low_num hN, ez]
    unfold bumpN
    try rw [if_pos (show (0 : Int32) ≤ 0 from by decide)]
    exact tw_vret S hr hlocks hI dX2_grow_54
  · exact absurd c1 (by decide)

set_option maxHeartbeats 2000000 in
set_option maxRecDepth 100000 in
theorem c_X2_grow_1s (l : Launch) (D : tw_G) (ad : Nat → Nat) (b : tw_W) (σ : Sg) (h : Int32) (Q : Nat → Int32) (sz : Nat) (k : Nat) (v : Int32) (hkd : okKd σ) (hn : k < nS σ) (h6 : k < 60) (hN : isNumK (σ.1 1 k) = true) (ez : szS σ k = 1) (ez2 : σ.1 2 k = 1) (h3 : σ.1 1 k = 3) : Met l yX2_grow (tw_w yX2_grow cX2_grow 3 none) (tw_R 1 0 0) (tw_Pc D ad (wX b σ h Q) sz [.ref (ad (100 + k)), .int v]) (tw_Q D ad (wX b (stampLowF σ k) h Q) (tw_A ad (wX b σ h Q) sz) none) 0 0 (tw_A ad (wX b σ h Q) sz) := by
  refine tw_met (by decide) rfl (by simp [lg_sl, Value.category]) (fun p e s m below meth c ls S hK hr hlocks hnm hsz hI hl => ?_)
  have hx := S.1
  have hb := S.2.1
  have hl : lv_has ls 3 [(0, .ref (ad (100 + k))), (1, .int v)] := hl
  refine lv_iconst (v := 0) hx hb dX2_grow_0 (by decide) ?_
  refine lv_istore_n (lv' := [(2, .int 0), (0, .ref (ad (100 + k))), (1, .int v)]) hx hb dX2_grow_1 rfl hl (by decide) rfl (fun ls hl => ?_)
  refine lv_iload_n hx hb dX2_grow_2 rfl (lv_at hl 0 rfl) ?_
  refine lv_aload_n hx hb dX2_grow_3 rfl (lv_at hl 1 rfl) ?_
  refine f2_9_2 S hK hI (xI_num hn h6 hN) rfl (v' := .ref (ad (200 + k))) rfl dX2_grow_4 ?_
  refine tw_alen S hK hI (t := 200 + k) (xA_num hn h6 hN) rfl (v := 1) (by show nI (szS σ k) = _; rw [ez]; rfl) dX2_grow_7 ?_
  refine lv_icmp_ge (tgt := 54) hx hb dX2_grow_8 (by decide) (fun c1 => ?_) (fun c1 => ?_)
  · exact absurd c1 (by decide)
  · refine lv_aload_n hx hb dX2_grow_11 rfl (lv_at hl 1 rfl) ?_
    refine f2_9_2 S hK hI (xI_num hn h6 hN) rfl (v' := .ref (ad (200 + k))) rfl dX2_grow_12 ?_
    refine lv_iload_n hx hb dX2_grow_15 rfl (lv_at hl 0 rfl) ?_
    refine lv_aload_n hx hb dX2_grow_16 rfl (lv_at hl 1 rfl) ?_
    refine f2_32_2 S hK hI (xI_num hn h6 hN) rfl (v' := .int (σ.1 1 k)) rfl dX2_grow_17 ?_
    refine lv_topi (fun x2 e2 => ?_)
    refine lv_iconst (v := 3) hx hb dX2_grow_20 (by decide) ?_
    refine lv_icmp_ne (tgt := 35) hx hb dX2_grow_21 (by decide) (fun c3 => ?_) (fun c3 => ?_)
    · exact (by subst e2; exact absurd h3 c3)
    · refine lv_lconst (v := 1) hx hb dX2_grow_24 (by decide) ?_
      refine lv_aload_n hx hb dX2_grow_25 rfl (lv_at hl 1 rfl) ?_
      refine f2_9_2 S hK hI (xI_num hn h6 hN) rfl (v' := .ref (ad (200 + k))) rfl dX2_grow_26 ?_
      refine lv_iload_n hx hb dX2_grow_29 rfl (lv_at hl 0 rfl) ?_
      refine xl_num (k := k) (i := 0) S hK hI hn h6 hN (by show _ < szS σ k; rw [ez]; decide) (by decide) (by show szS σ k < _; omega) dX2_grow_30 ?_
      refine lv_topl (fun x4 e4 => ?_)
      refine lv_lsub hx hb dX2_grow_31 ?_
      refine lv_topl (fun x5 e5 => ?_)
      refine lv_goto (tgt := 47) hx hb dX2_grow_32 (by decide) ?_
      refine xs_num (k := k) (i := 0) S hK hI hn h6 hN (by show _ < szS σ k; rw [ez]; decide) (by decide) (by show szS σ k < _; omega) dX2_grow_47 (fun H locs hI => ?_)
      refine lv_iinc (v := 1) (lv' := [(2, .int 1), (0, .ref (ad (100 + k))), (1, .int v)]) hx hb dX2_grow_48 hl (k := 0) rfl (by decide) (by decide) rfl (fun ls hl => ?_)
      refine lv_goto (tgt := 2) hx hb dX2_grow_51 (by decide) ?_
      refine lv_iload_n hx hb dX2_grow_2 rfl (lv_at hl 0 rfl) ?_
      refine lv_aload_n hx hb dX2_grow_3 rfl (lv_at hl 1 rfl) ?_
      refine f2_9_2 S hK hI (xI_num hn h6 hN) rfl (v' := .ref (ad (200 + k))) rfl dX2_grow_4 ?_
      refine tw_alen S hK hI (t := 200 + k) (xA_num hn h6 hN) rfl (v := 1) (by show nI (szS σ k) = _; rw [ez]; rfl) dX2_grow_7 ?_
      refine lv_icmp_ge (tgt := 54) hx hb dX2_grow_8 (by decide) (fun c6 => ?_) (fun c6 => ?_)
      · subst e5
        subst e4
        subst e2
        rw [low_num hN, ez]
        simp only [bumpN, bump1, bumpF, if_pos h3]
        try rw [if_neg (show ¬ (1 : Int32) ≤ 0 from by decide)]
        try rw [if_pos (show (1 : Int32) ≤ 1 from by decide)]
        exact tw_vret S hr hlocks hI dX2_grow_54
      · exact absurd c6 (by decide)

set_option maxHeartbeats 2000000 in
set_option maxRecDepth 100000 in
theorem c_X2_grow_1n (l : Launch) (D : tw_G) (ad : Nat → Nat) (b : tw_W) (σ : Sg) (h : Int32) (Q : Nat → Int32) (sz : Nat) (k : Nat) (v : Int32) (hkd : okKd σ) (hn : k < nS σ) (h6 : k < 60) (hN : isNumK (σ.1 1 k) = true) (ez : szS σ k = 1) (ez2 : σ.1 2 k = 1) (h3 : ¬ σ.1 1 k = 3) : Met l yX2_grow (tw_w yX2_grow cX2_grow 3 none) (tw_R 1 0 0) (tw_Pc D ad (wX b σ h Q) sz [.ref (ad (100 + k)), .int v]) (tw_Q D ad (wX b (stampLowF σ k) h Q) (tw_A ad (wX b σ h Q) sz) none) 0 0 (tw_A ad (wX b σ h Q) sz) := by
  refine tw_met (by decide) rfl (by simp [lg_sl, Value.category]) (fun p e s m below meth c ls S hK hr hlocks hnm hsz hI hl => ?_)
  have hx := S.1
  have hb := S.2.1
  have hl : lv_has ls 3 [(0, .ref (ad (100 + k))), (1, .int v)] := hl
  refine lv_iconst (v := 0) hx hb dX2_grow_0 (by decide) ?_
  refine lv_istore_n (lv' := [(2, .int 0), (0, .ref (ad (100 + k))), (1, .int v)]) hx hb dX2_grow_1 rfl hl (by decide) rfl (fun ls hl => ?_)
  refine lv_iload_n hx hb dX2_grow_2 rfl (lv_at hl 0 rfl) ?_
  refine lv_aload_n hx hb dX2_grow_3 rfl (lv_at hl 1 rfl) ?_
  refine f2_9_2 S hK hI (xI_num hn h6 hN) rfl (v' := .ref (ad (200 + k))) rfl dX2_grow_4 ?_
  refine tw_alen S hK hI (t := 200 + k) (xA_num hn h6 hN) rfl (v := 1) (by show nI (szS σ k) = _; rw [ez]; rfl) dX2_grow_7 ?_
  refine lv_icmp_ge (tgt := 54) hx hb dX2_grow_8 (by decide) (fun c1 => ?_) (fun c1 => ?_)
  · exact absurd c1 (by decide)
  · refine lv_aload_n hx hb dX2_grow_11 rfl (lv_at hl 1 rfl) ?_
    refine f2_9_2 S hK hI (xI_num hn h6 hN) rfl (v' := .ref (ad (200 + k))) rfl dX2_grow_12 ?_
    refine lv_iload_n hx hb dX2_grow_15 rfl (lv_at hl 0 rfl) ?_
    refine lv_aload_n hx hb dX2_grow_16 rfl (lv_at hl 1 rfl) ?_
    refine f2_32_2 S hK hI (xI_num hn h6 hN) rfl (v' := .int (σ.1 1 k)) rfl dX2_grow_17 ?_
    refine lv_topi (fun x2 e2 => ?_)
    refine lv_iconst (v := 3) hx hb dX2_grow_20 (by decide) ?_
    refine lv_icmp_ne (tgt := 35) hx hb dX2_grow_21 (by decide) (fun c3 => ?_) (fun c3 => ?_)
    · refine lv_aload_n hx hb dX2_grow_35 rfl (lv_at hl 1 rfl) ?_
      refine lv_aload_n hx hb dX2_grow_36 rfl (lv_at hl 1 rfl) ?_
      refine f2_9_2 S hK hI (xI_num hn h6 hN) rfl (v' := .ref (ad (200 + k))) rfl dX2_grow_37 ?_
      refine lv_iload_n hx hb dX2_grow_40 rfl (lv_at hl 0 rfl) ?_
      refine xl_num (k := k) (i := 0) S hK hI hn h6 hN (by show _ < szS σ k; rw [ez]; decide) (by decide) (by show szS σ k < _; omega) dX2_grow_41 ?_
      refine lv_topl (fun x4 e4 => ?_)
      refine lv_lconst (v := 1) hx hb dX2_grow_42 (by decide) ?_
      refine lv_ladd hx hb dX2_grow_43 ?_
      refine lv_topl (fun x5 e5 => ?_)
      refine tw_calll (tw_rV (As := [.long x5]) (rest := [.int 0, .ref (ad (200 + k))]) S hK hI kX2_15 (c_X2_fit l D ad _ _ _ _ _ _ _ hn h6 hN) (xI_num hn h6 hN) rfl rfl ⟨Nat.le_of_ble_eq_true rfl, Nat.le_of_ble_eq_true rfl⟩ ⟨Nat.le_of_ble_eq_true rfl, Nat.le_of_ble_eq_true rfl⟩ rfl hl.1 rfl (Nat.le_of_ble_eq_true rfl) dX2_grow_44) hI (fun H locs hI => ?_)
      refine lv_topl (fun x6 e6 => ?_)
      refine xs_num (k := k) (i := 0) S hK hI hn h6 hN (by show _ < szS σ k; rw [ez]; decide) (by decide) (by show szS σ k < _; omega) dX2_grow_47 (fun H locs hI => ?_)
      refine lv_iinc (v := 1) (lv' := [(2, .int 1), (0, .ref (ad (100 + k))), (1, .int v)]) hx hb dX2_grow_48 hl (k := 0) rfl (by decide) (by decide) rfl (fun ls hl => ?_)
      refine lv_goto (tgt := 2) hx hb dX2_grow_51 (by decide) ?_
      refine lv_iload_n hx hb dX2_grow_2 rfl (lv_at hl 0 rfl) ?_
      refine lv_aload_n hx hb dX2_grow_3 rfl (lv_at hl 1 rfl) ?_
      refine f2_9_2 S hK hI (xI_num hn h6 hN) rfl (v' := .ref (ad (200 + k))) rfl dX2_grow_4 ?_
      refine tw_alen S hK hI (t := 200 + k) (xA_num hn h6 hN) rfl (v := 1) (by show nI (szS σ k) = _; rw [ez]; rfl) dX2_grow_7 ?_
      refine lv_icmp_ge (tgt := 54) hx hb dX2_grow_8 (by decide) (fun c7 => ?_) (fun c7 => ?_)
      · subst e6
        subst e5
        subst e4
        subst e2
        rw [low_num hN, ez]
        simp only [bumpN, bump1, bumpF, if_neg h3, ← fit_k hkd hn hN]
        try rw [if_neg (show ¬ (1 : Int32) ≤ 0 from by decide)]
        try rw [if_pos (show (1 : Int32) ≤ 1 from by decide)]
        exact tw_vret S hr hlocks hI dX2_grow_54
      · exact absurd c7 (by decide)
    · exact (by subst e2; exact absurd c3 h3)

set_option maxHeartbeats 2000000 in
set_option maxRecDepth 100000 in
theorem c_X2_grow_2s (l : Launch) (D : tw_G) (ad : Nat → Nat) (b : tw_W) (σ : Sg) (h : Int32) (Q : Nat → Int32) (sz : Nat) (k : Nat) (v : Int32) (hkd : okKd σ) (hn : k < nS σ) (h6 : k < 60) (hN : isNumK (σ.1 1 k) = true) (ez : szS σ k = 2) (ez2 : σ.1 2 k = 2) (h3 : σ.1 1 k = 3) : Met l yX2_grow (tw_w yX2_grow cX2_grow 3 none) (tw_R 1 0 0) (tw_Pc D ad (wX b σ h Q) sz [.ref (ad (100 + k)), .int v]) (tw_Q D ad (wX b (stampLowF σ k) h Q) (tw_A ad (wX b σ h Q) sz) none) 0 0 (tw_A ad (wX b σ h Q) sz) := by
  refine tw_met (by decide) rfl (by simp [lg_sl, Value.category]) (fun p e s m below meth c ls S hK hr hlocks hnm hsz hI hl => ?_)
  have hx := S.1
  have hb := S.2.1
  have hl : lv_has ls 3 [(0, .ref (ad (100 + k))), (1, .int v)] := hl
  refine lv_iconst (v := 0) hx hb dX2_grow_0 (by decide) ?_
  refine lv_istore_n (lv' := [(2, .int 0), (0, .ref (ad (100 + k))), (1, .int v)]) hx hb dX2_grow_1 rfl hl (by decide) rfl (fun ls hl => ?_)
  refine lv_iload_n hx hb dX2_grow_2 rfl (lv_at hl 0 rfl) ?_
  refine lv_aload_n hx hb dX2_grow_3 rfl (lv_at hl 1 rfl) ?_
  refine f2_9_2 S hK hI (xI_num hn h6 hN) rfl (v' := .ref (ad (200 + k))) rfl dX2_grow_4 ?_
  refine tw_alen S hK hI (t := 200 + k) (xA_num hn h6 hN) rfl (v := 2) (by show nI (szS σ k) = _; rw [ez]; rfl) dX2_grow_7 ?_
  refine lv_icmp_ge (tgt := 54) hx hb dX2_grow_8 (by decide) (fun c1 => ?_) (fun c1 => ?_)
  · exact absurd c1 (by decide)
  · refine lv_aload_n hx hb dX2_grow_11 rfl (lv_at hl 1 rfl) ?_
    refine f2_9_2 S hK hI (xI_num hn h6 hN) rfl (v' := .ref (ad (200 + k))) rfl dX2_grow_12 ?_
    refine lv_iload_n hx hb dX2_grow_15 rfl (lv_at hl 0 rfl) ?_
    refine lv_aload_n hx hb dX2_grow_16 rfl (lv_at hl 1 rfl) ?_
    refine f2_32_2 S hK hI (xI_num hn h6 hN) rfl (v' := .int (σ.1 1 k)) rfl dX2_grow_17 ?_
    refine lv_topi (fun x2 e2 => ?_)
    refine lv_iconst (v := 3) hx hb dX2_grow_20 (by decide) ?_
    refine lv_icmp_ne (tgt := 35) hx hb dX2_grow_21 (by decide) (fun c3 => ?_) (fun c3 => ?_)
    · exact (by subst e2; exact absurd h3 c3)
    · refine lv_lconst (v := 1) hx hb dX2_grow_24 (by decide) ?_
      refine lv_aload_n hx hb dX2_grow_25 rfl (lv_at hl 1 rfl) ?_
      refine f2_9_2 S hK hI (xI_num hn h6 hN) rfl (v' := .ref (ad (200 + k))) rfl dX2_grow_26 ?_
      refine lv_iload_n hx hb dX2_grow_29 rfl (lv_at hl 0 rfl) ?_
      refine xl_num (k := k) (i := 0) S hK hI hn h6 hN (by show _ < szS σ k; rw [ez]; decide) (by decide) (by show szS σ k < _; omega) dX2_grow_30 ?_
      refine lv_topl (fun x4 e4 => ?_)
      refine lv_lsub hx hb dX2_grow_31 ?_
      refine lv_topl (fun x5 e5 => ?_)
      refine lv_goto (tgt := 47) hx hb dX2_grow_32 (by decide) ?_
      refine xs_num (k := k) (i := 0) S hK hI hn h6 hN (by show _ < szS σ k; rw [ez]; decide) (by decide) (by show szS σ k < _; omega) dX2_grow_47 (fun H locs hI => ?_)
      refine lv_iinc (v := 1) (lv' := [(2, .int 1), (0, .ref (ad (100 + k))), (1, .int v)]) hx hb dX2_grow_48 hl (k := 0) rfl (by decide) (by decide) rfl (fun ls hl => ?_)
      refine lv_goto (tgt := 2) hx hb dX2_grow_51 (by decide) ?_
      refine lv_iload_n hx hb dX2_grow_2 rfl (lv_at hl 0 rfl) ?_
      refine lv_aload_n hx hb dX2_grow_3 rfl (lv_at hl 1 rfl) ?_
      refine f2_9_2 S hK hI (xI_num hn h6 hN) rfl (v' := .ref (ad (200 + k))) rfl dX2_grow_4 ?_
      refine tw_alen S hK hI (t := 200 + k) (xA_num hn h6 hN) rfl (v := 2) (by show nI (szS σ k) = _; rw [ez]; rfl) dX2_grow_7 ?_
      refine lv_icmp_ge (tgt := 54) hx hb dX2_grow_8 (by decide) (fun c6 => ?_) (fun c6 => ?_)
      · exact absurd c6 (by decide)
      · refine lv_aload_n hx hb dX2_grow_11 rfl (lv_at hl 1 rfl) ?_
        refine f2_9_2 S hK hI (xI_num hn h6 hN) rfl (v' := .ref (ad (200 + k))) rfl dX2_grow_12 ?_
        refine lv_iload_n hx hb dX2_grow_15 rfl (lv_at hl 0 rfl) ?_
        refine lv_aload_n hx hb dX2_grow_16 rfl (lv_at hl 1 rfl) ?_
        refine f2_32_2 S hK hI (xI_num hn h6 hN) rfl (v' := .int (σ.1 1 k)) rfl dX2_grow_17 ?_
        refine lv_topi (fun x7 e7 => ?_)
        refine lv_iconst (v := 3) hx hb dX2_grow_20 (by decide) ?_
        refine lv_icmp_ne (tgt := 35) hx hb dX2_grow_21 (by decide) (fun c8 => ?_) (fun c8 => ?_)
        · exact (by subst e7; subst e5; subst e4; subst e2; exact absurd h3 c8)
        · refine lv_lconst (v := 1) hx hb dX2_grow_24 (by decide) ?_
          refine lv_aload_n hx hb dX2_grow_25 rfl (lv_at hl 1 rfl) ?_
          refine f2_9_2 S hK hI (xI_num hn h6 hN) rfl (v' := .ref (ad (200 + k))) rfl dX2_grow_26 ?_
          refine lv_iload_n hx hb dX2_grow_29 rfl (lv_at hl 0 rfl) ?_
          refine xl_num (k := k) (i := 1) S hK hI hn h6 hN (by show _ < szS σ k; rw [ez]; decide) (by decide) (by show szS σ k < _; omega) dX2_grow_30 ?_
          refine lv_topl (fun x9 e9 => ?_)
          refine lv_lsub hx hb dX2_grow_31 ?_
          refine lv_topl (fun x10 e10 => ?_)
          refine lv_goto (tgt := 47) hx hb dX2_grow_32 (by decide) ?_
          refine xs_num (k := k) (i := 1) S hK hI hn h6 hN (by show _ < szS σ k; rw [ez]; decide) (by decide) (by show szS σ k < _; omega) dX2_grow_47 (fun H locs hI => ?_)
          refine lv_iinc (v := 2) (lv' := [(2, .int 2), (0, .ref (ad (100 + k))), (1, .int v)]) hx hb dX2_grow_48 hl (k := 0) rfl (by decide) (by decide) rfl (fun ls hl => ?_)
          refine lv_goto (tgt := 2) hx hb dX2_grow_51 (by decide) ?_
          refine lv_iload_n hx hb dX2_grow_2 rfl (lv_at hl 0 rfl) ?_
          refine lv_aload_n hx hb dX2_grow_3 rfl (lv_at hl 1 rfl) ?_
          refine f2_9_2 S hK hI (xI_num hn h6 hN) rfl (v' := .ref (ad (200 + k))) rfl dX2_grow_4 ?_
          refine tw_alen S hK hI (t := 200 + k) (xA_num hn h6 hN) rfl (v := 2) (by show nI (szS σ k) = _; rw [ez]; rfl) dX2_grow_7 ?_
          refine lv_icmp_ge (tgt := 54) hx hb dX2_grow_8 (by decide) (fun c11 => ?_) (fun c11 => ?_)
          · subst e10
            subst e9
            subst e7
            subst e5
            subst e4
            subst e2
            rw [low_num hN, ez]
            simp only [bumpN, bump1, bumpF, if_pos h3]
            try rw [if_neg (show ¬ (2 : Int32) ≤ 0 from by decide)]
            try rw [if_neg (show ¬ (2 : Int32) ≤ 1 from by decide)]
            try rw [if_pos (show (2 : Int32) ≤ 2 from by decide)]
            exact tw_vret S hr hlocks hI dX2_grow_54
          · exact absurd c11 (by decide)

set_option maxHeartbeats 2000000 in
set_option maxRecDepth 100000 in
theorem c_X2_grow_2n (l : Launch) (D : tw_G) (ad : Nat → Nat) (b : tw_W) (σ : Sg) (h : Int32) (Q : Nat → Int32) (sz : Nat) (k : Nat) (v : Int32) (hkd : okKd σ) (hn : k < nS σ) (h6 : k < 60) (hN : isNumK (σ.1 1 k) = true) (ez : szS σ k = 2) (ez2 : σ.1 2 k = 2) (h3 : ¬ σ.1 1 k = 3) : Met l yX2_grow (tw_w yX2_grow cX2_grow 3 none) (tw_R 1 0 0) (tw_Pc D ad (wX b σ h Q) sz [.ref (ad (100 + k)), .int v]) (tw_Q D ad (wX b (stampLowF σ k) h Q) (tw_A ad (wX b σ h Q) sz) none) 0 0 (tw_A ad (wX b σ h Q) sz) := by
  refine tw_met (by decide) rfl (by simp [lg_sl, Value.category]) (fun p e s m below meth c ls S hK hr hlocks hnm hsz hI hl => ?_)
  have hx := S.1
  have hb := S.2.1
  have hl : lv_has ls 3 [(0, .ref (ad (100 + k))), (1, .int v)] := hl
  refine lv_iconst (v := 0) hx hb dX2_grow_0 (by decide) ?_
  refine lv_istore_n (lv' := [(2, .int 0), (0, .ref (ad (100 + k))), (1, .int v)]) hx hb dX2_grow_1 rfl hl (by decide) rfl (fun ls hl => ?_)
  refine lv_iload_n hx hb dX2_grow_2 rfl (lv_at hl 0 rfl) ?_
  refine lv_aload_n hx hb dX2_grow_3 rfl (lv_at hl 1 rfl) ?_
  refine f2_9_2 S hK hI (xI_num hn h6 hN) rfl (v' := .ref (ad (200 + k))) rfl dX2_grow_4 ?_
  refine tw_alen S hK hI (t := 200 + k) (xA_num hn h6 hN) rfl (v := 2) (by show nI (szS σ k) = _; rw [ez]; rfl) dX2_grow_7 ?_
  refine lv_icmp_ge (tgt := 54) hx hb dX2_grow_8 (by decide) (fun c1 => ?_) (fun c1 => ?_)
  · exact absurd c1 (by decide)
  · refine lv_aload_n hx hb dX2_grow_11 rfl (lv_at hl 1 rfl) ?_
    refine f2_9_2 S hK hI (xI_num hn h6 hN) rfl (v' := .ref (ad (200 + k))) rfl dX2_grow_12 ?_
    refine lv_iload_n hx hb dX2_grow_15 rfl (lv_at hl 0 rfl) ?_
    refine lv_aload_n hx hb dX2_grow_16 rfl (lv_at hl 1 rfl) ?_
    refine f2_32_2 S hK hI (xI_num hn h6 hN) rfl (v' := .int (σ.1 1 k)) rfl dX2_grow_17 ?_
    refine lv_topi (fun x2 e2 => ?_)
    refine lv_iconst (v := 3) hx hb dX2_grow_20 (by decide) ?_
    refine lv_icmp_ne (tgt := 35) hx hb dX2_grow_21 (by decide) (fun c3 => ?_) (fun c3 => ?_)
    · refine lv_aload_n hx hb dX2_grow_35 rfl (lv_at hl 1 rfl) ?_
      refine lv_aload_n hx hb dX2_grow_36 rfl (lv_at hl 1 rfl) ?_
      refine f2_9_2 S hK hI (xI_num hn h6 hN) rfl (v' := .ref (ad (200 + k))) rfl dX2_grow_37 ?_
      refine lv_iload_n hx hb dX2_grow_40 rfl (lv_at hl 0 rfl) ?_
      refine xl_num (k := k) (i := 0) S hK hI hn h6 hN (by show _ < szS σ k; rw [ez]; decide) (by decide) (by show szS σ k < _; omega) dX2_grow_41 ?_
      refine lv_topl (fun x4 e4 => ?_)
      refine lv_lconst (v := 1) hx hb dX2_grow_42 (by decide) ?_
      refine lv_ladd hx hb dX2_grow_43 ?_
      refine lv_topl (fun x5 e5 => ?_)
      refine tw_calll (tw_rV (As := [.long x5]) (rest := [.int 0, .ref (ad (200 + k))]) S hK hI kX2_15 (c_X2_fit l D ad _ _ _ _ _ _ _ hn h6 hN) (xI_num hn h6 hN) rfl rfl ⟨Nat.le_of_ble_eq_true rfl, Nat.le_of_ble_eq_true rfl⟩ ⟨Nat.le_of_ble_eq_true rfl, Nat.le_of_ble_eq_true rfl⟩ rfl hl.1 rfl (Nat.le_of_ble_eq_true rfl) dX2_grow_44) hI (fun H locs hI => ?_)
      refine lv_topl (fun x6 e6 => ?_)
      refine xs_num (k := k) (i := 0) S hK hI hn h6 hN (by show _ < szS σ k; rw [ez]; decide) (by decide) (by show szS σ k < _; omega) dX2_grow_47 (fun H locs hI => ?_)
      refine lv_iinc (v := 1) (lv' := [(2, .int 1), (0, .ref (ad (100 + k))), (1, .int v)]) hx hb dX2_grow_48 hl (k := 0) rfl (by decide) (by decide) rfl (fun ls hl => ?_)
      refine lv_goto (tgt := 2) hx hb dX2_grow_51 (by decide) ?_
      refine lv_iload_n hx hb dX2_grow_2 rfl (lv_at hl 0 rfl) ?_
      refine lv_aload_n hx hb dX2_grow_3 rfl (lv_at hl 1 rfl) ?_
      refine f2_9_2 S hK hI (xI_num hn h6 hN) rfl (v' := .ref (ad (200 + k))) rfl dX2_grow_4 ?_
      refine tw_alen S hK hI (t := 200 + k) (xA_num hn h6 hN) rfl (v := 2) (by show nI (szS σ k) = _; rw [ez]; rfl) dX2_grow_7 ?_
      refine lv_icmp_ge (tgt := 54) hx hb dX2_grow_8 (by decide) (fun c7 => ?_) (fun c7 => ?_)
      · exact absurd c7 (by decide)
      · refine lv_aload_n hx hb dX2_grow_11 rfl (lv_at hl 1 rfl) ?_
        refine f2_9_2 S hK hI (xI_num hn h6 hN) rfl (v' := .ref (ad (200 + k))) rfl dX2_grow_12 ?_
        refine lv_iload_n hx hb dX2_grow_15 rfl (lv_at hl 0 rfl) ?_
        refine lv_aload_n hx hb dX2_grow_16 rfl (lv_at hl 1 rfl) ?_
        refine f2_32_2 S hK hI (xI_num hn h6 hN) rfl (v' := .int (σ.1 1 k)) rfl dX2_grow_17 ?_
        refine lv_topi (fun x8 e8 => ?_)
        refine lv_iconst (v := 3) hx hb dX2_grow_20 (by decide) ?_
        refine lv_icmp_ne (tgt := 35) hx hb dX2_grow_21 (by decide) (fun c9 => ?_) (fun c9 => ?_)
        · refine lv_aload_n hx hb dX2_grow_35 rfl (lv_at hl 1 rfl) ?_
          refine lv_aload_n hx hb dX2_grow_36 rfl (lv_at hl 1 rfl) ?_
          refine f2_9_2 S hK hI (xI_num hn h6 hN) rfl (v' := .ref (ad (200 + k))) rfl dX2_grow_37 ?_
          refine lv_iload_n hx hb dX2_grow_40 rfl (lv_at hl 0 rfl) ?_
          refine xl_num (k := k) (i := 1) S hK hI hn h6 hN (by show _ < szS σ k; rw [ez]; decide) (by decide) (by show szS σ k < _; omega) dX2_grow_41 ?_
          refine lv_topl (fun x10 e10 => ?_)
          refine lv_lconst (v := 1) hx hb dX2_grow_42 (by decide) ?_
          refine lv_ladd hx hb dX2_grow_43 ?_
          refine lv_topl (fun x11 e11 => ?_)
          refine tw_calll (tw_rV (As := [.long x11]) (rest := [.int 1, .ref (ad (200 + k))]) S hK hI kX2_15 (c_X2_fit l D ad _ _ _ _ _ _ _ hn h6 hN) (xI_num hn h6 hN) rfl rfl ⟨Nat.le_of_ble_eq_true rfl, Nat.le_of_ble_eq_true rfl⟩ ⟨Nat.le_of_ble_eq_true rfl, Nat.le_of_ble_eq_true rfl⟩ rfl hl.1 rfl (Nat.le_of_ble_eq_true rfl) dX2_grow_44) hI (fun H locs hI => ?_)
          refine lv_topl (fun x12 e12 => ?_)
          refine xs_num (k := k) (i := 1) S hK hI hn h6 hN (by show _ < szS σ k; rw [ez]; decide) (by decide) (by show szS σ k < _; omega) dX2_grow_47 (fun H locs hI => ?_)
          refine lv_iinc (v := 2) (lv' := [(2, .int 2), (0, .ref (ad (100 + k))), (1, .int v)]) hx hb dX2_grow_48 hl (k := 0) rfl (by decide) (by decide) rfl (fun ls hl => ?_)
          refine lv_goto (tgt := 2) hx hb dX2_grow_51 (by decide) ?_
          refine lv_iload_n hx hb dX2_grow_2 rfl (lv_at hl 0 rfl) ?_
          refine lv_aload_n hx hb dX2_grow_3 rfl (lv_at hl 1 rfl) ?_
          refine f2_9_2 S hK hI (xI_num hn h6 hN) rfl (v' := .ref (ad (200 + k))) rfl dX2_grow_4 ?_
          refine tw_alen S hK hI (t := 200 + k) (xA_num hn h6 hN) rfl (v := 2) (by show nI (szS σ k) = _; rw [ez]; rfl) dX2_grow_7 ?_
          refine lv_icmp_ge (tgt := 54) hx hb dX2_grow_8 (by decide) (fun c13 => ?_) (fun c13 => ?_)
          · subst e12
            subst e11
            subst e10
            subst e8
            subst e6
            subst e5
            subst e4
            subst e2
            rw [low_num hN, ez]
            simp only [bumpN, bump1, bumpF, if_neg h3, ← fit_k hkd hn hN]
            try rw [if_neg (show ¬ (2 : Int32) ≤ 0 from by decide)]
            try rw [if_neg (show ¬ (2 : Int32) ≤ 1 from by decide)]
            try rw [if_pos (show (2 : Int32) ≤ 2 from by decide)]
            exact tw_vret S hr hlocks hI dX2_grow_54
          · exact absurd c13 (by decide)
        · exact (by subst e8; subst e6; subst e5; subst e4; subst e2; exact absurd c9 h3)
    · exact (by subst e2; exact absurd c3 h3)

set_option maxHeartbeats 2000000 in
set_option maxRecDepth 100000 in
theorem c_X2_grow_3s (l : Launch) (D : tw_G) (ad : Nat → Nat) (b : tw_W) (σ : Sg) (h : Int32) (Q : Nat → Int32) (sz : Nat) (k : Nat) (v : Int32) (hkd : okKd σ) (hn : k < nS σ) (h6 : k < 60) (hN : isNumK (σ.1 1 k) = true) (ez : szS σ k = 3) (ez2 : σ.1 2 k = 3) (h3 : σ.1 1 k = 3) : Met l yX2_grow (tw_w yX2_grow cX2_grow 3 none) (tw_R 1 0 0) (tw_Pc D ad (wX b σ h Q) sz [.ref (ad (100 + k)), .int v]) (tw_Q D ad (wX b (stampLowF σ k) h Q) (tw_A ad (wX b σ h Q) sz) none) 0 0 (tw_A ad (wX b σ h Q) sz) := by
  refine tw_met (by decide) rfl (by simp [lg_sl, Value.category]) (fun p e s m below meth c ls S hK hr hlocks hnm hsz hI hl => ?_)
  have hx := S.1
  have hb := S.2.1
  have hl : lv_has ls 3 [(0, .ref (ad (100 + k))), (1, .int v)] := hl
  refine lv_iconst (v := 0) hx hb dX2_grow_0 (by decide) ?_
  refine lv_istore_n (lv' := [(2, .int 0), (0, .ref (ad (100 + k))), (1, .int v)]) hx hb dX2_grow_1 rfl hl (by decide) rfl (fun ls hl => ?_)
  refine lv_iload_n hx hb dX2_grow_2 rfl (lv_at hl 0 rfl) ?_
  refine lv_aload_n hx hb dX2_grow_3 rfl (lv_at hl 1 rfl) ?_
  refine f2_9_2 S hK hI (xI_num hn h6 hN) rfl (v' := .ref (ad (200 + k))) rfl dX2_grow_4 ?_
  refine tw_alen S hK hI (t := 200 + k) (xA_num hn h6 hN) rfl (v := 3) (by show nI (szS σ k) = _; rw [ez]; rfl) dX2_grow_7 ?_
  refine lv_icmp_ge (tgt := 54) hx hb dX2_grow_8 (by decide) (fun c1 => ?_) (fun c1 => ?_)
  · exact absurd c1 (by decide)
  · refine lv_aload_n hx hb dX2_grow_11 rfl (lv_at hl 1 rfl) ?_
    refine f2_9_2 S hK hI (xI_num hn h6 hN) rfl (v' := .ref (ad (200 + k))) rfl dX2_grow_12 ?_
    refine lv_iload_n hx hb dX2_grow_15 rfl (lv_at hl 0 rfl) ?_
    refine lv_aload_n hx hb dX2_grow_16 rfl (lv_at hl 1 rfl) ?_
    refine f2_32_2 S hK hI (xI_num hn h6 hN) rfl (v' := .int (σ.1 1 k)) rfl dX2_grow_17 ?_
    refine lv_topi (fun x2 e2 => ?_)
    refine lv_iconst (v := 3) hx hb dX2_grow_20 (by decide) ?_
    refine lv_icmp_ne (tgt := 35) hx hb dX2_grow_21 (by decide) (fun c3 => ?_) (fun c3 => ?_)
    · exact (by subst e2; exact absurd h3 c3)
    · refine lv_lconst (v := 1) hx hb dX2_grow_24 (by decide) ?_
      refine lv_aload_n hx hb dX2_grow_25 rfl (lv_at hl 1 rfl) ?_
      refine f2_9_2 S hK hI (xI_num hn h6 hN) rfl (v' := .ref (ad (200 + k))) rfl dX2_grow_26 ?_
      refine lv_iload_n hx hb dX2_grow_29 rfl (lv_at hl 0 rfl) ?_
      refine xl_num (k := k) (i := 0) S hK hI hn h6 hN (by show _ < szS σ k; rw [ez]; decide) (by decide) (by show szS σ k < _; omega) dX2_grow_30 ?_
      refine lv_topl (fun x4 e4 => ?_)
      refine lv_lsub hx hb dX2_grow_31 ?_
      refine lv_topl (fun x5 e5 => ?_)
      refine lv_goto (tgt := 47) hx hb dX2_grow_32 (by decide) ?_
      refine xs_num (k := k) (i := 0) S hK hI hn h6 hN (by show _ < szS σ k; rw [ez]; decide) (by decide) (by show szS σ k < _; omega) dX2_grow_47 (fun H locs hI => ?_)
      refine lv_iinc (v := 1) (lv' := [(2, .int 1), (0, .ref (ad (100 + k))), (1, .int v)]) hx hb dX2_grow_48 hl (k := 0) rfl (by decide) (by decide) rfl (fun ls hl => ?_)
      refine lv_goto (tgt := 2) hx hb dX2_grow_51 (by decide) ?_
      refine lv_iload_n hx hb dX2_grow_2 rfl (lv_at hl 0 rfl) ?_
      refine lv_aload_n hx hb dX2_grow_3 rfl (lv_at hl 1 rfl) ?_
      refine f2_9_2 S hK hI (xI_num hn h6 hN) rfl (v' := .ref (ad (200 + k))) rfl dX2_grow_4 ?_
      refine tw_alen S hK hI (t := 200 + k) (xA_num hn h6 hN) rfl (v := 3) (by show nI (szS σ k) = _; rw [ez]; rfl) dX2_grow_7 ?_
      refine lv_icmp_ge (tgt := 54) hx hb dX2_grow_8 (by decide) (fun c6 => ?_) (fun c6 => ?_)
      · exact absurd c6 (by decide)
      · refine lv_aload_n hx hb dX2_grow_11 rfl (lv_at hl 1 rfl) ?_
        refine f2_9_2 S hK hI (xI_num hn h6 hN) rfl (v' := .ref (ad (200 + k))) rfl dX2_grow_12 ?_
        refine lv_iload_n hx hb dX2_grow_15 rfl (lv_at hl 0 rfl) ?_
        refine lv_aload_n hx hb dX2_grow_16 rfl (lv_at hl 1 rfl) ?_
        refine f2_32_2 S hK hI (xI_num hn h6 hN) rfl (v' := .int (σ.1 1 k)) rfl dX2_grow_17 ?_
        refine lv_topi (fun x7 e7 => ?_)
        refine lv_iconst (v := 3) hx hb dX2_grow_20 (by decide) ?_
        refine lv_icmp_ne (tgt := 35) hx hb dX2_grow_21 (by decide) (fun c8 => ?_) (fun c8 => ?_)
        · exact (by subst e7; subst e5; subst e4; subst e2; exact absurd h3 c8)
        · refine lv_lconst (v := 1) hx hb dX2_grow_24 (by decide) ?_
          refine lv_aload_n hx hb dX2_grow_25 rfl (lv_at hl 1 rfl) ?_
          refine f2_9_2 S hK hI (xI_num hn h6 hN) rfl (v' := .ref (ad (200 + k))) rfl dX2_grow_26 ?_
          refine lv_iload_n hx hb dX2_grow_29 rfl (lv_at hl 0 rfl) ?_
          refine xl_num (k := k) (i := 1) S hK hI hn h6 hN (by show _ < szS σ k; rw [ez]; decide) (by decide) (by show szS σ k < _; omega) dX2_grow_30 ?_
          refine lv_topl (fun x9 e9 => ?_)
          refine lv_lsub hx hb dX2_grow_31 ?_
          refine lv_topl (fun x10 e10 => ?_)
          refine lv_goto (tgt := 47) hx hb dX2_grow_32 (by decide) ?_
          refine xs_num (k := k) (i := 1) S hK hI hn h6 hN (by show _ < szS σ k; rw [ez]; decide) (by decide) (by show szS σ k < _; omega) dX2_grow_47 (fun H locs hI => ?_)
          refine lv_iinc (v := 2) (lv' := [(2, .int 2), (0, .ref (ad (100 + k))), (1, .int v)]) hx hb dX2_grow_48 hl (k := 0) rfl (by decide) (by decide) rfl (fun ls hl => ?_)
          refine lv_goto (tgt := 2) hx hb dX2_grow_51 (by decide) ?_
          refine lv_iload_n hx hb dX2_grow_2 rfl (lv_at hl 0 rfl) ?_
          refine lv_aload_n hx hb dX2_grow_3 rfl (lv_at hl 1 rfl) ?_
          refine f2_9_2 S hK hI (xI_num hn h6 hN) rfl (v' := .ref (ad (200 + k))) rfl dX2_grow_4 ?_
          refine tw_alen S hK hI (t := 200 + k) (xA_num hn h6 hN) rfl (v := 3) (by show nI (szS σ k) = _; rw [ez]; rfl) dX2_grow_7 ?_
          refine lv_icmp_ge (tgt := 54) hx hb dX2_grow_8 (by decide) (fun c11 => ?_) (fun c11 => ?_)
          · exact absurd c11 (by decide)
          · refine lv_aload_n hx hb dX2_grow_11 rfl (lv_at hl 1 rfl) ?_
            refine f2_9_2 S hK hI (xI_num hn h6 hN) rfl (v' := .ref (ad (200 + k))) rfl dX2_grow_12 ?_
            refine lv_iload_n hx hb dX2_grow_15 rfl (lv_at hl 0 rfl) ?_
            refine lv_aload_n hx hb dX2_grow_16 rfl (lv_at hl 1 rfl) ?_
            refine f2_32_2 S hK hI (xI_num hn h6 hN) rfl (v' := .int (σ.1 1 k)) rfl dX2_grow_17 ?_
            refine lv_topi (fun x12 e12 => ?_)
            refine lv_iconst (v := 3) hx hb dX2_grow_20 (by decide) ?_
            refine lv_icmp_ne (tgt := 35) hx hb dX2_grow_21 (by decide) (fun c13 => ?_) (fun c13 => ?_)
            · exact (by subst e12; subst e10; subst e9; subst e7; subst e5; subst e4; subst e2; exact absurd h3 c13)
            · refine lv_lconst (v := 1) hx hb dX2_grow_24 (by decide) ?_
              refine lv_aload_n hx hb dX2_grow_25 rfl (lv_at hl 1 rfl) ?_
              refine f2_9_2 S hK hI (xI_num hn h6 hN) rfl (v' := .ref (ad (200 + k))) rfl dX2_grow_26 ?_
              refine lv_iload_n hx hb dX2_grow_29 rfl (lv_at hl 0 rfl) ?_
              refine xl_num (k := k) (i := 2) S hK hI hn h6 hN (by show _ < szS σ k; rw [ez]; decide) (by decide) (by show szS σ k < _; omega) dX2_grow_30 ?_
              refine lv_topl (fun x14 e14 => ?_)
              refine lv_lsub hx hb dX2_grow_31 ?_
              refine lv_topl (fun x15 e15 => ?_)
              refine lv_goto (tgt := 47) hx hb dX2_grow_32 (by decide) ?_
              refine xs_num (k := k) (i := 2) S hK hI hn h6 hN (by show _ < szS σ k; rw [ez]; decide) (by decide) (by show szS σ k < _; omega) dX2_grow_47 (fun H locs hI => ?_)
              refine lv_iinc (v := 3) (lv' := [(2, .int 3), (0, .ref (ad (100 + k))), (1, .int v)]) hx hb dX2_grow_48 hl (k := 0) rfl (by decide) (by decide) rfl (fun ls hl => ?_)
              refine lv_goto (tgt := 2) hx hb dX2_grow_51 (by decide) ?_
              refine lv_iload_n hx hb dX2_grow_2 rfl (lv_at hl 0 rfl) ?_
              refine lv_aload_n hx hb dX2_grow_3 rfl (lv_at hl 1 rfl) ?_
              refine f2_9_2 S hK hI (xI_num hn h6 hN) rfl (v' := .ref (ad (200 + k))) rfl dX2_grow_4 ?_
              refine tw_alen S hK hI (t := 200 + k) (xA_num hn h6 hN) rfl (v := 3) (by show nI (szS σ k) = _; rw [ez]; rfl) dX2_grow_7 ?_
              refine lv_icmp_ge (tgt := 54) hx hb dX2_grow_8 (by decide) (fun c16 => ?_) (fun c16 => ?_)
              · subst e15
                subst e14
                subst e12
                subst e10
                subst e9
                subst e7
                subst e5
                subst e4
                subst e2
                rw [low_num hN, ez]
                simp only [bumpN, bump1, bumpF, if_pos h3]
                try rw [if_neg (show ¬ (3 : Int32) ≤ 0 from by decide)]
                try rw [if_neg (show ¬ (3 : Int32) ≤ 1 from by decide)]
                try rw [if_neg (show ¬ (3 : Int32) ≤ 2 from by decide)]
                try rw [if_pos (show (3 : Int32) ≤ 3 from by decide)]
                exact tw_vret S hr hlocks hI dX2_grow_54
              · exact absurd c16 (by decide)

set_option maxHeartbeats 2000000 in
set_option maxRecDepth 100000 in
theorem c_X2_grow_3n (l : Launch) (D : tw_G) (ad : Nat → Nat) (b : tw_W) (σ : Sg) (h : Int32) (Q : Nat → Int32) (sz : Nat) (k : Nat) (v : Int32) (hkd : okKd σ) (hn : k < nS σ) (h6 : k < 60) (hN : isNumK (σ.1 1 k) = true) (ez : szS σ k = 3) (ez2 : σ.1 2 k = 3) (h3 : ¬ σ.1 1 k = 3) : Met l yX2_grow (tw_w yX2_grow cX2_grow 3 none) (tw_R 1 0 0) (tw_Pc D ad (wX b σ h Q) sz [.ref (ad (100 + k)), .int v]) (tw_Q D ad (wX b (stampLowF σ k) h Q) (tw_A ad (wX b σ h Q) sz) none) 0 0 (tw_A ad (wX b σ h Q) sz) := by
  refine tw_met (by decide) rfl (by simp [lg_sl, Value.category]) (fun p e s m below meth c ls S hK hr hlocks hnm hsz hI hl => ?_)
  have hx := S.1
  have hb := S.2.1
  have hl : lv_has ls 3 [(0, .ref (ad (100 + k))), (1, .int v)] := hl
  refine lv_iconst (v := 0) hx hb dX2_grow_0 (by decide) ?_
  refine lv_istore_n (lv' := [(2, .int 0), (0, .ref (ad (100 + k))), (1, .int v)]) hx hb dX2_grow_1 rfl hl (by decide) rfl (fun ls hl => ?_)
  refine lv_iload_n hx hb dX2_grow_2 rfl (lv_at hl 0 rfl) ?_
  refine lv_aload_n hx hb dX2_grow_3 rfl (lv_at hl 1 rfl) ?_
  refine f2_9_2 S hK hI (xI_num hn h6 hN) rfl (v' := .ref (ad (200 + k))) rfl dX2_grow_4 ?_
  refine tw_alen S hK hI (t := 200 + k) (xA_num hn h6 hN) rfl (v := 3) (by show nI (szS σ k) = _; rw [ez]; rfl) dX2_grow_7 ?_
  refine lv_icmp_ge (tgt := 54) hx hb dX2_grow_8 (by decide) (fun c1 => ?_) (fun c1 => ?_)
  · exact absurd c1 (by decide)
  · refine lv_aload_n hx hb dX2_grow_11 rfl (lv_at hl 1 rfl) ?_
    refine f2_9_2 S hK hI (xI_num hn h6 hN) rfl (v' := .ref (ad (200 + k))) rfl dX2_grow_12 ?_
    refine lv_iload_n hx hb dX2_grow_15 rfl (lv_at hl 0 rfl) ?_
    refine lv_aload_n hx hb dX2_grow_16 rfl (lv_at hl 1 rfl) ?_
    refine f2_32_2 S hK hI (xI_num hn h6 hN) rfl (v' := .int (σ.1 1 k)) rfl dX2_grow_17 ?_
    refine lv_topi (fun x2 e2 => ?_)
    refine lv_iconst (v := 3) hx hb dX2_grow_20 (by decide) ?_
    refine lv_icmp_ne (tgt := 35) hx hb dX2_grow_21 (by decide) (fun c3 => ?_) (fun c3 => ?_)
    · refine lv_aload_n hx hb dX2_grow_35 rfl (lv_at hl 1 rfl) ?_
      refine lv_aload_n hx hb dX2_grow_36 rfl (lv_at hl 1 rfl) ?_
      refine f2_9_2 S hK hI (xI_num hn h6 hN) rfl (v' := .ref (ad (200 + k))) rfl dX2_grow_37 ?_
      refine lv_iload_n hx hb dX2_grow_40 rfl (lv_at hl 0 rfl) ?_
      refine xl_num (k := k) (i := 0) S hK hI hn h6 hN (by show _ < szS σ k; rw [ez]; decide) (by decide) (by show szS σ k < _; omega) dX2_grow_41 ?_
      refine lv_topl (fun x4 e4 => ?_)
      refine lv_lconst (v := 1) hx hb dX2_grow_42 (by decide) ?_
      refine lv_ladd hx hb dX2_grow_43 ?_
      refine lv_topl (fun x5 e5 => ?_)
      refine tw_calll (tw_rV (As := [.long x5]) (rest := [.int 0, .ref (ad (200 + k))]) S hK hI kX2_15 (c_X2_fit l D ad _ _ _ _ _ _ _ hn h6 hN) (xI_num hn h6 hN) rfl rfl ⟨Nat.le_of_ble_eq_true rfl, Nat.le_of_ble_eq_true rfl⟩ ⟨Nat.le_of_ble_eq_true rfl, Nat.le_of_ble_eq_true rfl⟩ rfl hl.1 rfl (Nat.le_of_ble_eq_true rfl) dX2_grow_44) hI (fun H locs hI => ?_)
      refine lv_topl (fun x6 e6 => ?_)
      refine xs_num (k := k) (i := 0) S hK hI hn h6 hN (by show _ < szS σ k; rw [ez]; decide) (by decide) (by show szS σ k < _; omega) dX2_grow_47 (fun H locs hI => ?_)
      refine lv_iinc (v := 1) (lv' := [(2, .int 1), (0, .ref (ad (100 + k))), (1, .int v)]) hx hb dX2_grow_48 hl (k := 0) rfl (by decide) (by decide) rfl (fun ls hl => ?_)
      refine lv_goto (tgt := 2) hx hb dX2_grow_51 (by decide) ?_
      refine lv_iload_n hx hb dX2_grow_2 rfl (lv_at hl 0 rfl) ?_
      refine lv_aload_n hx hb dX2_grow_3 rfl (lv_at hl 1 rfl) ?_
      refine f2_9_2 S hK hI (xI_num hn h6 hN) rfl (v' := .ref (ad (200 + k))) rfl dX2_grow_4 ?_
      refine tw_alen S hK hI (t := 200 + k) (xA_num hn h6 hN) rfl (v := 3) (by show nI (szS σ k) = _; rw [ez]; rfl) dX2_grow_7 ?_
      refine lv_icmp_ge (tgt := 54) hx hb dX2_grow_8 (by decide) (fun c7 => ?_) (fun c7 => ?_)
      · exact absurd c7 (by decide)
      · refine lv_aload_n hx hb dX2_grow_11 rfl (lv_at hl 1 rfl) ?_
        refine f2_9_2 S hK hI (xI_num hn h6 hN) rfl (v' := .ref (ad (200 + k))) rfl dX2_grow_12 ?_
        refine lv_iload_n hx hb dX2_grow_15 rfl (lv_at hl 0 rfl) ?_
        refine lv_aload_n hx hb dX2_grow_16 rfl (lv_at hl 1 rfl) ?_
        refine f2_32_2 S hK hI (xI_num hn h6 hN) rfl (v' := .int (σ.1 1 k)) rfl dX2_grow_17 ?_
        refine lv_topi (fun x8 e8 => ?_)
        refine lv_iconst (v := 3) hx hb dX2_grow_20 (by decide) ?_
        refine lv_icmp_ne (tgt := 35) hx hb dX2_grow_21 (by decide) (fun c9 => ?_) (fun c9 => ?_)
        · refine lv_aload_n hx hb dX2_grow_35 rfl (lv_at hl 1 rfl) ?_
          refine lv_aload_n hx hb dX2_grow_36 rfl (lv_at hl 1 rfl) ?_
          refine f2_9_2 S hK hI (xI_num hn h6 hN) rfl (v' := .ref (ad (200 + k))) rfl dX2_grow_37 ?_
          refine lv_iload_n hx hb dX2_grow_40 rfl (lv_at hl 0 rfl) ?_
          refine xl_num (k := k) (i := 1) S hK hI hn h6 hN (by show _ < szS σ k; rw [ez]; decide) (by decide) (by show szS σ k < _; omega) dX2_grow_41 ?_
          refine lv_topl (fun x10 e10 => ?_)
          refine lv_lconst (v := 1) hx hb dX2_grow_42 (by decide) ?_
          refine lv_ladd hx hb dX2_grow_43 ?_
          refine lv_topl (fun x11 e11 => ?_)
          refine tw_calll (tw_rV (As := [.long x11]) (rest := [.int 1, .ref (ad (200 + k))]) S hK hI kX2_15 (c_X2_fit l D ad _ _ _ _ _ _ _ hn h6 hN) (xI_num hn h6 hN) rfl rfl ⟨Nat.le_of_ble_eq_true rfl, Nat.le_of_ble_eq_true rfl⟩ ⟨Nat.le_of_ble_eq_true rfl, Nat.le_of_ble_eq_true rfl⟩ rfl hl.1 rfl (Nat.le_of_ble_eq_true rfl) dX2_grow_44) hI (fun H locs hI => ?_)
          refine lv_topl (fun x12 e12 => ?_)
          refine xs_num (k := k) (i := 1) S hK hI hn h6 hN (by show _ < szS σ k; rw [ez]; decide) (by decide) (by show szS σ k < _; omega) dX2_grow_47 (fun H locs hI => ?_)
          refine lv_iinc (v := 2) (lv' := [(2, .int 2), (0, .ref (ad (100 + k))), (1, .int v)]) hx hb dX2_grow_48 hl (k := 0) rfl (by decide) (by decide) rfl (fun ls hl => ?_)
          refine lv_goto (tgt := 2) hx hb dX2_grow_51 (by decide) ?_
          refine lv_iload_n hx hb dX2_grow_2 rfl (lv_at hl 0 rfl) ?_
          refine lv_aload_n hx hb dX2_grow_3 rfl (lv_at hl 1 rfl) ?_
          refine f2_9_2 S hK hI (xI_num hn h6 hN) rfl (v' := .ref (ad (200 + k))) rfl dX2_grow_4 ?_
          refine tw_alen S hK hI (t := 200 + k) (xA_num hn h6 hN) rfl (v := 3) (by show nI (szS σ k) = _; rw [ez]; rfl) dX2_grow_7 ?_
          refine lv_icmp_ge (tgt := 54) hx hb dX2_grow_8 (by decide) (fun c13 => ?_) (fun c13 => ?_)
          · exact absurd c13 (by decide)
          · refine lv_aload_n hx hb dX2_grow_11 rfl (lv_at hl 1 rfl) ?_
            refine f2_9_2 S hK hI (xI_num hn h6 hN) rfl (v' := .ref (ad (200 + k))) rfl dX2_grow_12 ?_
            refine lv_iload_n hx hb dX2_grow_15 rfl (lv_at hl 0 rfl) ?_
            refine lv_aload_n hx hb dX2_grow_16 rfl (lv_at hl 1 rfl) ?_
            refine f2_32_2 S hK hI (xI_num hn h6 hN) rfl (v' := .int (σ.1 1 k)) rfl dX2_grow_17 ?_
            refine lv_topi (fun x14 e14 => ?_)
            refine lv_iconst (v := 3) hx hb dX2_grow_20 (by decide) ?_
            refine lv_icmp_ne (tgt := 35) hx hb dX2_grow_21 (by decide) (fun c15 => ?_) (fun c15 => ?_)
            · refine lv_aload_n hx hb dX2_grow_35 rfl (lv_at hl 1 rfl) ?_
              refine lv_aload_n hx hb dX2_grow_36 rfl (lv_at hl 1 rfl) ?_
              refine f2_9_2 S hK hI (xI_num hn h6 hN) rfl (v' := .ref (ad (200 + k))) rfl dX2_grow_37 ?_
              refine lv_iload_n hx hb dX2_grow_40 rfl (lv_at hl 0 rfl) ?_
              refine xl_num (k := k) (i := 2) S hK hI hn h6 hN (by show _ < szS σ k; rw [ez]; decide) (by decide) (by show szS σ k < _; omega) dX2_grow_41 ?_
              refine lv_topl (fun x16 e16 => ?_)
              refine lv_lconst (v := 1) hx hb dX2_grow_42 (by decide) ?_
              refine lv_ladd hx hb dX2_grow_43 ?_
              refine lv_topl (fun x17 e17 => ?_)
              refine tw_calll (tw_rV (As := [.long x17]) (rest := [.int 2, .ref (ad (200 + k))]) S hK hI kX2_15 (c_X2_fit l D ad _ _ _ _ _ _ _ hn h6 hN) (xI_num hn h6 hN) rfl rfl ⟨Nat.le_of_ble_eq_true rfl, Nat.le_of_ble_eq_true rfl⟩ ⟨Nat.le_of_ble_eq_true rfl, Nat.le_of_ble_eq_true rfl⟩ rfl hl.1 rfl (Nat.le_of_ble_eq_true rfl) dX2_grow_44) hI (fun H locs hI => ?_)
              refine lv_topl (fun x18 e18 => ?_)
              refine xs_num (k := k) (i := 2) S hK hI hn h6 hN (by show _ < szS σ k; rw [ez]; decide) (by decide) (by show szS σ k < _; omega) dX2_grow_47 (fun H locs hI => ?_)
              refine lv_iinc (v := 3) (lv' := [(2, .int 3), (0, .ref (ad (100 + k))), (1, .int v)]) hx hb dX2_grow_48 hl (k := 0) rfl (by decide) (by decide) rfl (fun ls hl => ?_)
              refine lv_goto (tgt := 2) hx hb dX2_grow_51 (by decide) ?_
              refine lv_iload_n hx hb dX2_grow_2 rfl (lv_at hl 0 rfl) ?_
              refine lv_aload_n hx hb dX2_grow_3 rfl (lv_at hl 1 rfl) ?_
              refine f2_9_2 S hK hI (xI_num hn h6 hN) rfl (v' := .ref (ad (200 + k))) rfl dX2_grow_4 ?_
              refine tw_alen S hK hI (t := 200 + k) (xA_num hn h6 hN) rfl (v := 3) (by show nI (szS σ k) = _; rw [ez]; rfl) dX2_grow_7 ?_
              refine lv_icmp_ge (tgt := 54) hx hb dX2_grow_8 (by decide) (fun c19 => ?_) (fun c19 => ?_)
              · subst e18
                subst e17
                subst e16
                subst e14
                subst e12
                subst e11
                subst e10
                subst e8
                subst e6
                subst e5
                subst e4
                subst e2
                rw [low_num hN, ez]
                simp only [bumpN, bump1, bumpF, if_neg h3, ← fit_k hkd hn hN]
                try rw [if_neg (show ¬ (3 : Int32) ≤ 0 from by decide)]
                try rw [if_neg (show ¬ (3 : Int32) ≤ 1 from by decide)]
                try rw [if_neg (show ¬ (3 : Int32) ≤ 2 from by decide)]
                try rw [if_pos (show (3 : Int32) ≤ 3 from by decide)]
                exact tw_vret S hr hlocks hI dX2_grow_54
              · exact absurd c19 (by decide)
            · exact (by subst e14; subst e12; subst e11; subst e10; subst e8; subst e6; subst e5; subst e4; subst e2; exact absurd c15 h3)
        · exact (by subst e8; subst e6; subst e5; subst e4; subst e2; exact absurd c9 h3)
    · exact (by subst e2; exact absurd c3 h3)
