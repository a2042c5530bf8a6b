/-! the class: accept, refuse, the look-ups -/
theorem sI_same (σ : Sg) (f i : Nat) (u v : Int32) : sI (sI σ f i u) f i v = sI σ f i v := by
  unfold sI
  refine Prod.ext ?_ rfl
  funext g j
  by_cases hg : g = f
  · subst hg
    simp only [va_up_self]
    by_cases hj : j = i
    · subst hj; simp only [va_up_self]
    · simp only [va_up_ne _ _ hj]
  · simp only [va_up_ne _ _ hg]
theorem sI_id (σ : Sg) (f i : Nat) : sI σ f i (σ.1 f i) = σ := by
  unfold sI
  refine Prod.ext ?_ rfl
  funext g j
  by_cases hg : g = f
  · subst hg
    simp only [va_up_self]
    by_cases hj : j = i
    · subst hj; simp only [va_up_self]
    · simp only [va_up_ne _ _ hj]
  · simp only [va_up_ne _ _ hg]
theorem refuse_acc (σ : Sg) (y : Int32) : refuseM (acc σ) y = refuseM σ y := by
  unfold refuseM
  rw [show sI (acc σ) 15 0 y = sI σ 15 0 y from sI_same σ 15 0 0 y]
  rfl
def refuseX (σ : Sg) (y : Int32) : Sg := if y = -4 then sI (sI σ 15 0 y) 16 0 ((sI σ 15 0 y).1 16 0 + 1) else if y = -5 then sI (sI σ 15 0 y) 17 0 ((sI σ 15 0 y).1 17 0 + 1) else if y = -6 then sI (sI σ 15 0 y) 18 0 ((sI σ 15 0 y).1 18 0 + 1) else sI σ 15 0 y
theorem refX (σ : Sg) (y : Int32) : refuseX σ y = refuseM σ y := by
  unfold refuseX refuseM
  by_cases h4 : y = -4
  · subst h4
    rw [if_pos rfl, if_pos rfl, if_neg (by decide), if_neg (by decide), Int32.add_zero, Int32.add_zero]
    exact ((sI_id (sI (sI (sI σ 15 0 (-4)) 16 0 (σ.1 16 0 + 1)) 17 0 (σ.1 17 0)) 18 0).trans (sI_id (sI (sI σ 15 0 (-4)) 16 0 (σ.1 16 0 + 1)) 17 0)).symm
  · rw [if_neg h4, if_neg h4, Int32.add_zero]
    have a : sI (sI σ 15 0 y) 16 0 (σ.1 16 0) = sI σ 15 0 y := sI_id (sI σ 15 0 y) 16 0
    rw [a]
    by_cases h5 : y = -5
    · subst h5
      rw [if_pos rfl, if_pos rfl, if_neg (by decide), Int32.add_zero]
      exact (sI_id (sI (sI σ 15 0 (-5)) 17 0 (σ.1 17 0 + 1)) 18 0).symm
    · rw [if_neg h5, if_neg h5, Int32.add_zero]
      have a : sI (sI σ 15 0 y) 17 0 (σ.1 17 0) = sI σ 15 0 y := sI_id (sI σ 15 0 y) 17 0
      rw [a]
      by_cases h6 : y = -6
      · rw [if_pos h6, if_pos h6]; rfl
      · rw [if_neg h6, if_neg h6, Int32.add_zero]
        exact (sI_id (sI σ 15 0 y) 18 0).symm
/-- no item has this number -/
def noItem (σ : Sg) (v : Int32) : Prop := v < 0 ∨ nI (nS σ) ≤ v
theorem item_or (σ : Sg) (v : Int32) (h6 : nS σ ≤ 60) : noItem σ v ∨ ∃ k : Nat, k < nS σ ∧ k < 60 ∧ v = nI k := by
  rcases pk_ix v (n := nS σ) (by omega) with h | h | ⟨j, hj, e⟩
  · exact Or.inl (Or.inl h)
  · exact Or.inl (Or.inr h)
  · exact Or.inr ⟨j, hj, by omega, e⟩
theorem no_ix {σ : Sg} {v : Int32} (h6 : nS σ ≤ 60) (h : noItem σ v) (h0 : ¬ v < 0) : nS σ ≤ ix v := by
  rcases h with h | h
  · exact absurd h h0
  · obtain ⟨j, hj, rfl⟩ := nI_of h0
    rw [nI_leI (by omega) hj] at h
    rw [show ix (nI j) = j from nI_clamp hj]
    exact h

set_option maxHeartbeats 2000000 in
set_option maxRecDepth 100000 in
theorem c_X6_accept (l : Launch) (D : tw_G) (ad : Nat → Nat) (b : tw_W) (σ : Sg) (h : Int32) (Q : Nat → Int32) (sz : Nat) (v : Int32) : Met l yX6_accept (tw_w yX6_accept cX6_accept 2 (some .int)) (tw_R 0 0 0) (tw_Pc D ad (wX b σ h Q) sz [.ref (ad 0), .int v]) (tw_Q D ad (wX b (acc σ) h Q) (tw_A ad (wX b σ h Q) sz) (some (.int v))) 0 0 (tw_A ad (wX b σ h Q) sz) := by
  refine tw_met (by decide) rfl (by simp [lg_sl, Value.category]) (fun p e s m below meth c ls S hK hr hlocks hnm hsz hI hl => ?_)
  have hx := S.1
  have hb := S.2.1
  have hl : lv_has ls 2 [(0, .ref (ad 0)), (1, .int v)] := hl
  refine lv_aload_n hx hb dX6_accept_0 rfl (lv_at hl 0 rfl) ?_
  refine lv_iconst (v := 0) hx hb dX6_accept_1 (by decide) ?_
  refine px_34 S hK hI dX6_accept_2 (fun H locs hI => ?_)
  refine lv_iload_n hx hb dX6_accept_5 rfl (lv_at hl 1 rfl) ?_
  exact tw_iret S hr hlocks hI dX6_accept_6

set_option maxHeartbeats 2000000 in
set_option maxRecDepth 100000 in
theorem c_X6_refuse (l : Launch) (D : tw_G) (ad : Nat → Nat) (b : tw_W) (σ : Sg) (h : Int32) (Q : Nat → Int32) (sz : Nat) (y : Int32) : Met l yX6_refuse (tw_w yX6_refuse cX6_refuse 2 (some .int)) (tw_R 0 0 0) (tw_Pc D ad (wX b σ h Q) sz [.ref (ad 0), .int y]) (tw_Q D ad (wX b (refuseM σ y) h Q) (tw_A ad (wX b σ h Q) sz) (some (.int y))) 0 0 (tw_A ad (wX b σ h Q) sz) := by
  refine tw_met (by decide) rfl (by simp [lg_sl, Value.category]) (fun p e s m below meth c ls S hK hr hlocks hnm hsz hI hl => ?_)
  have hx := S.1
  have hb := S.2.1
  have hl : lv_has ls 2 [(0, .ref (ad 0)), (1, .int y)] := hl
  refine lv_aload_n hx hb dX6_refuse_0 rfl (lv_at hl 0 rfl) ?_
  refine lv_iload_n hx hb dX6_refuse_1 rfl (lv_at hl 1 rfl) ?_
  refine px_34 S hK hI dX6_refuse_2 (fun H locs hI => ?_)
  refine lv_iload_n hx hb dX6_refuse_5 rfl (lv_at hl 1 rfl) ?_
  refine lv_bipush (v := (-4)) hx hb dX6_refuse_6 (by decide) ?_
  refine lv_icmp_ne (tgt := 24) hx hb dX6_refuse_8 (by decide) (fun c1 => ?_) (fun c1 => ?_)
  · refine lv_iload_n hx hb dX6_refuse_24 rfl (lv_at hl 1 rfl) ?_
    refine lv_bipush (v := (-5)) hx hb dX6_refuse_25 (by decide) ?_
    refine lv_icmp_ne (tgt := 43) hx hb dX6_refuse_27 (by decide) (fun c2 => ?_) (fun c2 => ?_)
    · refine lv_iload_n hx hb dX6_refuse_43 rfl (lv_at hl 1 rfl) ?_
      refine lv_bipush (v := (-6)) hx hb dX6_refuse_44 (by decide) ?_
      refine lv_icmp_ne (tgt := 59) hx hb dX6_refuse_46 (by decide) (fun c3 => ?_) (fun c3 => ?_)
      · refine lv_iload_n hx hb dX6_refuse_59 rfl (lv_at hl 1 rfl) ?_
        rw [← refX]
        unfold refuseX
        try rw [if_neg c1]
        try rw [if_neg c2]
        try rw [if_neg c3]
        exact tw_iret S hr hlocks hI dX6_refuse_60
      · refine lv_aload_n hx hb dX6_refuse_49 rfl (lv_at hl 0 rfl) ?_
        refine lv_dup hx hb dX6_refuse_50 rfl ?_
        refine gx_43 S hK hI dX6_refuse_51 ?_
        refine lv_topi (fun x4 e4 => ?_)
        refine lv_iconst (v := 1) hx hb dX6_refuse_54 (by decide) ?_
        refine lv_iadd hx hb dX6_refuse_55 ?_
        refine lv_topi (fun x5 e5 => ?_)
        refine px_43 S hK hI dX6_refuse_56 (fun H locs hI => ?_)
        refine lv_iload_n hx hb dX6_refuse_59 rfl (lv_at hl 1 rfl) ?_
        subst e5
        subst e4
        rw [← refX]
        unfold refuseX
        try rw [if_neg c1]
        try rw [if_neg c2]
        try rw [if_pos c3]
        exact tw_iret S hr hlocks hI dX6_refuse_60
    · refine lv_aload_n hx hb dX6_refuse_30 rfl (lv_at hl 0 rfl) ?_
      refine lv_dup hx hb dX6_refuse_31 rfl ?_
      refine gx_40 S hK hI dX6_refuse_32 ?_
      refine lv_topi (fun x6 e6 => ?_)
      refine lv_iconst (v := 1) hx hb dX6_refuse_35 (by decide) ?_
      refine lv_iadd hx hb dX6_refuse_36 ?_
      refine lv_topi (fun x7 e7 => ?_)
      refine px_40 S hK hI dX6_refuse_37 (fun H locs hI => ?_)
      refine lv_goto (tgt := 59) hx hb dX6_refuse_40 (by decide) ?_
      refine lv_iload_n hx hb dX6_refuse_59 rfl (lv_at hl 1 rfl) ?_
      subst e7
      subst e6
      rw [← refX]
      unfold refuseX
      try rw [if_neg c1]
      try rw [if_pos c2]
      exact tw_iret S hr hlocks hI dX6_refuse_60
  · refine lv_aload_n hx hb dX6_refuse_11 rfl (lv_at hl 0 rfl) ?_
    refine lv_dup hx hb dX6_refuse_12 rfl ?_
    refine gx_37 S hK hI dX6_refuse_13 ?_
    refine lv_topi (fun x8 e8 => ?_)
    refine lv_iconst (v := 1) hx hb dX6_refuse_16 (by decide) ?_
    refine lv_iadd hx hb dX6_refuse_17 ?_
    refine lv_topi (fun x9 e9 => ?_)
    refine px_37 S hK hI dX6_refuse_18 (fun H locs hI => ?_)
    refine lv_goto (tgt := 59) hx hb dX6_refuse_21 (by decide) ?_
    refine lv_iload_n hx hb dX6_refuse_59 rfl (lv_at hl 1 rfl) ?_
    subst e9
    subst e8
    rw [← refX]
    unfold refuseX
    try rw [if_pos c1]
    exact tw_iret S hr hlocks hI dX6_refuse_60

set_option maxHeartbeats 2000000 in
set_option maxRecDepth 100000 in
theorem c_X6_findItem_some (l : Launch) (D : tw_G) (ad : Nat → Nat) (b : tw_W) (σ : Sg) (h : Int32) (Q : Nat → Int32) (sz : Nat) (k : Nat) (hn : k < nS σ) (h6 : k < 60) : Met l yX6_findItem (tw_w yX6_findItem cX6_findItem 2 (some (.object "MailRooms$Item"))) (tw_R 0 0 0) (tw_Pc D ad (wX b σ h Q) sz [.ref (ad 0), .int (nI k)]) (tw_Q D ad (wX b (σ) h Q) (tw_A ad (wX b σ h Q) sz) (some (.ref (ad (100 + k))))) 0 0 (tw_A ad (wX b σ h Q) sz) := by
  refine tw_met (by decide) rfl (by simp [lg_sl, Value.category]) (fun p e s m below meth c ls S hK hr hlocks hnm hsz hI hl => ?_)
  have hx := S.1
  have hb := S.2.1
  have hl : lv_has ls 2 [(0, .ref (ad 0)), (1, .int (nI k))] := hl
  refine lv_iload_n hx hb dX6_findItem_0 rfl (lv_at hl 1 rfl) ?_
  refine lv_if_lt (tgt := 19) hx hb dX6_findItem_1 (by decide) (fun c1 => ?_) (fun c1 => ?_)
  · exact absurd c1 (nI_pos (by omega))
  · refine lv_iload_n hx hb dX6_findItem_4 rfl (lv_at hl 1 rfl) ?_
    refine lv_bipush (v := 60) hx hb dX6_findItem_5 (by decide) ?_
    refine lv_icmp_ge (tgt := 19) hx hb dX6_findItem_7 (by decide) (fun c2 => ?_) (fun c2 => ?_)
    · exact absurd c2 (nI_ge (a := k) (b := 60) h6 (by decide))
    · refine lv_aload_n hx hb dX6_findItem_10 rfl (lv_at hl 0 rfl) ?_
      refine gx_11 S hK hI dX6_findItem_11 ?_
      refine lv_iload_n hx hb dX6_findItem_14 rfl (lv_at hl 1 rfl) ?_
      refine tw_aald S hK hI (t := 1) wX_1 rfl (vp_in_nI h6 (by decide)) (v := .ref (ad (100 + k))) (by rw [show (nI k).toNatClampNeg = k from nI_clamp (by omega), if_pos hn]; rfl) dX6_findItem_15 ?_
      refine lv_goto (tgt := 20) hx hb dX6_findItem_16 (by decide) ?_
      exact tw_aret S hr (Or.inr ⟨_, rfl⟩) hlocks hI dX6_findItem_20

set_option maxHeartbeats 2000000 in
set_option maxRecDepth 100000 in
theorem c_X6_findItem_none (l : Launch) (D : tw_G) (ad : Nat → Nat) (b : tw_W) (σ : Sg) (h : Int32) (Q : Nat → Int32) (sz : Nat) (v : Int32) (h6 : nS σ ≤ 60) (hv : noItem σ v) : Met l yX6_findItem (tw_w yX6_findItem cX6_findItem 2 (some (.object "MailRooms$Item"))) (tw_R 0 0 0) (tw_Pc D ad (wX b σ h Q) sz [.ref (ad 0), .int v]) (tw_Q D ad (wX b (σ) h Q) (tw_A ad (wX b σ h Q) sz) (some .null)) 0 0 (tw_A ad (wX b σ h Q) sz) := by
  refine tw_met (by decide) rfl (by simp [lg_sl, Value.category]) (fun p e s m below meth c ls S hK hr hlocks hnm hsz hI hl => ?_)
  have hx := S.1
  have hb := S.2.1
  have hl : lv_has ls 2 [(0, .ref (ad 0)), (1, .int v)] := hl
  refine lv_iload_n hx hb dX6_findItem_0 rfl (lv_at hl 1 rfl) ?_
  refine lv_if_lt (tgt := 19) hx hb dX6_findItem_1 (by decide) (fun c1 => ?_) (fun c1 => ?_)
  · refine lv_null hx hb dX6_findItem_19 ?_
    try rw [if_pos c1]
    exact tw_aret S hr (Or.inl rfl) hlocks hI dX6_findItem_20
  · refine lv_iload_n hx hb dX6_findItem_4 rfl (lv_at hl 1 rfl) ?_
    refine lv_bipush (v := 60) hx hb dX6_findItem_5 (by decide) ?_
    refine lv_icmp_ge (tgt := 19) hx hb dX6_findItem_7 (by decide) (fun c2 => ?_) (fun c2 => ?_)
    · refine lv_null hx hb dX6_findItem_19 ?_
      try rw [if_neg c1]
      try rw [if_pos c2]
      exact tw_aret S hr (Or.inl rfl) hlocks hI dX6_findItem_20
    · refine lv_aload_n hx hb dX6_findItem_10 rfl (lv_at hl 0 rfl) ?_
      refine gx_11 S hK hI dX6_findItem_11 ?_
      refine lv_iload_n hx hb dX6_findItem_14 rfl (lv_at hl 1 rfl) ?_
      refine tw_aald S hK hI (t := 1) wX_1 rfl (fun q => q.elim c1 (fun q2 => absurd (nI_of c1) (fun ⟨j, hj, e⟩ => by rw [e, show (nI j).toNatClampNeg = j from nI_clamp hj] at q2; rw [e] at c2; exact c2 (nI_le q2 hj)))) (v := .null) (by rw [if_neg (Nat.not_lt.mpr (no_ix h6 hv c1))]; rfl) dX6_findItem_15 ?_
      refine lv_goto (tgt := 20) hx hb dX6_findItem_16 (by decide) ?_
      try rw [if_neg c1]
      try rw [if_neg c2]
      exact tw_aret S hr (Or.inl rfl) hlocks hI dX6_findItem_20

theorem room_or (v : Int32) : (v < 0 ∨ 8 ≤ v) ∨ ∃ r : Nat, r < 8 ∧ v = nI r := by
  rcases pk_ix v (n := 8) (by decide) with h | h | ⟨j, hj, e⟩
  · exact Or.inl (Or.inl h)
  · exact Or.inl (Or.inr h)
  · exact Or.inr ⟨j, hj, e⟩
set_option maxHeartbeats 2000000 in
set_option maxRecDepth 100000 in
theorem c_X6_findRoom_some (l : Launch) (D : tw_G) (ad : Nat → Nat) (b : tw_W) (σ : Sg) (h : Int32) (Q : Nat → Int32) (sz : Nat) (r : Nat) (hr8 : r < 8) : Met l yX6_findRoom (tw_w yX6_findRoom cX6_findRoom 2 (some (.object "MailRooms$Room"))) (tw_R 0 0 0) (tw_Pc D ad (wX b σ h Q) sz [.ref (ad 0), .int (nI r)]) (tw_Q D ad (wX b (σ) h Q) (tw_A ad (wX b σ h Q) sz) (some (.ref (ad (10 + r))))) 0 0 (tw_A ad (wX b σ h Q) sz) := by
  refine tw_met (by decide) rfl (by simp [lg_sl, Value.category]) (fun p e s m below meth c ls S hK hr hlocks hnm hsz hI hl => ?_)
  have hx := S.1
  have hb := S.2.1
  have hl : lv_has ls 2 [(0, .ref (ad 0)), (1, .int (nI r))] := hl
  refine lv_iload_n hx hb dX6_findRoom_0 rfl (lv_at hl 1 rfl) ?_
  refine lv_if_lt (tgt := 19) hx hb dX6_findRoom_1 (by decide) (fun c1 => ?_) (fun c1 => ?_)
  · exact absurd c1 (nI_pos (by omega))
  · refine lv_iload_n hx hb dX6_findRoom_4 rfl (lv_at hl 1 rfl) ?_
    refine lv_bipush (v := 8) hx hb dX6_findRoom_5 (by decide) ?_
    refine lv_icmp_ge (tgt := 19) hx hb dX6_findRoom_7 (by decide) (fun c2 => ?_) (fun c2 => ?_)
    · exact absurd c2 (nI_ge (a := r) (b := 8) hr8 (by decide))
    · refine lv_aload_n hx hb dX6_findRoom_10 rfl (lv_at hl 0 rfl) ?_
      refine gx_17 S hK hI dX6_findRoom_11 ?_
      refine lv_iload_n hx hb dX6_findRoom_14 rfl (lv_at hl 1 rfl) ?_
      refine tw_aald S hK hI (t := 2) wX_2 rfl (vp_in_nI hr8 (by decide)) (v := .ref (ad (10 + r))) (by rw [show (nI r).toNatClampNeg = r from nI_clamp (by omega), if_pos hr8]; rfl) dX6_findRoom_15 ?_
      refine lv_goto (tgt := 20) hx hb dX6_findRoom_16 (by decide) ?_
      exact tw_aret S hr (Or.inr ⟨_, rfl⟩) hlocks hI dX6_findRoom_20

set_option maxHeartbeats 2000000 in
set_option maxRecDepth 100000 in
theorem c_X6_findRoom_none (l : Launch) (D : tw_G) (ad : Nat → Nat) (b : tw_W) (σ : Sg) (h : Int32) (Q : Nat → Int32) (sz : Nat) (v : Int32) (hv : v < 0 ∨ 8 ≤ v) : Met l yX6_findRoom (tw_w yX6_findRoom cX6_findRoom 2 (some (.object "MailRooms$Room"))) (tw_R 0 0 0) (tw_Pc D ad (wX b σ h Q) sz [.ref (ad 0), .int v]) (tw_Q D ad (wX b (σ) h Q) (tw_A ad (wX b σ h Q) sz) (some .null)) 0 0 (tw_A ad (wX b σ h Q) sz) := by
  refine tw_met (by decide) rfl (by simp [lg_sl, Value.category]) (fun p e s m below meth c ls S hK hr hlocks hnm hsz hI hl => ?_)
  have hx := S.1
  have hb := S.2.1
  have hl : lv_has ls 2 [(0, .ref (ad 0)), (1, .int v)] := hl
  refine lv_iload_n hx hb dX6_findRoom_0 rfl (lv_at hl 1 rfl) ?_
  refine lv_if_lt (tgt := 19) hx hb dX6_findRoom_1 (by decide) (fun c1 => ?_) (fun c1 => ?_)
  · refine lv_null hx hb dX6_findRoom_19 ?_
    try rw [if_pos c1]
    exact tw_aret S hr (Or.inl rfl) hlocks hI dX6_findRoom_20
  · refine lv_iload_n hx hb dX6_findRoom_4 rfl (lv_at hl 1 rfl) ?_
    refine lv_bipush (v := 8) hx hb dX6_findRoom_5 (by decide) ?_
    refine lv_icmp_ge (tgt := 19) hx hb dX6_findRoom_7 (by decide) (fun c2 => ?_) (fun c2 => ?_)
    · refine lv_null hx hb dX6_findRoom_19 ?_
      try rw [if_neg c1]
      try rw [if_pos c2]
      exact tw_aret S hr (Or.inl rfl) hlocks hI dX6_findRoom_20
    · exact absurd hv (fun q => q.elim c1 c2)

set_option maxHeartbeats 2000000 in
set_option maxRecDepth 100000 in
theorem c_X4_findDesk_some (l : Launch) (D : tw_G) (ad : Nat → Nat) (b : tw_W) (σ : Sg) (h : Int32) (Q : Nat → Int32) (sz : Nat) (r d : Nat) (hr8 : r < 8) (hd4 : d < 4) (hc : d < dcS σ r) : Met l yX4_findDesk (tw_w yX4_findDesk cX4_findDesk 2 (some (.object "MailRooms$Desk"))) (tw_R 0 0 0) (tw_Pc D ad (wX b σ h Q) sz [.ref (ad (10 + r)), .int (nI d)]) (tw_Q D ad (wX b (σ) h Q) (tw_A ad (wX b σ h Q) sz) (some (.ref (ad (30 + (4 * r + d)))))) 0 0 (tw_A ad (wX b σ h Q) sz) := by
  refine tw_met (by decide) rfl (by simp [lg_sl, Value.category]) (fun p e s m below meth c ls S hK hr hlocks hnm hsz hI hl => ?_)
  have hx := S.1
  have hb := S.2.1
  have hl : lv_has ls 2 [(0, .ref (ad (10 + r))), (1, .int (nI d))] := hl
  refine lv_iload_n hx hb dX4_findDesk_0 rfl (lv_at hl 1 rfl) ?_
  refine lv_if_lt (tgt := 18) hx hb dX4_findDesk_1 (by decide) (fun c1 => ?_) (fun c1 => ?_)
  · exact absurd c1 (nI_pos (by omega))
  · refine lv_iload_n hx hb dX4_findDesk_4 rfl (lv_at hl 1 rfl) ?_
    refine lv_iconst (v := 4) hx hb dX4_findDesk_5 (by decide) ?_
    refine lv_icmp_ge (tgt := 18) hx hb dX4_findDesk_6 (by decide) (fun c2 => ?_) (fun c2 => ?_)
    · exact absurd c2 (nI_ge (a := d) (b := 4) hd4 (by decide))
    · refine lv_aload_n hx hb dX4_findDesk_9 rfl (lv_at hl 0 rfl) ?_
      refine f4_11_4 S hK hI (wX_room hr8) rfl (v' := .ref (ad (20 + r))) rfl dX4_findDesk_10 ?_
      refine lv_iload_n hx hb dX4_findDesk_13 rfl (lv_at hl 1 rfl) ?_
      refine tw_aald S hK hI (t := 20 + r) (wX_darr hr8) rfl (vp_in_nI hd4 (by decide)) (v := .ref (ad (30 + (4 * r + d)))) (by rw [show (nI d).toNatClampNeg = d from nI_clamp (by omega), if_pos hc]; rfl) dX4_findDesk_14 ?_
      refine lv_goto (tgt := 19) hx hb dX4_findDesk_15 (by decide) ?_
      exact tw_aret S hr (Or.inr ⟨_, rfl⟩) hlocks hI dX4_findDesk_19

/-- no desk of the room has this number -/
def noDesk (σ : Sg) (r : Nat) (v : Int32) : Prop := v < 0 ∨ nI (dcS σ r) ≤ v
theorem desk_or (σ : Sg) (r : Nat) (v : Int32) (h4 : dcS σ r ≤ 4) : noDesk σ r v ∨ ∃ d : Nat, d < dcS σ r ∧ d < 4 ∧ v = nI d := by
  rcases pk_ix v (n := dcS σ r) (by omega) with h | h | ⟨j, hj, e⟩
  · exact Or.inl (Or.inl h)
  · exact Or.inl (Or.inr h)
  · exact Or.inr ⟨j, hj, by omega, e⟩
theorem nod_ix {σ : Sg} {r : Nat} {v : Int32} (h6 : dcS σ r ≤ 4) (h : noDesk σ r v) (h0 : ¬ v < 0) : dcS σ r ≤ ix v := by
  rcases h with h | h
  · exact absurd h h0
  · obtain ⟨j, hj, rfl⟩ := nI_of h0
    rw [nI_leI (by omega) hj] at h
    rw [show ix (nI j) = j from nI_clamp hj]
    exact h
set_option maxHeartbeats 2000000 in
set_option maxRecDepth 100000 in
theorem c_X4_findDesk_none (l : Launch) (D : tw_G) (ad : Nat → Nat) (b : tw_W) (σ : Sg) (h : Int32) (Q : Nat → Int32) (sz : Nat) (r : Nat) (v : Int32) (hr8 : r < 8) (h4 : dcS σ r ≤ 4) (hv : noDesk σ r v) : Met l yX4_findDesk (tw_w yX4_findDesk cX4_findDesk 2 (some (.object "MailRooms$Desk"))) (tw_R 0 0 0) (tw_Pc D ad (wX b σ h Q) sz [.ref (ad (10 + r)), .int v]) (tw_Q D ad (wX b (σ) h Q) (tw_A ad (wX b σ h Q) sz) (some .null)) 0 0 (tw_A ad (wX b σ h Q) sz) := by
  refine tw_met (by decide) rfl (by simp [lg_sl, Value.category]) (fun p e s m below meth c ls S hK hr hlocks hnm hsz hI hl => ?_)
  have hx := S.1
  have hb := S.2.1
  have hl : lv_has ls 2 [(0, .ref (ad (10 + r))), (1, .int v)] := hl
  refine lv_iload_n hx hb dX4_findDesk_0 rfl (lv_at hl 1 rfl) ?_
  refine lv_if_lt (tgt := 18) hx hb dX4_findDesk_1 (by decide) (fun c1 => ?_) (fun c1 => ?_)
  · refine lv_null hx hb dX4_findDesk_18 ?_
    try rw [if_pos c1]
    exact tw_aret S hr (Or.inl rfl) hlocks hI dX4_findDesk_19
  · refine lv_iload_n hx hb dX4_findDesk_4 rfl (lv_at hl 1 rfl) ?_
    refine lv_iconst (v := 4) hx hb dX4_findDesk_5 (by decide) ?_
    refine lv_icmp_ge (tgt := 18) hx hb dX4_findDesk_6 (by decide) (fun c2 => ?_) (fun c2 => ?_)
    · refine lv_null hx hb dX4_findDesk_18 ?_
      try rw [if_neg c1]
      try rw [if_pos c2]
      exact tw_aret S hr (Or.inl rfl) hlocks hI dX4_findDesk_19
    · refine lv_aload_n hx hb dX4_findDesk_9 rfl (lv_at hl 0 rfl) ?_
      refine f4_11_4 S hK hI (wX_room hr8) rfl (v' := .ref (ad (20 + r))) rfl dX4_findDesk_10 ?_
      refine lv_iload_n hx hb dX4_findDesk_13 rfl (lv_at hl 1 rfl) ?_
      refine tw_aald S hK hI (t := 20 + r) (wX_darr hr8) rfl (fun q => q.elim c1 (fun q2 => absurd (nI_of c1) (fun ⟨j, hj, e⟩ => by rw [e, show (nI j).toNatClampNeg = j from nI_clamp hj] at q2; rw [e] at c2; exact c2 (nI_le q2 hj)))) (v := .null) (by rw [if_neg (Nat.not_lt.mpr (nod_ix h4 hv c1))]; rfl) dX4_findDesk_14 ?_
      refine lv_goto (tgt := 19) hx hb dX4_findDesk_15 (by decide) ?_
      try rw [if_neg c1]
      try rw [if_neg c2]
      exact tw_aret S hr (Or.inl rfl) hlocks hI dX4_findDesk_19
