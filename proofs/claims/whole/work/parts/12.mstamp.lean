/-! the reference: stampRow, stampAll -/
def okC (σ : Sg) : Prop := ∀ k : Nat, k < 60 → isNumF (σ.1 1 k) = 0 → ∀ i : Nat, i < szS σ k → σ.2 (3 * k + i) = -1 ∨ ∃ j : Nat, j < 60 ∧ σ.2 (3 * k + i) = lN j
def okA (σ : Sg) : Prop := okM σ ∧ okC σ
theorem bumpN_I (σ : Sg) (κ : Int32) (k : Nat) : ∀ z : Nat, (bumpN σ κ k z).1 = σ.1
  | 0 => rfl
  | z + 1 => bumpN_I σ κ k z
theorem bumpN_C (σ : Sg) (κ : Int32) (k a : Nat) : ∀ z : Nat, (∀ i : Nat, i < z → a ≠ 3 * k + i) → (bumpN σ κ k z).2 a = σ.2 a
  | 0, _ => rfl
  | z + 1, h => by
    show va_up (bumpN σ κ k z).2 (3 * k + z) _ a = _
    rw [va_up_ne _ _ (h z (by omega))]
    exact bumpN_C σ κ k a z (fun i hi => h i (by omega))
theorem low_I (σ : Sg) (j f : Nat) (hf : f ≠ 3) : (stampLowF σ j).1 f = σ.1 f := by
  unfold stampLowF
  split
  · exact va_up_ne _ _ hf
  · rw [bumpN_I]; exact va_up_ne _ _ hf
theorem szS_le {σ : Sg} (h : okM σ) {k : Nat} (hk : k < 60) : szS σ k ≤ 3 := by
  obtain ⟨z, hz, e⟩ := h.2.1 k hk
  unfold szS
  rw [e, show ix (nI z) = z from nI_clamp (by omega)]
  exact hz
theorem low_C {σ : Sg} (h : okM σ) {j k i : Nat} (hj : j < 60) (hk : isNumF (σ.1 1 k) = 0) (hi : i < 3) : (stampLowF σ j).2 (3 * k + i) = σ.2 (3 * k + i) := by
  unfold stampLowF
  by_cases hN : isNumF (σ.1 1 j) = 0
  · rw [if_pos hN]; rfl
  · rw [if_neg hN, bumpN_C]
    · rfl
    · intro i' hi' e
      have hz := szS_le h hj
      have : j = k := by omega
      subst this
      exact hN hk
theorem okM_of {σ σ' : Sg} (h : okM σ) (h0 : σ'.1 0 = σ.1 0) (h2 : σ'.1 2 = σ.1 2) (h5 : σ'.1 5 = σ.1 5) : okM σ' := by
  unfold okM
  rw [h0, h2, h5]
  exact h
theorem okA_low {σ : Sg} (h : okA σ) {j : Nat} (hj : j < 60) : okA (stampLowF σ j) := by
  refine ⟨okM_of h.1 (low_I σ j 0 (by decide)) (low_I σ j 2 (by decide)) (low_I σ j 5 (by decide)), fun k hk hN i hi => ?_⟩
  rw [low_I σ j 1 (by decide)] at hN
  have hi' : i < szS σ k := by unfold szS at hi ⊢; rw [low_I σ j 2 (by decide)] at hi; exact hi
  rw [low_C h.1 hj hN (Nat.lt_of_lt_of_le hi' (szS_le h.1 hk))]
  exact h.2 k hk hN i hi'
def rowOK (σ : Sg) (k z : Nat) (κ : Int32) : Prop := okA σ ∧ σ.1 1 k = κ ∧ σ.1 2 k = nI z
theorem rowOK_low {σ : Sg} {k z : Nat} {κ : Int32} (h : rowOK σ k z κ) {j : Nat} (hj : j < 60) : rowOK (stampLowF σ j) k z κ :=
  ⟨okA_low h.1 hj, by rw [low_I σ j 1 (by decide)]; exact h.2.1, by rw [low_I σ j 2 (by decide)]; exact h.2.2⟩
theorem lN_32 {j : Nat} : (lN j).toInt32 = nI j := lN_i j
theorem cell_in {σ : Sg} {k z : Nat} {κ : Int32} (h : rowOK σ k z κ) (hk : k < 60) (hz : z ≤ 3) (hN : isNumF κ = 0) {i a : Nat} (hi : i < z) (ha : a = 3 * k + i) (c : ¬ lg_cmp (σ.2 a) (-1) = 0) : vp_in ((σ.2 a).toInt32) 60 := by
  subst ha
  have hi' : i < szS σ k := by unfold szS; rw [h.2.2, show ix (nI z) = z from nI_clamp (by omega)]; exact hi
  rcases h.1.2 k hk (by rw [h.2.1]; exact hN) i hi' with e | ⟨j, hj, e⟩
  · rw [e] at c
    exact absurd (by decide) c
  · rw [e, lN_32]
    exact vp_in_nI hj (by decide)
theorem th_num {κ : Int32} (h : ¬ isThF κ = 0) : isNumF κ = 0 := by
  unfold isThF at h
  unfold isNumF
  by_cases h4 : κ = 4
  · subst h4; decide
  · rw [if_neg h4] at h
    by_cases h8 : κ < 8
    · rw [if_pos h8] at h; exact absurd rfl h
    · rw [if_pos]
      rw [Int32.lt_iff_toInt_lt] at h8 ⊢
      have e8 : (8 : Int32).toInt = 8 := by decide
      have e3 : (3 : Int32).toInt = 3 := by decide
      omega
theorem alb_num {κ : Int32} (h : 11 ≤ κ) : isNumF κ = 0 := by
  unfold isNumF
  rw [if_pos]
  rw [Int32.lt_iff_toInt_lt]
  rw [Int32.le_iff_toInt_le] at h
  have e8 : (11 : Int32).toInt = 11 := by decide
  have e3 : (3 : Int32).toInt = 3 := by decide
  omega
def stepF (f : Sg → Nat → Sg) (σ : Sg) (a : Nat) : Sg := if lg_cmp (σ.2 a) (-1) = 0 then σ else f σ (ix (σ.2 a).toInt32)
def eachF (f : Sg → Nat → Sg) (σ : Sg) (k : Nat) : Nat → Sg
  | 0 => σ
  | z + 1 => stepF f (eachF f σ k z) (3 * k + z)
theorem each_0 (f : Sg → Nat → Sg) (σ : Sg) (k : Nat) : eachF f σ k 0 = σ := rfl
theorem each_1 (f : Sg → Nat → Sg) (σ : Sg) (k : Nat) : eachF f σ k 1 = stepF f σ (3 * k) := rfl
theorem each_2 (f : Sg → Nat → Sg) (σ : Sg) (k : Nat) : eachF f σ k 2 = stepF f (stepF f σ (3 * k)) (3 * k + 1) := rfl
theorem each_3 (f : Sg → Nat → Sg) (σ : Sg) (k : Nat) : eachF f σ k 3 = stepF f (stepF f (stepF f σ (3 * k)) (3 * k + 1)) (3 * k + 2) := rfl
def stampRowF (σ : Sg) (k : Nat) : Sg := if isThF (σ.1 1 k) = 0 then stampLowF σ k else eachF stampLowF (stampLowF σ k) k (szS σ k)
def stampAllF (σ : Sg) (k : Nat) : Sg := if 11 ≤ σ.1 1 k then eachF stampRowF σ k (szS σ k) else stampRowF σ k

set_option maxHeartbeats 16000000 in
set_option maxRecDepth 100000 in
theorem c_X7_stampRow (l : Launch) (D : tw_G) (ad : Nat → Nat) (b : tw_W) (σ : Sg) (sz : Nat) (k : Nat) (hA : okA σ) (hk : k < 60) : Met l yX7_stampRow (tw_w yX7_stampRow cX7_stampRow 3 none) (tw_R 3 0 0) (tw_Pc D ad (wM b σ) sz [.ref (ad 1000), .int (nI k)]) (tw_Q D ad (wM b (stampRowF σ k)) (tw_A ad (wM b σ) sz) none) 0 0 (tw_A ad (wM b σ) sz) := by
  refine tw_met (by decide) rfl (by simp [lg_sl, Value.category]) (fun p e s m below meth c ls S hK hr hlocks hnm hsz hI hl => ?_)
  have hx := S.1
  have hb := S.2.1
  have hl : lv_has ls 3 [(0, .ref (ad 1000)), (1, .int (nI k))] := hl
  obtain ⟨κ, eκ⟩ : ∃ κ : Int32, σ.1 1 k = κ := ⟨_, rfl⟩
  obtain ⟨z, hz, ez⟩ := hA.1.2.1 k hk
  have hR : rowOK σ k z κ := ⟨hA, eκ, ez⟩
  have hz3 : z ≤ 3 := hz
  rcases (show z = 0 ∨ z = 1 ∨ z = 2 ∨ z = 3 by omega) with rfl | rfl | rfl | rfl <;> by_cases hT : isThF κ = 0
  · refine lv_aload_n hx hb dX7_stampRow_0 rfl (lv_at hl 0 rfl) ?_
    refine lv_iload_n hx hb dX7_stampRow_1 rfl (lv_at hl 1 rfl) ?_
    refine tw_callv (tw_rV (As := [.int (nI k)]) (rest := []) S hK hI kX7_138 (c_X7_stampLow l D ad _ _ _ _ (hR.1.1) hk) (t := 1000) (fs := mRoot _) rfl rfl rfl ⟨Nat.le_of_ble_eq_true rfl, Nat.le_of_ble_eq_true rfl⟩ ⟨Nat.le_of_ble_eq_true rfl, Nat.le_of_ble_eq_true rfl⟩ rfl hl.1 rfl (Nat.le_of_ble_eq_true rfl) dX7_stampRow_2) hI (fun H locs hI => ?_)
    have hR := rowOK_low hR hk
    refine lv_iconst (v := 0) hx hb dX7_stampRow_5 (by decide) ?_
    refine lv_istore_n (lv' := [(2, .int 0), (0, .ref (ad 1000)), (1, .int (nI k))]) hx hb dX7_stampRow_6 rfl hl (by decide) rfl (fun ls hl => ?_)
    refine lv_iload_n hx hb dX7_stampRow_7 rfl (lv_at hl 0 rfl) ?_
    refine lv_aload_n hx hb dX7_stampRow_8 rfl (lv_at hl 1 rfl) ?_
    refine gm_13 S hK hI dX7_stampRow_9 ?_
    refine lv_iload_n hx hb dX7_stampRow_12 rfl (lv_at hl 2 rfl) ?_
    refine ln_2 (j := k) S hK hI (by omega) dX7_stampRow_13 ?_
    refine lv_eqi (v := 0) (hR.2.2) ?_
    refine lv_icmp_ge (tgt := 67) hx hb dX7_stampRow_14 (by decide) (fun c1 => ?_) (fun c1 => ?_)
    · unfold stampRowF
      have es : szS σ k = 0 := by unfold szS; rw [ez]; rfl
      rw [es]
      rw [eκ]
      try rw [each_0]
      try unfold stepF
      try rw [if_pos hT]
      try rw [if_pos (show (0 : Int32) ≤ 0 from by decide)]
      exact tw_vret S hr hlocks hI dX7_stampRow_67
    · exact absurd c1 (by decide)
  · have hNum := th_num hT
    refine lv_aload_n hx hb dX7_stampRow_0 rfl (lv_at hl 0 rfl) ?_
    refine lv_iload_n hx hb dX7_stampRow_1 rfl (lv_at hl 1 rfl) ?_
    refine tw_callv (tw_rV (As := [.int (nI k)]) (rest := []) S hK hI kX7_138 (c_X7_stampLow l D ad _ _ _ _ (hR.1.1) hk) (t := 1000) (fs := mRoot _) rfl rfl rfl ⟨Nat.le_of_ble_eq_true rfl, Nat.le_of_ble_eq_true rfl⟩ ⟨Nat.le_of_ble_eq_true rfl, Nat.le_of_ble_eq_true rfl⟩ rfl hl.1 rfl (Nat.le_of_ble_eq_true rfl) dX7_stampRow_2) hI (fun H locs hI => ?_)
    have hR := rowOK_low hR hk
    refine lv_iconst (v := 0) hx hb dX7_stampRow_5 (by decide) ?_
    refine lv_istore_n (lv' := [(2, .int 0), (0, .ref (ad 1000)), (1, .int (nI k))]) hx hb dX7_stampRow_6 rfl hl (by decide) rfl (fun ls hl => ?_)
    refine lv_iload_n hx hb dX7_stampRow_7 rfl (lv_at hl 0 rfl) ?_
    refine lv_aload_n hx hb dX7_stampRow_8 rfl (lv_at hl 1 rfl) ?_
    refine gm_13 S hK hI dX7_stampRow_9 ?_
    refine lv_iload_n hx hb dX7_stampRow_12 rfl (lv_at hl 2 rfl) ?_
    refine ln_2 (j := k) S hK hI (by omega) dX7_stampRow_13 ?_
    refine lv_eqi (v := 0) (hR.2.2) ?_
    refine lv_icmp_ge (tgt := 67) hx hb dX7_stampRow_14 (by decide) (fun c2 => ?_) (fun c2 => ?_)
    · unfold stampRowF
      have es : szS σ k = 0 := by unfold szS; rw [ez]; rfl
      rw [es]
      rw [eκ]
      try rw [each_0]
      try unfold stepF
      try rw [if_neg hT]
      try rw [if_pos (show (0 : Int32) ≤ 0 from by decide)]
      exact tw_vret S hr hlocks hI dX7_stampRow_67
    · exact absurd c2 (by decide)
  · refine lv_aload_n hx hb dX7_stampRow_0 rfl (lv_at hl 0 rfl) ?_
    refine lv_iload_n hx hb dX7_stampRow_1 rfl (lv_at hl 1 rfl) ?_
    refine tw_callv (tw_rV (As := [.int (nI k)]) (rest := []) S hK hI kX7_138 (c_X7_stampLow l D ad _ _ _ _ (hR.1.1) hk) (t := 1000) (fs := mRoot _) rfl rfl rfl ⟨Nat.le_of_ble_eq_true rfl, Nat.le_of_ble_eq_true rfl⟩ ⟨Nat.le_of_ble_eq_true rfl, Nat.le_of_ble_eq_true rfl⟩ rfl hl.1 rfl (Nat.le_of_ble_eq_true rfl) dX7_stampRow_2) hI (fun H locs hI => ?_)
    have hR := rowOK_low hR hk
    refine lv_iconst (v := 0) hx hb dX7_stampRow_5 (by decide) ?_
    refine lv_istore_n (lv' := [(2, .int 0), (0, .ref (ad 1000)), (1, .int (nI k))]) hx hb dX7_stampRow_6 rfl hl (by decide) rfl (fun ls hl => ?_)
    refine lv_iload_n hx hb dX7_stampRow_7 rfl (lv_at hl 0 rfl) ?_
    refine lv_aload_n hx hb dX7_stampRow_8 rfl (lv_at hl 1 rfl) ?_
    refine gm_13 S hK hI dX7_stampRow_9 ?_
    refine lv_iload_n hx hb dX7_stampRow_12 rfl (lv_at hl 2 rfl) ?_
    refine ln_2 (j := k) S hK hI (by omega) dX7_stampRow_13 ?_
    refine lv_eqi (v := 1) (hR.2.2) ?_
    refine lv_icmp_ge (tgt := 67) hx hb dX7_stampRow_14 (by decide) (fun c3 => ?_) (fun c3 => ?_)
    · exact absurd c3 (by decide)
    · refine lv_aload_n hx hb dX7_stampRow_17 rfl (lv_at hl 1 rfl) ?_
      refine gm_7 S hK hI dX7_stampRow_18 ?_
      refine lv_iload_n hx hb dX7_stampRow_21 rfl (lv_at hl 2 rfl) ?_
      refine ln_1 (j := k) S hK hI (by omega) dX7_stampRow_22 ?_
      refine lv_eqi (v := κ) (hR.2.1) ?_
      refine tw_calli (tw_rS (As := [.int κ]) (rest := []) S hK hI kX7_97 (c_X7_isOfThings l D ad _ _ _) ⟨Nat.le_of_ble_eq_true rfl, Nat.le_of_ble_eq_true rfl⟩ ⟨Nat.le_of_ble_eq_true rfl, Nat.le_of_ble_eq_true rfl⟩ rfl hl.1 rfl (Nat.le_of_ble_eq_true rfl) dX7_stampRow_23) hI (fun H locs hI => ?_)
      refine lv_topi (fun x4 e4 => ?_)
      refine lv_if_eq (tgt := 67) hx hb dX7_stampRow_26 (by decide) (fun c5 => ?_) (fun c5 => ?_)
      · subst e4
        unfold stampRowF
        have es : szS σ k = 1 := by unfold szS; rw [ez]; rfl
        rw [es]
        rw [eκ]
        try rw [each_1]
        try unfold stepF
        try rw [if_pos hT]
        try rw [if_neg (show ¬ (1 : Int32) ≤ 0 from by decide)]
        try rw [if_pos hT]
        exact tw_vret S hr hlocks hI dX7_stampRow_67
      · exact (by subst e4; exact absurd hT c5)
  · have hNum := th_num hT
    refine lv_aload_n hx hb dX7_stampRow_0 rfl (lv_at hl 0 rfl) ?_
    refine lv_iload_n hx hb dX7_stampRow_1 rfl (lv_at hl 1 rfl) ?_
    refine tw_callv (tw_rV (As := [.int (nI k)]) (rest := []) S hK hI kX7_138 (c_X7_stampLow l D ad _ _ _ _ (hR.1.1) hk) (t := 1000) (fs := mRoot _) rfl rfl rfl ⟨Nat.le_of_ble_eq_true rfl, Nat.le_of_ble_eq_true rfl⟩ ⟨Nat.le_of_ble_eq_true rfl, Nat.le_of_ble_eq_true rfl⟩ rfl hl.1 rfl (Nat.le_of_ble_eq_true rfl) dX7_stampRow_2) hI (fun H locs hI => ?_)
    have hR := rowOK_low hR hk
    refine lv_iconst (v := 0) hx hb dX7_stampRow_5 (by decide) ?_
    refine lv_istore_n (lv' := [(2, .int 0), (0, .ref (ad 1000)), (1, .int (nI k))]) hx hb dX7_stampRow_6 rfl hl (by decide) rfl (fun ls hl => ?_)
    refine lv_iload_n hx hb dX7_stampRow_7 rfl (lv_at hl 0 rfl) ?_
    refine lv_aload_n hx hb dX7_stampRow_8 rfl (lv_at hl 1 rfl) ?_
    refine gm_13 S hK hI dX7_stampRow_9 ?_
    refine lv_iload_n hx hb dX7_stampRow_12 rfl (lv_at hl 2 rfl) ?_
    refine ln_2 (j := k) S hK hI (by omega) dX7_stampRow_13 ?_
    refine lv_eqi (v := 1) (hR.2.2) ?_
    refine lv_icmp_ge (tgt := 67) hx hb dX7_stampRow_14 (by decide) (fun c6 => ?_) (fun c6 => ?_)
    · exact absurd c6 (by decide)
    · refine lv_aload_n hx hb dX7_stampRow_17 rfl (lv_at hl 1 rfl) ?_
      refine gm_7 S hK hI dX7_stampRow_18 ?_
      refine lv_iload_n hx hb dX7_stampRow_21 rfl (lv_at hl 2 rfl) ?_
      refine ln_1 (j := k) S hK hI (by omega) dX7_stampRow_22 ?_
      refine lv_eqi (v := κ) (hR.2.1) ?_
      refine tw_calli (tw_rS (As := [.int κ]) (rest := []) S hK hI kX7_97 (c_X7_isOfThings l D ad _ _ _) ⟨Nat.le_of_ble_eq_true rfl, Nat.le_of_ble_eq_true rfl⟩ ⟨Nat.le_of_ble_eq_true rfl, Nat.le_of_ble_eq_true rfl⟩ rfl hl.1 rfl (Nat.le_of_ble_eq_true rfl) dX7_stampRow_23) hI (fun H locs hI => ?_)
      refine lv_topi (fun x7 e7 => ?_)
      refine lv_if_eq (tgt := 67) hx hb dX7_stampRow_26 (by decide) (fun c8 => ?_) (fun c8 => ?_)
      · exact (by subst e7; exact absurd c8 hT)
      · refine lv_aload_n hx hb dX7_stampRow_29 rfl (lv_at hl 1 rfl) ?_
        refine gm_19 S hK hI dX7_stampRow_30 ?_
        refine lv_iconst (v := 3) hx hb dX7_stampRow_33 (by decide) ?_
        refine lv_iload_n hx hb dX7_stampRow_34 rfl (lv_at hl 2 rfl) ?_
        refine lv_imul hx hb dX7_stampRow_35 ?_
        refine lv_eqi (v := (nI (3 * k))) (nM (a := 3) (b := k) (c := 3 * k) (by omega)) ?_
        refine lv_iload_n hx hb dX7_stampRow_36 rfl (lv_at hl 0 rfl) ?_
        refine lv_iadd hx hb dX7_stampRow_37 ?_
        refine lv_eqi (v := (nI (3 * k))) (nA (a := 3 * k) (b := 0) (c := 3 * k) (by omega)) ?_
        refine ln_4 (j := 3 * k) S hK hI (by omega) dX7_stampRow_38 ?_
        refine lv_topl (fun x9 e9 => ?_)
        refine lv_ldc2 (own := RX7) (v := (-1)) hx hb S.2.2.2.1 (S.2.2.2.2 _ (tw_mem (by decide +kernel) rfl)) dX7_stampRow_39 ?_
        refine W.lcmp hx hb dX7_stampRow_42 ?_
        refine lv_topi (fun x10 e10 => ?_)
        refine lv_if_eq (tgt := 61) hx hb dX7_stampRow_43 (by decide) (fun c11 => ?_) (fun c11 => ?_)
        · refine lv_iinc (v := 1) (lv' := [(2, .int 1), (0, .ref (ad 1000)), (1, .int (nI k))]) hx hb dX7_stampRow_61 hl (k := 0) rfl (by decide) (by decide) rfl (fun ls hl => ?_)
          refine lv_goto (tgt := 7) hx hb dX7_stampRow_64 (by decide) ?_
          refine lv_iload_n hx hb dX7_stampRow_7 rfl (lv_at hl 0 rfl) ?_
          refine lv_aload_n hx hb dX7_stampRow_8 rfl (lv_at hl 1 rfl) ?_
          refine gm_13 S hK hI dX7_stampRow_9 ?_
          refine lv_iload_n hx hb dX7_stampRow_12 rfl (lv_at hl 2 rfl) ?_
          refine ln_2 (j := k) S hK hI (by omega) dX7_stampRow_13 ?_
          refine lv_eqi (v := 1) (hR.2.2) ?_
          refine lv_icmp_ge (tgt := 67) hx hb dX7_stampRow_14 (by decide) (fun c12 => ?_) (fun c12 => ?_)
          · subst e10
            subst e9
            subst e7
            unfold stampRowF
            have es : szS σ k = 1 := by unfold szS; rw [ez]; rfl
            rw [es]
            rw [eκ]
            try rw [each_1]
            try unfold stepF
            try rw [if_neg hT]
            try rw [if_neg (show ¬ (1 : Int32) ≤ 0 from by decide)]
            try rw [if_neg hT]
            try rw [if_pos c11]
            try rw [if_pos (show (1 : Int32) ≤ 1 from by decide)]
            exact tw_vret S hr hlocks hI dX7_stampRow_67
          · exact absurd c12 (by decide)
        · refine lv_aload_n hx hb dX7_stampRow_46 rfl (lv_at hl 1 rfl) ?_
          refine lv_aload_n hx hb dX7_stampRow_47 rfl (lv_at hl 1 rfl) ?_
          refine gm_19 S hK hI dX7_stampRow_48 ?_
          refine lv_iconst (v := 3) hx hb dX7_stampRow_51 (by decide) ?_
          refine lv_iload_n hx hb dX7_stampRow_52 rfl (lv_at hl 2 rfl) ?_
          refine lv_imul hx hb dX7_stampRow_53 ?_
          refine lv_eqi (v := (nI (3 * k))) (nM (a := 3) (b := k) (c := 3 * k) (by omega)) ?_
          refine lv_iload_n hx hb dX7_stampRow_54 rfl (lv_at hl 0 rfl) ?_
          refine lv_iadd hx hb dX7_stampRow_55 ?_
          refine lv_eqi (v := (nI (3 * k))) (nA (a := 3 * k) (b := 0) (c := 3 * k) (by omega)) ?_
          refine ln_4 (j := 3 * k) S hK hI (by omega) dX7_stampRow_56 ?_
          refine lv_topl (fun x13 e13 => ?_)
          have hj13 : vp_in x13.toInt32 60 := by subst e13; subst e10; subst e9; subst e7; exact cell_in hR hk hz3 hNum (i := 0) (a := 3 * k) (by decide) (by omega) c11
          refine lv_l2i hx hb dX7_stampRow_57 rfl ?_
          refine lv_eqi (v := nI (ix x13.toInt32)) (vp_nI hj13 (by decide)) ?_
          refine tw_callv (tw_rV (As := [.int (nI (ix x13.toInt32))]) (rest := []) S hK hI kX7_138 (c_X7_stampLow l D ad _ _ _ _ (hR.1.1) (vp_ix hj13)) (t := 1000) (fs := mRoot _) rfl rfl rfl ⟨Nat.le_of_ble_eq_true rfl, Nat.le_of_ble_eq_true rfl⟩ ⟨Nat.le_of_ble_eq_true rfl, Nat.le_of_ble_eq_true rfl⟩ rfl hl.1 rfl (Nat.le_of_ble_eq_true rfl) dX7_stampRow_58) hI (fun H locs hI => ?_)
          have hR := rowOK_low hR (vp_ix hj13)
          refine lv_iinc (v := 1) (lv' := [(2, .int 1), (0, .ref (ad 1000)), (1, .int (nI k))]) hx hb dX7_stampRow_61 hl (k := 0) rfl (by decide) (by decide) rfl (fun ls hl => ?_)
          refine lv_goto (tgt := 7) hx hb dX7_stampRow_64 (by decide) ?_
          refine lv_iload_n hx hb dX7_stampRow_7 rfl (lv_at hl 0 rfl) ?_
          refine lv_aload_n hx hb dX7_stampRow_8 rfl (lv_at hl 1 rfl) ?_
          refine gm_13 S hK hI dX7_stampRow_9 ?_
          refine lv_iload_n hx hb dX7_stampRow_12 rfl (lv_at hl 2 rfl) ?_
          refine ln_2 (j := k) S hK hI (by omega) dX7_stampRow_13 ?_
          refine lv_eqi (v := 1) (hR.2.2) ?_
          refine lv_icmp_ge (tgt := 67) hx hb dX7_stampRow_14 (by decide) (fun c14 => ?_) (fun c14 => ?_)
          · subst e13
            subst e10
            subst e9
            subst e7
            unfold stampRowF
            have es : szS σ k = 1 := by unfold szS; rw [ez]; rfl
            rw [es]
            rw [eκ]
            try rw [each_1]
            try unfold stepF
            try rw [if_neg hT]
            try rw [if_neg (show ¬ (1 : Int32) ≤ 0 from by decide)]
            try rw [if_neg hT]
            try rw [if_neg c11]
            try rw [if_pos (show (1 : Int32) ≤ 1 from by decide)]
            exact tw_vret S hr hlocks hI dX7_stampRow_67
          · exact absurd c14 (by decide)
  · refine lv_aload_n hx hb dX7_stampRow_0 rfl (lv_at hl 0 rfl) ?_
    refine lv_iload_n hx hb dX7_stampRow_1 rfl (lv_at hl 1 rfl) ?_
    refine tw_callv (tw_rV (As := [.int (nI k)]) (rest := []) S hK hI kX7_138 (c_X7_stampLow l D ad _ _ _ _ (hR.1.1) hk) (t := 1000) (fs := mRoot _) rfl rfl rfl ⟨Nat.le_of_ble_eq_true rfl, Nat.le_of_ble_eq_true rfl⟩ ⟨Nat.le_of_ble_eq_true rfl, Nat.le_of_ble_eq_true rfl⟩ rfl hl.1 rfl (Nat.le_of_ble_eq_true rfl) dX7_stampRow_2) hI (fun H locs hI => ?_)
    have hR := rowOK_low hR hk
    refine lv_iconst (v := 0) hx hb dX7_stampRow_5 (by decide) ?_
    refine lv_istore_n (lv' := [(2, .int 0), (0, .ref (ad 1000)), (1, .int (nI k))]) hx hb dX7_stampRow_6 rfl hl (by decide) rfl (fun ls hl => ?_)
    refine lv_iload_n hx hb dX7_stampRow_7 rfl (lv_at hl 0 rfl) ?_
    refine lv_aload_n hx hb dX7_stampRow_8 rfl (lv_at hl 1 rfl) ?_
    refine gm_13 S hK hI dX7_stampRow_9 ?_
    refine lv_iload_n hx hb dX7_stampRow_12 rfl (lv_at hl 2 rfl) ?_
    refine ln_2 (j := k) S hK hI (by omega) dX7_stampRow_13 ?_
    refine lv_eqi (v := 2) (hR.2.2) ?_
    refine lv_icmp_ge (tgt := 67) hx hb dX7_stampRow_14 (by decide) (fun c15 => ?_) (fun c15 => ?_)
    · exact absurd c15 (by decide)
    · refine lv_aload_n hx hb dX7_stampRow_17 rfl (lv_at hl 1 rfl) ?_
      refine gm_7 S hK hI dX7_stampRow_18 ?_
      refine lv_iload_n hx hb dX7_stampRow_21 rfl (lv_at hl 2 rfl) ?_
      refine ln_1 (j := k) S hK hI (by omega) dX7_stampRow_22 ?_
      refine lv_eqi (v := κ) (hR.2.1) ?_
      refine tw_calli (tw_rS (As := [.int κ]) (rest := []) S hK hI kX7_97 (c_X7_isOfThings l D ad _ _ _) ⟨Nat.le_of_ble_eq_true rfl, Nat.le_of_ble_eq_true rfl⟩ ⟨Nat.le_of_ble_eq_true rfl, Nat.le_of_ble_eq_true rfl⟩ rfl hl.1 rfl (Nat.le_of_ble_eq_true rfl) dX7_stampRow_23) hI (fun H locs hI => ?_)
      refine lv_topi (fun x16 e16 => ?_)
      refine lv_if_eq (tgt := 67) hx hb dX7_stampRow_26 (by decide) (fun c17 => ?_) (fun c17 => ?_)
      · subst e16
        unfold stampRowF
        have es : szS σ k = 2 := by unfold szS; rw [ez]; rfl
        rw [es]
        rw [eκ]
        try rw [each_2]
        try unfold stepF
        try rw [if_pos hT]
        try rw [if_neg (show ¬ (2 : Int32) ≤ 0 from by decide)]
        try rw [if_pos hT]
        exact tw_vret S hr hlocks hI dX7_stampRow_67
      · exact (by subst e16; exact absurd hT c17)
  · have hNum := th_num hT
    refine lv_aload_n hx hb dX7_stampRow_0 rfl (lv_at hl 0 rfl) ?_
    refine lv_iload_n hx hb dX7_stampRow_1 rfl (lv_at hl 1 rfl) ?_
    refine tw_callv (tw_rV (As := [.int (nI k)]) (rest := []) S hK hI kX7_138 (c_X7_stampLow l D ad _ _ _ _ (hR.1.1) hk) (t := 1000) (fs := mRoot _) rfl rfl rfl ⟨Nat.le_of_ble_eq_true rfl, Nat.le_of_ble_eq_true rfl⟩ ⟨Nat.le_of_ble_eq_true rfl, Nat.le_of_ble_eq_true rfl⟩ rfl hl.1 rfl (Nat.le_of_ble_eq_true rfl) dX7_stampRow_2) hI (fun H locs hI => ?_)
    have hR := rowOK_low hR hk
    refine lv_iconst (v := 0) hx hb dX7_stampRow_5 (by decide) ?_
    refine lv_istore_n (lv' := [(2, .int 0), (0, .ref (ad 1000)), (1, .int (nI k))]) hx hb dX7_stampRow_6 rfl hl (by decide) rfl (fun ls hl => ?_)
    refine lv_iload_n hx hb dX7_stampRow_7 rfl (lv_at hl 0 rfl) ?_
    refine lv_aload_n hx hb dX7_stampRow_8 rfl (lv_at hl 1 rfl) ?_
    refine gm_13 S hK hI dX7_stampRow_9 ?_
    refine lv_iload_n hx hb dX7_stampRow_12 rfl (lv_at hl 2 rfl) ?_
    refine ln_2 (j := k) S hK hI (by omega) dX7_stampRow_13 ?_
    refine lv_eqi (v := 2) (hR.2.2) ?_
    refine lv_icmp_ge (tgt := 67) hx hb dX7_stampRow_14 (by decide) (fun c18 => ?_) (fun c18 => ?_)
    · exact absurd c18 (by decide)
    · refine lv_aload_n hx hb dX7_stampRow_17 rfl (lv_at hl 1 rfl) ?_
      refine gm_7 S hK hI dX7_stampRow_18 ?_
      refine lv_iload_n hx hb dX7_stampRow_21 rfl (lv_at hl 2 rfl) ?_
      refine ln_1 (j := k) S hK hI (by omega) dX7_stampRow_22 ?_
      refine lv_eqi (v := κ) (hR.2.1) ?_
      refine tw_calli (tw_rS (As := [.int κ]) (rest := []) S hK hI kX7_97 (c_X7_isOfThings l D ad _ _ _) ⟨Nat.le_of_ble_eq_true rfl, Nat.le_of_ble_eq_true rfl⟩ ⟨Nat.le_of_ble_eq_true rfl, Nat.le_of_ble_eq_true rfl⟩ rfl hl.1 rfl (Nat.le_of_ble_eq_true rfl) dX7_stampRow_23) hI (fun H locs hI => ?_)
      refine lv_topi (fun x19 e19 => ?_)
      refine lv_if_eq (tgt := 67) hx hb dX7_stampRow_26 (by decide) (fun c20 => ?_) (fun c20 => ?_)
      · exact (by subst e19; exact absurd c20 hT)
      · refine lv_aload_n hx hb dX7_stampRow_29 rfl (lv_at hl 1 rfl) ?_
        refine gm_19 S hK hI dX7_stampRow_30 ?_
        refine lv_iconst (v := 3) hx hb dX7_stampRow_33 (by decide) ?_
        refine lv_iload_n hx hb dX7_stampRow_34 rfl (lv_at hl 2 rfl) ?_
        refine lv_imul hx hb dX7_stampRow_35 ?_
        refine lv_eqi (v := (nI (3 * k))) (nM (a := 3) (b := k) (c := 3 * k) (by omega)) ?_
        refine lv_iload_n hx hb dX7_stampRow_36 rfl (lv_at hl 0 rfl) ?_
        refine lv_iadd hx hb dX7_stampRow_37 ?_
        refine lv_eqi (v := (nI (3 * k))) (nA (a := 3 * k) (b := 0) (c := 3 * k) (by omega)) ?_
        refine ln_4 (j := 3 * k) S hK hI (by omega) dX7_stampRow_38 ?_
        refine lv_topl (fun x21 e21 => ?_)
        refine lv_ldc2 (own := RX7) (v := (-1)) hx hb S.2.2.2.1 (S.2.2.2.2 _ (tw_mem (by decide +kernel) rfl)) dX7_stampRow_39 ?_
        refine W.lcmp hx hb dX7_stampRow_42 ?_
        refine lv_topi (fun x22 e22 => ?_)
        refine lv_if_eq (tgt := 61) hx hb dX7_stampRow_43 (by decide) (fun c23 => ?_) (fun c23 => ?_)
        · refine lv_iinc (v := 1) (lv' := [(2, .int 1), (0, .ref (ad 1000)), (1, .int (nI k))]) hx hb dX7_stampRow_61 hl (k := 0) rfl (by decide) (by decide) rfl (fun ls hl => ?_)
          refine lv_goto (tgt := 7) hx hb dX7_stampRow_64 (by decide) ?_
          refine lv_iload_n hx hb dX7_stampRow_7 rfl (lv_at hl 0 rfl) ?_
          refine lv_aload_n hx hb dX7_stampRow_8 rfl (lv_at hl 1 rfl) ?_
          refine gm_13 S hK hI dX7_stampRow_9 ?_
          refine lv_iload_n hx hb dX7_stampRow_12 rfl (lv_at hl 2 rfl) ?_
          refine ln_2 (j := k) S hK hI (by omega) dX7_stampRow_13 ?_
          refine lv_eqi (v := 2) (hR.2.2) ?_
          refine lv_icmp_ge (tgt := 67) hx hb dX7_stampRow_14 (by decide) (fun c24 => ?_) (fun c24 => ?_)
          · exact absurd c24 (by decide)
          · refine lv_aload_n hx hb dX7_stampRow_17 rfl (lv_at hl 1 rfl) ?_
            refine gm_7 S hK hI dX7_stampRow_18 ?_
            refine lv_iload_n hx hb dX7_stampRow_21 rfl (lv_at hl 2 rfl) ?_
            refine ln_1 (j := k) S hK hI (by omega) dX7_stampRow_22 ?_
            refine lv_eqi (v := κ) (hR.2.1) ?_
            refine tw_calli (tw_rS (As := [.int κ]) (rest := []) S hK hI kX7_97 (c_X7_isOfThings l D ad _ _ _) ⟨Nat.le_of_ble_eq_true rfl, Nat.le_of_ble_eq_true rfl⟩ ⟨Nat.le_of_ble_eq_true rfl, Nat.le_of_ble_eq_true rfl⟩ rfl hl.1 rfl (Nat.le_of_ble_eq_true rfl) dX7_stampRow_23) hI (fun H locs hI => ?_)
            refine lv_topi (fun x25 e25 => ?_)
            refine lv_if_eq (tgt := 67) hx hb dX7_stampRow_26 (by decide) (fun c26 => ?_) (fun c26 => ?_)
            · exact (by subst e25; subst e22; subst e21; subst e19; exact absurd c26 hT)
            · refine lv_aload_n hx hb dX7_stampRow_29 rfl (lv_at hl 1 rfl) ?_
              refine gm_19 S hK hI dX7_stampRow_30 ?_
              refine lv_iconst (v := 3) hx hb dX7_stampRow_33 (by decide) ?_
              refine lv_iload_n hx hb dX7_stampRow_34 rfl (lv_at hl 2 rfl) ?_
              refine lv_imul hx hb dX7_stampRow_35 ?_
              refine lv_eqi (v := (nI (3 * k))) (nM (a := 3) (b := k) (c := 3 * k) (by omega)) ?_
              refine lv_iload_n hx hb dX7_stampRow_36 rfl (lv_at hl 0 rfl) ?_
              refine lv_iadd hx hb dX7_stampRow_37 ?_
              refine lv_eqi (v := (nI (3 * k + 1))) (nA (a := 3 * k) (b := 1) (c := 3 * k + 1) (by omega)) ?_
              refine ln_4 (j := 3 * k + 1) S hK hI (by omega) dX7_stampRow_38 ?_
              refine lv_topl (fun x27 e27 => ?_)
              refine lv_ldc2 (own := RX7) (v := (-1)) hx hb S.2.2.2.1 (S.2.2.2.2 _ (tw_mem (by decide +kernel) rfl)) dX7_stampRow_39 ?_
              refine W.lcmp hx hb dX7_stampRow_42 ?_
              refine lv_topi (fun x28 e28 => ?_)
              refine lv_if_eq (tgt := 61) hx hb dX7_stampRow_43 (by decide) (fun c29 => ?_) (fun c29 => ?_)
              · refine lv_iinc (v := 2) (lv' := [(2, .int 2), (0, .ref (ad 1000)), (1, .int (nI k))]) hx hb dX7_stampRow_61 hl (k := 0) rfl (by decide) (by decide) rfl (fun ls hl => ?_)
                refine lv_goto (tgt := 7) hx hb dX7_stampRow_64 (by decide) ?_
                refine lv_iload_n hx hb dX7_stampRow_7 rfl (lv_at hl 0 rfl) ?_
                refine lv_aload_n hx hb dX7_stampRow_8 rfl (lv_at hl 1 rfl) ?_
                refine gm_13 S hK hI dX7_stampRow_9 ?_
                refine lv_iload_n hx hb dX7_stampRow_12 rfl (lv_at hl 2 rfl) ?_
                refine ln_2 (j := k) S hK hI (by omega) dX7_stampRow_13 ?_
                refine lv_eqi (v := 2) (hR.2.2) ?_
                refine lv_icmp_ge (tgt := 67) hx hb dX7_stampRow_14 (by decide) (fun c30 => ?_) (fun c30 => ?_)
                · subst e28
                  subst e27
                  subst e25
                  subst e22
                  subst e21
                  subst e19
                  unfold stampRowF
                  have es : szS σ k = 2 := by unfold szS; rw [ez]; rfl
                  rw [es]
                  rw [eκ]
                  try rw [each_2]
                  try unfold stepF
                  try rw [if_neg hT]
                  try rw [if_neg (show ¬ (2 : Int32) ≤ 0 from by decide)]
                  try rw [if_neg hT]
                  try rw [if_pos c23]
                  try rw [if_neg (show ¬ (2 : Int32) ≤ 1 from by decide)]
                  try rw [if_neg hT]
                  try rw [if_pos c29]
                  try rw [if_pos (show (2 : Int32) ≤ 2 from by decide)]
                  exact tw_vret S hr hlocks hI dX7_stampRow_67
                · exact absurd c30 (by decide)
              · refine lv_aload_n hx hb dX7_stampRow_46 rfl (lv_at hl 1 rfl) ?_
                refine lv_aload_n hx hb dX7_stampRow_47 rfl (lv_at hl 1 rfl) ?_
                refine gm_19 S hK hI dX7_stampRow_48 ?_
                refine lv_iconst (v := 3) hx hb dX7_stampRow_51 (by decide) ?_
                refine lv_iload_n hx hb dX7_stampRow_52 rfl (lv_at hl 2 rfl) ?_
                refine lv_imul hx hb dX7_stampRow_53 ?_
                refine lv_eqi (v := (nI (3 * k))) (nM (a := 3) (b := k) (c := 3 * k) (by omega)) ?_
                refine lv_iload_n hx hb dX7_stampRow_54 rfl (lv_at hl 0 rfl) ?_
                refine lv_iadd hx hb dX7_stampRow_55 ?_
                refine lv_eqi (v := (nI (3 * k + 1))) (nA (a := 3 * k) (b := 1) (c := 3 * k + 1) (by omega)) ?_
                refine ln_4 (j := 3 * k + 1) S hK hI (by omega) dX7_stampRow_56 ?_
                refine lv_topl (fun x31 e31 => ?_)
                have hj31 : vp_in x31.toInt32 60 := by subst e31; subst e28; subst e27; subst e25; subst e22; subst e21; subst e19; exact cell_in hR hk hz3 hNum (i := 1) (a := 3 * k + 1) (by decide) (by omega) c29
                refine lv_l2i hx hb dX7_stampRow_57 rfl ?_
                refine lv_eqi (v := nI (ix x31.toInt32)) (vp_nI hj31 (by decide)) ?_
                refine tw_callv (tw_rV (As := [.int (nI (ix x31.toInt32))]) (rest := []) S hK hI kX7_138 (c_X7_stampLow l D ad _ _ _ _ (hR.1.1) (vp_ix hj31)) (t := 1000) (fs := mRoot _) rfl rfl rfl ⟨Nat.le_of_ble_eq_true rfl, Nat.le_of_ble_eq_true rfl⟩ ⟨Nat.le_of_ble_eq_true rfl, Nat.le_of_ble_eq_true rfl⟩ rfl hl.1 rfl (Nat.le_of_ble_eq_true rfl) dX7_stampRow_58) hI (fun H locs hI => ?_)
                have hR := rowOK_low hR (vp_ix hj31)
                refine lv_iinc (v := 2) (lv' := [(2, .int 2), (0, .ref (ad 1000)), (1, .int (nI k))]) hx hb dX7_stampRow_61 hl (k := 0) rfl (by decide) (by decide) rfl (fun ls hl => ?_)
                refine lv_goto (tgt := 7) hx hb dX7_stampRow_64 (by decide) ?_
                refine lv_iload_n hx hb dX7_stampRow_7 rfl (lv_at hl 0 rfl) ?_
                refine lv_aload_n hx hb dX7_stampRow_8 rfl (lv_at hl 1 rfl) ?_
                refine gm_13 S hK hI dX7_stampRow_9 ?_
                refine lv_iload_n hx hb dX7_stampRow_12 rfl (lv_at hl 2 rfl) ?_
                refine ln_2 (j := k) S hK hI (by omega) dX7_stampRow_13 ?_
                refine lv_eqi (v := 2) (hR.2.2) ?_
                refine lv_icmp_ge (tgt := 67) hx hb dX7_stampRow_14 (by decide) (fun c32 => ?_) (fun c32 => ?_)
                · subst e31
                  subst e28
                  subst e27
                  subst e25
                  subst e22
                  subst e21
                  subst e19
                  unfold stampRowF
                  have es : szS σ k = 2 := by unfold szS; rw [ez]; rfl
                  rw [es]
                  rw [eκ]
                  try rw [each_2]
                  try unfold stepF
                  try rw [if_neg hT]
                  try rw [if_neg (show ¬ (2 : Int32) ≤ 0 from by decide)]
                  try rw [if_neg hT]
                  try rw [if_pos c23]
                  try rw [if_neg (show ¬ (2 : Int32) ≤ 1 from by decide)]
                  try rw [if_neg hT]
                  try rw [if_neg c29]
                  try rw [if_pos (show (2 : Int32) ≤ 2 from by decide)]
                  exact tw_vret S hr hlocks hI dX7_stampRow_67
                · exact absurd c32 (by decide)
        · refine lv_aload_n hx hb dX7_stampRow_46 rfl (lv_at hl 1 rfl) ?_
          refine lv_aload_n hx hb dX7_stampRow_47 rfl (lv_at hl 1 rfl) ?_
          refine gm_19 S hK hI dX7_stampRow_48 ?_
          refine lv_iconst (v := 3) hx hb dX7_stampRow_51 (by decide) ?_
          refine lv_iload_n hx hb dX7_stampRow_52 rfl (lv_at hl 2 rfl) ?_
          refine lv_imul hx hb dX7_stampRow_53 ?_
          refine lv_eqi (v := (nI (3 * k))) (nM (a := 3) (b := k) (c := 3 * k) (by omega)) ?_
          refine lv_iload_n hx hb dX7_stampRow_54 rfl (lv_at hl 0 rfl) ?_
          refine lv_iadd hx hb dX7_stampRow_55 ?_
          refine lv_eqi (v := (nI (3 * k))) (nA (a := 3 * k) (b := 0) (c := 3 * k) (by omega)) ?_
          refine ln_4 (j := 3 * k) S hK hI (by omega) dX7_stampRow_56 ?_
          refine lv_topl (fun x33 e33 => ?_)
          have hj33 : vp_in x33.toInt32 60 := by subst e33; subst e22; subst e21; subst e19; exact cell_in hR hk hz3 hNum (i := 0) (a := 3 * k) (by decide) (by omega) c23
          refine lv_l2i hx hb dX7_stampRow_57 rfl ?_
          refine lv_eqi (v := nI (ix x33.toInt32)) (vp_nI hj33 (by decide)) ?_
          refine tw_callv (tw_rV (As := [.int (nI (ix x33.toInt32))]) (rest := []) S hK hI kX7_138 (c_X7_stampLow l D ad _ _ _ _ (hR.1.1) (vp_ix hj33)) (t := 1000) (fs := mRoot _) rfl rfl rfl ⟨Nat.le_of_ble_eq_true rfl, Nat.le_of_ble_eq_true rfl⟩ ⟨Nat.le_of_ble_eq_true rfl, Nat.le_of_ble_eq_true rfl⟩ rfl hl.1 rfl (Nat.le_of_ble_eq_true rfl) dX7_stampRow_58) hI (fun H locs hI => ?_)
          have hR := rowOK_low hR (vp_ix hj33)
          refine lv_iinc (v := 1) (lv' := [(2, .int 1), (0, .ref (ad 1000)), (1, .int (nI k))]) hx hb dX7_stampRow_61 hl (k := 0) rfl (by decide) (by decide) rfl (fun ls hl => ?_)
          refine lv_goto (tgt := 7) hx hb dX7_stampRow_64 (by decide) ?_
          refine lv_iload_n hx hb dX7_stampRow_7 rfl (lv_at hl 0 rfl) ?_
          refine lv_aload_n hx hb dX7_stampRow_8 rfl (lv_at hl 1 rfl) ?_
          refine gm_13 S hK hI dX7_stampRow_9 ?_
          refine lv_iload_n hx hb dX7_stampRow_12 rfl (lv_at hl 2 rfl) ?_
          refine ln_2 (j := k) S hK hI (by omega) dX7_stampRow_13 ?_
          refine lv_eqi (v := 2) (hR.2.2) ?_
          refine lv_icmp_ge (tgt := 67) hx hb dX7_stampRow_14 (by decide) (fun c34 => ?_) (fun c34 => ?_)
          · exact absurd c34 (by decide)
          · refine lv_aload_n hx hb dX7_stampRow_17 rfl (lv_at hl 1 rfl) ?_
            refine gm_7 S hK hI dX7_stampRow_18 ?_
            refine lv_iload_n hx hb dX7_stampRow_21 rfl (lv_at hl 2 rfl) ?_
            refine ln_1 (j := k) S hK hI (by omega) dX7_stampRow_22 ?_
            refine lv_eqi (v := κ) (hR.2.1) ?_
            refine tw_calli (tw_rS (As := [.int κ]) (rest := []) S hK hI kX7_97 (c_X7_isOfThings l D ad _ _ _) ⟨Nat.le_of_ble_eq_true rfl, Nat.le_of_ble_eq_true rfl⟩ ⟨Nat.le_of_ble_eq_true rfl, Nat.le_of_ble_eq_true rfl⟩ rfl hl.1 rfl (Nat.le_of_ble_eq_true rfl) dX7_stampRow_23) hI (fun H locs hI => ?_)
            refine lv_topi (fun x35 e35 => ?_)
            refine lv_if_eq (tgt := 67) hx hb dX7_stampRow_26 (by decide) (fun c36 => ?_) (fun c36 => ?_)
            · exact (by subst e35; subst e33; subst e22; subst e21; subst e19; exact absurd c36 hT)
            · refine lv_aload_n hx hb dX7_stampRow_29 rfl (lv_at hl 1 rfl) ?_
              refine gm_19 S hK hI dX7_stampRow_30 ?_
              refine lv_iconst (v := 3) hx hb dX7_stampRow_33 (by decide) ?_
              refine lv_iload_n hx hb dX7_stampRow_34 rfl (lv_at hl 2 rfl) ?_
              refine lv_imul hx hb dX7_stampRow_35 ?_
              refine lv_eqi (v := (nI (3 * k))) (nM (a := 3) (b := k) (c := 3 * k) (by omega)) ?_
              refine lv_iload_n hx hb dX7_stampRow_36 rfl (lv_at hl 0 rfl) ?_
              refine lv_iadd hx hb dX7_stampRow_37 ?_
              refine lv_eqi (v := (nI (3 * k + 1))) (nA (a := 3 * k) (b := 1) (c := 3 * k + 1) (by omega)) ?_
              refine ln_4 (j := 3 * k + 1) S hK hI (by omega) dX7_stampRow_38 ?_
              refine lv_topl (fun x37 e37 => ?_)
              refine lv_ldc2 (own := RX7) (v := (-1)) hx hb S.2.2.2.1 (S.2.2.2.2 _ (tw_mem (by decide +kernel) rfl)) dX7_stampRow_39 ?_
              refine W.lcmp hx hb dX7_stampRow_42 ?_
              refine lv_topi (fun x38 e38 => ?_)
              refine lv_if_eq (tgt := 61) hx hb dX7_stampRow_43 (by decide) (fun c39 => ?_) (fun c39 => ?_)
              · refine lv_iinc (v := 2) (lv' := [(2, .int 2), (0, .ref (ad 1000)), (1, .int (nI k))]) hx hb dX7_stampRow_61 hl (k := 0) rfl (by decide) (by decide) rfl (fun ls hl => ?_)
                refine lv_goto (tgt := 7) hx hb dX7_stampRow_64 (by decide) ?_
                refine lv_iload_n hx hb dX7_stampRow_7 rfl (lv_at hl 0 rfl) ?_
                refine lv_aload_n hx hb dX7_stampRow_8 rfl (lv_at hl 1 rfl) ?_
                refine gm_13 S hK hI dX7_stampRow_9 ?_
                refine lv_iload_n hx hb dX7_stampRow_12 rfl (lv_at hl 2 rfl) ?_
                refine ln_2 (j := k) S hK hI (by omega) dX7_stampRow_13 ?_
                refine lv_eqi (v := 2) (hR.2.2) ?_
                refine lv_icmp_ge (tgt := 67) hx hb dX7_stampRow_14 (by decide) (fun c40 => ?_) (fun c40 => ?_)
                · subst e38
                  subst e37
                  subst e35
                  subst e33
                  subst e22
                  subst e21
                  subst e19
                  unfold stampRowF
                  have es : szS σ k = 2 := by unfold szS; rw [ez]; rfl
                  rw [es]
                  rw [eκ]
                  try rw [each_2]
                  try unfold stepF
                  try rw [if_neg hT]
                  try rw [if_neg (show ¬ (2 : Int32) ≤ 0 from by decide)]
                  try rw [if_neg hT]
                  try rw [if_neg c23]
                  try rw [if_neg (show ¬ (2 : Int32) ≤ 1 from by decide)]
                  try rw [if_neg hT]
                  try rw [if_pos c39]
                  try rw [if_pos (show (2 : Int32) ≤ 2 from by decide)]
                  exact tw_vret S hr hlocks hI dX7_stampRow_67
                · exact absurd c40 (by decide)
              · refine lv_aload_n hx hb dX7_stampRow_46 rfl (lv_at hl 1 rfl) ?_
                refine lv_aload_n hx hb dX7_stampRow_47 rfl (lv_at hl 1 rfl) ?_
                refine gm_19 S hK hI dX7_stampRow_48 ?_
                refine lv_iconst (v := 3) hx hb dX7_stampRow_51 (by decide) ?_
                refine lv_iload_n hx hb dX7_stampRow_52 rfl (lv_at hl 2 rfl) ?_
                refine lv_imul hx hb dX7_stampRow_53 ?_
                refine lv_eqi (v := (nI (3 * k))) (nM (a := 3) (b := k) (c := 3 * k) (by omega)) ?_
                refine lv_iload_n hx hb dX7_stampRow_54 rfl (lv_at hl 0 rfl) ?_
                refine lv_iadd hx hb dX7_stampRow_55 ?_
                refine lv_eqi (v := (nI (3 * k + 1))) (nA (a := 3 * k) (b := 1) (c := 3 * k + 1) (by omega)) ?_
                refine ln_4 (j := 3 * k + 1) S hK hI (by omega) dX7_stampRow_56 ?_
                refine lv_topl (fun x41 e41 => ?_)
                have hj41 : vp_in x41.toInt32 60 := by subst e41; subst e38; subst e37; subst e35; subst e33; subst e22; subst e21; subst e19; exact cell_in hR hk hz3 hNum (i := 1) (a := 3 * k + 1) (by decide) (by omega) c39
                refine lv_l2i hx hb dX7_stampRow_57 rfl ?_
                refine lv_eqi (v := nI (ix x41.toInt32)) (vp_nI hj41 (by decide)) ?_
                refine tw_callv (tw_rV (As := [.int (nI (ix x41.toInt32))]) (rest := []) S hK hI kX7_138 (c_X7_stampLow l D ad _ _ _ _ (hR.1.1) (vp_ix hj41)) (t := 1000) (fs := mRoot _) rfl rfl rfl ⟨Nat.le_of_ble_eq_true rfl, Nat.le_of_ble_eq_true rfl⟩ ⟨Nat.le_of_ble_eq_true rfl, Nat.le_of_ble_eq_true rfl⟩ rfl hl.1 rfl (Nat.le_of_ble_eq_true rfl) dX7_stampRow_58) hI (fun H locs hI => ?_)
                have hR := rowOK_low hR (vp_ix hj41)
                refine lv_iinc (v := 2) (lv' := [(2, .int 2), (0, .ref (ad 1000)), (1, .int (nI k))]) hx hb dX7_stampRow_61 hl (k := 0) rfl (by decide) (by decide) rfl (fun ls hl => ?_)
                refine lv_goto (tgt := 7) hx hb dX7_stampRow_64 (by decide) ?_
                refine lv_iload_n hx hb dX7_stampRow_7 rfl (lv_at hl 0 rfl) ?_
                refine lv_aload_n hx hb dX7_stampRow_8 rfl (lv_at hl 1 rfl) ?_
                refine gm_13 S hK hI dX7_stampRow_9 ?_
                refine lv_iload_n hx hb dX7_stampRow_12 rfl (lv_at hl 2 rfl) ?_
                refine ln_2 (j := k) S hK hI (by omega) dX7_stampRow_13 ?_
                refine lv_eqi (v := 2) (hR.2.2) ?_
                refine lv_icmp_ge (tgt := 67) hx hb dX7_stampRow_14 (by decide) (fun c42 => ?_) (fun c42 => ?_)
                · subst e41
                  subst e38
                  subst e37
                  subst e35
                  subst e33
                  subst e22
                  subst e21
                  subst e19
                  unfold stampRowF
                  have es : szS σ k = 2 := by unfold szS; rw [ez]; rfl
                  rw [es]
                  rw [eκ]
                  try rw [each_2]
                  try unfold stepF
                  try rw [if_neg hT]
                  try rw [if_neg (show ¬ (2 : Int32) ≤ 0 from by decide)]
                  try rw [if_neg hT]
                  try rw [if_neg c23]
                  try rw [if_neg (show ¬ (2 : Int32) ≤ 1 from by decide)]
                  try rw [if_neg hT]
                  try rw [if_neg c39]
                  try rw [if_pos (show (2 : Int32) ≤ 2 from by decide)]
                  exact tw_vret S hr hlocks hI dX7_stampRow_67
                · exact absurd c42 (by decide)
  · refine lv_aload_n hx hb dX7_stampRow_0 rfl (lv_at hl 0 rfl) ?_
    refine lv_iload_n hx hb dX7_stampRow_1 rfl (lv_at hl 1 rfl) ?_
    refine tw_callv (tw_rV (As := [.int (nI k)]) (rest := []) S hK hI kX7_138 (c_X7_stampLow l D ad _ _ _ _ (hR.1.1) hk) (t := 1000) (fs := mRoot _) rfl rfl rfl ⟨Nat.le_of_ble_eq_true rfl, Nat.le_of_ble_eq_true rfl⟩ ⟨Nat.le_of_ble_eq_true rfl, Nat.le_of_ble_eq_true rfl⟩ rfl hl.1 rfl (Nat.le_of_ble_eq_true rfl) dX7_stampRow_2) hI (fun H locs hI => ?_)
    have hR := rowOK_low hR hk
    refine lv_iconst (v := 0) hx hb dX7_stampRow_5 (by decide) ?_
    refine lv_istore_n (lv' := [(2, .int 0), (0, .ref (ad 1000)), (1, .int (nI k))]) hx hb dX7_stampRow_6 rfl hl (by decide) rfl (fun ls hl => ?_)
    refine lv_iload_n hx hb dX7_stampRow_7 rfl (lv_at hl 0 rfl) ?_
    refine lv_aload_n hx hb dX7_stampRow_8 rfl (lv_at hl 1 rfl) ?_
    refine gm_13 S hK hI dX7_stampRow_9 ?_
    refine lv_iload_n hx hb dX7_stampRow_12 rfl (lv_at hl 2 rfl) ?_
    refine ln_2 (j := k) S hK hI (by omega) dX7_stampRow_13 ?_
    refine lv_eqi (v := 3) (hR.2.2) ?_
    refine lv_icmp_ge (tgt := 67) hx hb dX7_stampRow_14 (by decide) (fun c43 => ?_) (fun c43 => ?_)
    · exact absurd c43 (by decide)
    · refine lv_aload_n hx hb dX7_stampRow_17 rfl (lv_at hl 1 rfl) ?_
      refine gm_7 S hK hI dX7_stampRow_18 ?_
      refine lv_iload_n hx hb dX7_stampRow_21 rfl (lv_at hl 2 rfl) ?_
      refine ln_1 (j := k) S hK hI (by omega) dX7_stampRow_22 ?_
      refine lv_eqi (v := κ) (hR.2.1) ?_
      refine tw_calli (tw_rS (As := [.int κ]) (rest := []) S hK hI kX7_97 (c_X7_isOfThings l D ad _ _ _) ⟨Nat.le_of_ble_eq_true rfl, Nat.le_of_ble_eq_true rfl⟩ ⟨Nat.le_of_ble_eq_true rfl, Nat.le_of_ble_eq_true rfl⟩ rfl hl.1 rfl (Nat.le_of_ble_eq_true rfl) dX7_stampRow_23) hI (fun H locs hI => ?_)
      refine lv_topi (fun x44 e44 => ?_)
      refine lv_if_eq (tgt := 67) hx hb dX7_stampRow_26 (by decide) (fun c45 => ?_) (fun c45 => ?_)
      · subst e44
        unfold stampRowF
        have es : szS σ k = 3 := by unfold szS; rw [ez]; rfl
        rw [es]
        rw [eκ]
        try rw [each_3]
        try unfold stepF
        try rw [if_pos hT]
        try rw [if_neg (show ¬ (3 : Int32) ≤ 0 from by decide)]
        try rw [if_pos hT]
        exact tw_vret S hr hlocks hI dX7_stampRow_67
      · exact (by subst e44; exact absurd hT c45)
  · have hNum := th_num hT
    refine lv_aload_n hx hb dX7_stampRow_0 rfl (lv_at hl 0 rfl) ?_
    refine lv_iload_n hx hb dX7_stampRow_1 rfl (lv_at hl 1 rfl) ?_
    refine tw_callv (tw_rV (As := [.int (nI k)]) (rest := []) S hK hI kX7_138 (c_X7_stampLow l D ad _ _ _ _ (hR.1.1) hk) (t := 1000) (fs := mRoot _) rfl rfl rfl ⟨Nat.le_of_ble_eq_true rfl, Nat.le_of_ble_eq_true rfl⟩ ⟨Nat.le_of_ble_eq_true rfl, Nat.le_of_ble_eq_true rfl⟩ rfl hl.1 rfl (Nat.le_of_ble_eq_true rfl) dX7_stampRow_2) hI (fun H locs hI => ?_)
    have hR := rowOK_low hR hk
    refine lv_iconst (v := 0) hx hb dX7_stampRow_5 (by decide) ?_
    refine lv_istore_n (lv' := [(2, .int 0), (0, .ref (ad 1000)), (1, .int (nI k))]) hx hb dX7_stampRow_6 rfl hl (by decide) rfl (fun ls hl => ?_)
    refine lv_iload_n hx hb dX7_stampRow_7 rfl (lv_at hl 0 rfl) ?_
    refine lv_aload_n hx hb dX7_stampRow_8 rfl (lv_at hl 1 rfl) ?_
    refine gm_13 S hK hI dX7_stampRow_9 ?_
    refine lv_iload_n hx hb dX7_stampRow_12 rfl (lv_at hl 2 rfl) ?_
    refine ln_2 (j := k) S hK hI (by omega) dX7_stampRow_13 ?_
    refine lv_eqi (v := 3) (hR.2.2) ?_
    refine lv_icmp_ge (tgt := 67) hx hb dX7_stampRow_14 (by decide) (fun c46 => ?_) (fun c46 => ?_)
    · exact absurd c46 (by decide)
    · refine lv_aload_n hx hb dX7_stampRow_17 rfl (lv_at hl 1 rfl) ?_
      refine gm_7 S hK hI dX7_stampRow_18 ?_
      refine lv_iload_n hx hb dX7_stampRow_21 rfl (lv_at hl 2 rfl) ?_
      refine ln_1 (j := k) S hK hI (by omega) dX7_stampRow_22 ?_
      refine lv_eqi (v := κ) (hR.2.1) ?_
      refine tw_calli (tw_rS (As := [.int κ]) (rest := []) S hK hI kX7_97 (c_X7_isOfThings l D ad _ _ _) ⟨Nat.le_of_ble_eq_true rfl, Nat.le_of_ble_eq_true rfl⟩ ⟨Nat.le_of_ble_eq_true rfl, Nat.le_of_ble_eq_true rfl⟩ rfl hl.1 rfl (Nat.le_of_ble_eq_true rfl) dX7_stampRow_23) hI (fun H locs hI => ?_)
      refine lv_topi (fun x47 e47 => ?_)
      refine lv_if_eq (tgt := 67) hx hb dX7_stampRow_26 (by decide) (fun c48 => ?_) (fun c48 => ?_)
      · exact (by subst e47; exact absurd c48 hT)
      · refine lv_aload_n hx hb dX7_stampRow_29 rfl (lv_at hl 1 rfl) ?_
        refine gm_19 S hK hI dX7_stampRow_30 ?_
        refine lv_iconst (v := 3) hx hb dX7_stampRow_33 (by decide) ?_
        refine lv_iload_n hx hb dX7_stampRow_34 rfl (lv_at hl 2 rfl) ?_
        refine lv_imul hx hb dX7_stampRow_35 ?_
        refine lv_eqi (v := (nI (3 * k))) (nM (a := 3) (b := k) (c := 3 * k) (by omega)) ?_
        refine lv_iload_n hx hb dX7_stampRow_36 rfl (lv_at hl 0 rfl) ?_
        refine lv_iadd hx hb dX7_stampRow_37 ?_
        refine lv_eqi (v := (nI (3 * k))) (nA (a := 3 * k) (b := 0) (c := 3 * k) (by omega)) ?_
        refine ln_4 (j := 3 * k) S hK hI (by omega) dX7_stampRow_38 ?_
        refine lv_topl (fun x49 e49 => ?_)
        refine lv_ldc2 (own := RX7) (v := (-1)) hx hb S.2.2.2.1 (S.2.2.2.2 _ (tw_mem (by decide +kernel) rfl)) dX7_stampRow_39 ?_
        refine W.lcmp hx hb dX7_stampRow_42 ?_
        refine lv_topi (fun x50 e50 => ?_)
        refine lv_if_eq (tgt := 61) hx hb dX7_stampRow_43 (by decide) (fun c51 => ?_) (fun c51 => ?_)
        · refine lv_iinc (v := 1) (lv' := [(2, .int 1), (0, .ref (ad 1000)), (1, .int (nI k))]) hx hb dX7_stampRow_61 hl (k := 0) rfl (by decide) (by decide) rfl (fun ls hl => ?_)
          refine lv_goto (tgt := 7) hx hb dX7_stampRow_64 (by decide) ?_
          refine lv_iload_n hx hb dX7_stampRow_7 rfl (lv_at hl 0 rfl) ?_
          refine lv_aload_n hx hb dX7_stampRow_8 rfl (lv_at hl 1 rfl) ?_
          refine gm_13 S hK hI dX7_stampRow_9 ?_
          refine lv_iload_n hx hb dX7_stampRow_12 rfl (lv_at hl 2 rfl) ?_
          refine ln_2 (j := k) S hK hI (by omega) dX7_stampRow_13 ?_
          refine lv_eqi (v := 3) (hR.2.2) ?_
          refine lv_icmp_ge (tgt := 67) hx hb dX7_stampRow_14 (by decide) (fun c52 => ?_) (fun c52 => ?_)
          · exact absurd c52 (by decide)
          · refine lv_aload_n hx hb dX7_stampRow_17 rfl (lv_at hl 1 rfl) ?_
            refine gm_7 S hK hI dX7_stampRow_18 ?_
            refine lv_iload_n hx hb dX7_stampRow_21 rfl (lv_at hl 2 rfl) ?_
            refine ln_1 (j := k) S hK hI (by omega) dX7_stampRow_22 ?_
            refine lv_eqi (v := κ) (hR.2.1) ?_
            refine tw_calli (tw_rS (As := [.int κ]) (rest := []) S hK hI kX7_97 (c_X7_isOfThings l D ad _ _ _) ⟨Nat.le_of_ble_eq_true rfl, Nat.le_of_ble_eq_true rfl⟩ ⟨Nat.le_of_ble_eq_true rfl, Nat.le_of_ble_eq_true rfl⟩ rfl hl.1 rfl (Nat.le_of_ble_eq_true rfl) dX7_stampRow_23) hI (fun H locs hI => ?_)
            refine lv_topi (fun x53 e53 => ?_)
            refine lv_if_eq (tgt := 67) hx hb dX7_stampRow_26 (by decide) (fun c54 => ?_) (fun c54 => ?_)
            · exact (by subst e53; subst e50; subst e49; subst e47; exact absurd c54 hT)
            · refine lv_aload_n hx hb dX7_stampRow_29 rfl (lv_at hl 1 rfl) ?_
              refine gm_19 S hK hI dX7_stampRow_30 ?_
              refine lv_iconst (v := 3) hx hb dX7_stampRow_33 (by decide) ?_
              refine lv_iload_n hx hb dX7_stampRow_34 rfl (lv_at hl 2 rfl) ?_
              refine lv_imul hx hb dX7_stampRow_35 ?_
              refine lv_eqi (v := (nI (3 * k))) (nM (a := 3) (b := k) (c := 3 * k) (by omega)) ?_
              refine lv_iload_n hx hb dX7_stampRow_36 rfl (lv_at hl 0 rfl) ?_
              refine lv_iadd hx hb dX7_stampRow_37 ?_
              refine lv_eqi (v := (nI (3 * k + 1))) (nA (a := 3 * k) (b := 1) (c := 3 * k + 1) (by omega)) ?_
              refine ln_4 (j := 3 * k + 1) S hK hI (by omega) dX7_stampRow_38 ?_
              refine lv_topl (fun x55 e55 => ?_)
              refine lv_ldc2 (own := RX7) (v := (-1)) hx hb S.2.2.2.1 (S.2.2.2.2 _ (tw_mem (by decide +kernel) rfl)) dX7_stampRow_39 ?_
              refine W.lcmp hx hb dX7_stampRow_42 ?_
              refine lv_topi (fun x56 e56 => ?_)
              refine lv_if_eq (tgt := 61) hx hb dX7_stampRow_43 (by decide) (fun c57 => ?_) (fun c57 => ?_)
              · refine lv_iinc (v := 2) (lv' := [(2, .int 2), (0, .ref (ad 1000)), (1, .int (nI k))]) hx hb dX7_stampRow_61 hl (k := 0) rfl (by decide) (by decide) rfl (fun ls hl => ?_)
                refine lv_goto (tgt := 7) hx hb dX7_stampRow_64 (by decide) ?_
                refine lv_iload_n hx hb dX7_stampRow_7 rfl (lv_at hl 0 rfl) ?_
                refine lv_aload_n hx hb dX7_stampRow_8 rfl (lv_at hl 1 rfl) ?_
                refine gm_13 S hK hI dX7_stampRow_9 ?_
                refine lv_iload_n hx hb dX7_stampRow_12 rfl (lv_at hl 2 rfl) ?_
                refine ln_2 (j := k) S hK hI (by omega) dX7_stampRow_13 ?_
                refine lv_eqi (v := 3) (hR.2.2) ?_
                refine lv_icmp_ge (tgt := 67) hx hb dX7_stampRow_14 (by decide) (fun c58 => ?_) (fun c58 => ?_)
                · exact absurd c58 (by decide)
                · refine lv_aload_n hx hb dX7_stampRow_17 rfl (lv_at hl 1 rfl) ?_
                  refine gm_7 S hK hI dX7_stampRow_18 ?_
                  refine lv_iload_n hx hb dX7_stampRow_21 rfl (lv_at hl 2 rfl) ?_
                  refine ln_1 (j := k) S hK hI (by omega) dX7_stampRow_22 ?_
                  refine lv_eqi (v := κ) (hR.2.1) ?_
                  refine tw_calli (tw_rS (As := [.int κ]) (rest := []) S hK hI kX7_97 (c_X7_isOfThings l D ad _ _ _) ⟨Nat.le_of_ble_eq_true rfl, Nat.le_of_ble_eq_true rfl⟩ ⟨Nat.le_of_ble_eq_true rfl, Nat.le_of_ble_eq_true rfl⟩ rfl hl.1 rfl (Nat.le_of_ble_eq_true rfl) dX7_stampRow_23) hI (fun H locs hI => ?_)
                  refine lv_topi (fun x59 e59 => ?_)
                  refine lv_if_eq (tgt := 67) hx hb dX7_stampRow_26 (by decide) (fun c60 => ?_) (fun c60 => ?_)
                  · exact (by subst e59; subst e56; subst e55; subst e53; subst e50; subst e49; subst e47; exact absurd c60 hT)
                  · refine lv_aload_n hx hb dX7_stampRow_29 rfl (lv_at hl 1 rfl) ?_
                    refine gm_19 S hK hI dX7_stampRow_30 ?_
                    refine lv_iconst (v := 3) hx hb dX7_stampRow_33 (by decide) ?_
                    refine lv_iload_n hx hb dX7_stampRow_34 rfl (lv_at hl 2 rfl) ?_
                    refine lv_imul hx hb dX7_stampRow_35 ?_
                    refine lv_eqi (v := (nI (3 * k))) (nM (a := 3) (b := k) (c := 3 * k) (by omega)) ?_
                    refine lv_iload_n hx hb dX7_stampRow_36 rfl (lv_at hl 0 rfl) ?_
                    refine lv_iadd hx hb dX7_stampRow_37 ?_
                    refine lv_eqi (v := (nI (3 * k + 2))) (nA (a := 3 * k) (b := 2) (c := 3 * k + 2) (by omega)) ?_
                    refine ln_4 (j := 3 * k + 2) S hK hI (by omega) dX7_stampRow_38 ?_
                    refine lv_topl (fun x61 e61 => ?_)
                    refine lv_ldc2 (own := RX7) (v := (-1)) hx hb S.2.2.2.1 (S.2.2.2.2 _ (tw_mem (by decide +kernel) rfl)) dX7_stampRow_39 ?_
                    refine W.lcmp hx hb dX7_stampRow_42 ?_
                    refine lv_topi (fun x62 e62 => ?_)
                    refine lv_if_eq (tgt := 61) hx hb dX7_stampRow_43 (by decide) (fun c63 => ?_) (fun c63 => ?_)
                    · refine lv_iinc (v := 3) (lv' := [(2, .int 3), (0, .ref (ad 1000)), (1, .int (nI k))]) hx hb dX7_stampRow_61 hl (k := 0) rfl (by decide) (by decide) rfl (fun ls hl => ?_)
                      refine lv_goto (tgt := 7) hx hb dX7_stampRow_64 (by decide) ?_
                      refine lv_iload_n hx hb dX7_stampRow_7 rfl (lv_at hl 0 rfl) ?_
                      refine lv_aload_n hx hb dX7_stampRow_8 rfl (lv_at hl 1 rfl) ?_
                      refine gm_13 S hK hI dX7_stampRow_9 ?_
                      refine lv_iload_n hx hb dX7_stampRow_12 rfl (lv_at hl 2 rfl) ?_
                      refine ln_2 (j := k) S hK hI (by omega) dX7_stampRow_13 ?_
                      refine lv_eqi (v := 3) (hR.2.2) ?_
                      refine lv_icmp_ge (tgt := 67) hx hb dX7_stampRow_14 (by decide) (fun c64 => ?_) (fun c64 => ?_)
                      · subst e62
                        subst e61
                        subst e59
                        subst e56
                        subst e55
                        subst e53
                        subst e50
                        subst e49
                        subst e47
                        unfold stampRowF
                        have es : szS σ k = 3 := by unfold szS; rw [ez]; rfl
                        rw [es]
                        rw [eκ]
                        try rw [each_3]
                        try unfold stepF
                        try rw [if_neg hT]
                        try rw [if_neg (show ¬ (3 : Int32) ≤ 0 from by decide)]
                        try rw [if_neg hT]
                        try rw [if_pos c51]
                        try rw [if_neg (show ¬ (3 : Int32) ≤ 1 from by decide)]
                        try rw [if_neg hT]
                        try rw [if_pos c57]
                        try rw [if_neg (show ¬ (3 : Int32) ≤ 2 from by decide)]
                        try rw [if_neg hT]
                        try rw [if_pos c63]
                        try rw [if_pos (show (3 : Int32) ≤ 3 from by decide)]
                        exact tw_vret S hr hlocks hI dX7_stampRow_67
                      · exact absurd c64 (by decide)
                    · refine lv_aload_n hx hb dX7_stampRow_46 rfl (lv_at hl 1 rfl) ?_
                      refine lv_aload_n hx hb dX7_stampRow_47 rfl (lv_at hl 1 rfl) ?_
                      refine gm_19 S hK hI dX7_stampRow_48 ?_
                      refine lv_iconst (v := 3) hx hb dX7_stampRow_51 (by decide) ?_
                      refine lv_iload_n hx hb dX7_stampRow_52 rfl (lv_at hl 2 rfl) ?_
                      refine lv_imul hx hb dX7_stampRow_53 ?_
                      refine lv_eqi (v := (nI (3 * k))) (nM (a := 3) (b := k) (c := 3 * k) (by omega)) ?_
                      refine lv_iload_n hx hb dX7_stampRow_54 rfl (lv_at hl 0 rfl) ?_
                      refine lv_iadd hx hb dX7_stampRow_55 ?_
                      refine lv_eqi (v := (nI (3 * k + 2))) (nA (a := 3 * k) (b := 2) (c := 3 * k + 2) (by omega)) ?_
                      refine ln_4 (j := 3 * k + 2) S hK hI (by omega) dX7_stampRow_56 ?_
                      refine lv_topl (fun x65 e65 => ?_)
                      have hj65 : vp_in x65.toInt32 60 := by subst e65; subst e62; subst e61; subst e59; subst e56; subst e55; subst e53; subst e50; subst e49; subst e47; exact cell_in hR hk hz3 hNum (i := 2) (a := 3 * k + 2) (by decide) (by omega) c63
                      refine lv_l2i hx hb dX7_stampRow_57 rfl ?_
                      refine lv_eqi (v := nI (ix x65.toInt32)) (vp_nI hj65 (by decide)) ?_
                      refine tw_callv (tw_rV (As := [.int (nI (ix x65.toInt32))]) (rest := []) S hK hI kX7_138 (c_X7_stampLow l D ad _ _ _ _ (hR.1.1) (vp_ix hj65)) (t := 1000) (fs := mRoot _) rfl rfl rfl ⟨Nat.le_of_ble_eq_true rfl, Nat.le_of_ble_eq_true rfl⟩ ⟨Nat.le_of_ble_eq_true rfl, Nat.le_of_ble_eq_true rfl⟩ rfl hl.1 rfl (Nat.le_of_ble_eq_true rfl) dX7_stampRow_58) hI (fun H locs hI => ?_)
                      have hR := rowOK_low hR (vp_ix hj65)
                      refine lv_iinc (v := 3) (lv' := [(2, .int 3), (0, .ref (ad 1000)), (1, .int (nI k))]) hx hb dX7_stampRow_61 hl (k := 0) rfl (by decide) (by decide) rfl (fun ls hl => ?_)
                      refine lv_goto (tgt := 7) hx hb dX7_stampRow_64 (by decide) ?_
                      refine lv_iload_n hx hb dX7_stampRow_7 rfl (lv_at hl 0 rfl) ?_
                      refine lv_aload_n hx hb dX7_stampRow_8 rfl (lv_at hl 1 rfl) ?_
                      refine gm_13 S hK hI dX7_stampRow_9 ?_
                      refine lv_iload_n hx hb dX7_stampRow_12 rfl (lv_at hl 2 rfl) ?_
                      refine ln_2 (j := k) S hK hI (by omega) dX7_stampRow_13 ?_
                      refine lv_eqi (v := 3) (hR.2.2) ?_
                      refine lv_icmp_ge (tgt := 67) hx hb dX7_stampRow_14 (by decide) (fun c66 => ?_) (fun c66 => ?_)
                      · subst e65
                        subst e62
                        subst e61
                        subst e59
                        subst e56
                        subst e55
                        subst e53
                        subst e50
                        subst e49
                        subst e47
                        unfold stampRowF
                        have es : szS σ k = 3 := by unfold szS; rw [ez]; rfl
                        rw [es]
                        rw [eκ]
                        try rw [each_3]
                        try unfold stepF
                        try rw [if_neg hT]
                        try rw [if_neg (show ¬ (3 : Int32) ≤ 0 from by decide)]
                        try rw [if_neg hT]
                        try rw [if_pos c51]
                        try rw [if_neg (show ¬ (3 : Int32) ≤ 1 from by decide)]
                        try rw [if_neg hT]
                        try rw [if_pos c57]
                        try rw [if_neg (show ¬ (3 : Int32) ≤ 2 from by decide)]
                        try rw [if_neg hT]
                        try rw [if_neg c63]
                        try rw [if_pos (show (3 : Int32) ≤ 3 from by decide)]
                        exact tw_vret S hr hlocks hI dX7_stampRow_67
                      · exact absurd c66 (by decide)
              · refine lv_aload_n hx hb dX7_stampRow_46 rfl (lv_at hl 1 rfl) ?_
                refine lv_aload_n hx hb dX7_stampRow_47 rfl (lv_at hl 1 rfl) ?_
                refine gm_19 S hK hI dX7_stampRow_48 ?_
                refine lv_iconst (v := 3) hx hb dX7_stampRow_51 (by decide) ?_
                refine lv_iload_n hx hb dX7_stampRow_52 rfl (lv_at hl 2 rfl) ?_
                refine lv_imul hx hb dX7_stampRow_53 ?_
                refine lv_eqi (v := (nI (3 * k))) (nM (a := 3) (b := k) (c := 3 * k) (by omega)) ?_
                refine lv_iload_n hx hb dX7_stampRow_54 rfl (lv_at hl 0 rfl) ?_
                refine lv_iadd hx hb dX7_stampRow_55 ?_
                refine lv_eqi (v := (nI (3 * k + 1))) (nA (a := 3 * k) (b := 1) (c := 3 * k + 1) (by omega)) ?_
                refine ln_4 (j := 3 * k + 1) S hK hI (by omega) dX7_stampRow_56 ?_
                refine lv_topl (fun x67 e67 => ?_)
                have hj67 : vp_in x67.toInt32 60 := by subst e67; subst e56; subst e55; subst e53; subst e50; subst e49; subst e47; exact cell_in hR hk hz3 hNum (i := 1) (a := 3 * k + 1) (by decide) (by omega) c57
                refine lv_l2i hx hb dX7_stampRow_57 rfl ?_
                refine lv_eqi (v := nI (ix x67.toInt32)) (vp_nI hj67 (by decide)) ?_
                refine tw_callv (tw_rV (As := [.int (nI (ix x67.toInt32))]) (rest := []) S hK hI kX7_138 (c_X7_stampLow l D ad _ _ _ _ (hR.1.1) (vp_ix hj67)) (t := 1000) (fs := mRoot _) rfl rfl rfl ⟨Nat.le_of_ble_eq_true rfl, Nat.le_of_ble_eq_true rfl⟩ ⟨Nat.le_of_ble_eq_true rfl, Nat.le_of_ble_eq_true rfl⟩ rfl hl.1 rfl (Nat.le_of_ble_eq_true rfl) dX7_stampRow_58) hI (fun H locs hI => ?_)
                have hR := rowOK_low hR (vp_ix hj67)
                refine lv_iinc (v := 2) (lv' := [(2, .int 2), (0, .ref (ad 1000)), (1, .int (nI k))]) hx hb dX7_stampRow_61 hl (k := 0) rfl (by decide) (by decide) rfl (fun ls hl => ?_)
                refine lv_goto (tgt := 7) hx hb dX7_stampRow_64 (by decide) ?_
                refine lv_iload_n hx hb dX7_stampRow_7 rfl (lv_at hl 0 rfl) ?_
                refine lv_aload_n hx hb dX7_stampRow_8 rfl (lv_at hl 1 rfl) ?_
                refine gm_13 S hK hI dX7_stampRow_9 ?_
                refine lv_iload_n hx hb dX7_stampRow_12 rfl (lv_at hl 2 rfl) ?_
                refine ln_2 (j := k) S hK hI (by omega) dX7_stampRow_13 ?_
                refine lv_eqi (v := 3) (hR.2.2) ?_
                refine lv_icmp_ge (tgt := 67) hx hb dX7_stampRow_14 (by decide) (fun c68 => ?_) (fun c68 => ?_)
                · exact absurd c68 (by decide)
                · refine lv_aload_n hx hb dX7_stampRow_17 rfl (lv_at hl 1 rfl) ?_
                  refine gm_7 S hK hI dX7_stampRow_18 ?_
                  refine lv_iload_n hx hb dX7_stampRow_21 rfl (lv_at hl 2 rfl) ?_
                  refine ln_1 (j := k) S hK hI (by omega) dX7_stampRow_22 ?_
                  refine lv_eqi (v := κ) (hR.2.1) ?_
                  refine tw_calli (tw_rS (As := [.int κ]) (rest := []) S hK hI kX7_97 (c_X7_isOfThings l D ad _ _ _) ⟨Nat.le_of_ble_eq_true rfl, Nat.le_of_ble_eq_true rfl⟩ ⟨Nat.le_of_ble_eq_true rfl, Nat.le_of_ble_eq_true rfl⟩ rfl hl.1 rfl (Nat.le_of_ble_eq_true rfl) dX7_stampRow_23) hI (fun H locs hI => ?_)
                  refine lv_topi (fun x69 e69 => ?_)
                  refine lv_if_eq (tgt := 67) hx hb dX7_stampRow_26 (by decide) (fun c70 => ?_) (fun c70 => ?_)
                  · exact (by subst e69; subst e67; subst e56; subst e55; subst e53; subst e50; subst e49; subst e47; exact absurd c70 hT)
                  · refine lv_aload_n hx hb dX7_stampRow_29 rfl (lv_at hl 1 rfl) ?_
                    refine gm_19 S hK hI dX7_stampRow_30 ?_
                    refine lv_iconst (v := 3) hx hb dX7_stampRow_33 (by decide) ?_
                    refine lv_iload_n hx hb dX7_stampRow_34 rfl (lv_at hl 2 rfl) ?_
                    refine lv_imul hx hb dX7_stampRow_35 ?_
                    refine lv_eqi (v := (nI (3 * k))) (nM (a := 3) (b := k) (c := 3 * k) (by omega)) ?_
                    refine lv_iload_n hx hb dX7_stampRow_36 rfl (lv_at hl 0 rfl) ?_
                    refine lv_iadd hx hb dX7_stampRow_37 ?_
                    refine lv_eqi (v := (nI (3 * k + 2))) (nA (a := 3 * k) (b := 2) (c := 3 * k + 2) (by omega)) ?_
                    refine ln_4 (j := 3 * k + 2) S hK hI (by omega) dX7_stampRow_38 ?_
                    refine lv_topl (fun x71 e71 => ?_)
                    refine lv_ldc2 (own := RX7) (v := (-1)) hx hb S.2.2.2.1 (S.2.2.2.2 _ (tw_mem (by decide +kernel) rfl)) dX7_stampRow_39 ?_
                    refine W.lcmp hx hb dX7_stampRow_42 ?_
                    refine lv_topi (fun x72 e72 => ?_)
                    refine lv_if_eq (tgt := 61) hx hb dX7_stampRow_43 (by decide) (fun c73 => ?_) (fun c73 => ?_)
                    · refine lv_iinc (v := 3) (lv' := [(2, .int 3), (0, .ref (ad 1000)), (1, .int (nI k))]) hx hb dX7_stampRow_61 hl (k := 0) rfl (by decide) (by decide) rfl (fun ls hl => ?_)
                      refine lv_goto (tgt := 7) hx hb dX7_stampRow_64 (by decide) ?_
                      refine lv_iload_n hx hb dX7_stampRow_7 rfl (lv_at hl 0 rfl) ?_
                      refine lv_aload_n hx hb dX7_stampRow_8 rfl (lv_at hl 1 rfl) ?_
                      refine gm_13 S hK hI dX7_stampRow_9 ?_
                      refine lv_iload_n hx hb dX7_stampRow_12 rfl (lv_at hl 2 rfl) ?_
                      refine ln_2 (j := k) S hK hI (by omega) dX7_stampRow_13 ?_
                      refine lv_eqi (v := 3) (hR.2.2) ?_
                      refine lv_icmp_ge (tgt := 67) hx hb dX7_stampRow_14 (by decide) (fun c74 => ?_) (fun c74 => ?_)
                      · subst e72
                        subst e71
                        subst e69
                        subst e67
                        subst e56
                        subst e55
                        subst e53
                        subst e50
                        subst e49
                        subst e47
                        unfold stampRowF
                        have es : szS σ k = 3 := by unfold szS; rw [ez]; rfl
                        rw [es]
                        rw [eκ]
                        try rw [each_3]
                        try unfold stepF
                        try rw [if_neg hT]
                        try rw [if_neg (show ¬ (3 : Int32) ≤ 0 from by decide)]
                        try rw [if_neg hT]
                        try rw [if_pos c51]
                        try rw [if_neg (show ¬ (3 : Int32) ≤ 1 from by decide)]
                        try rw [if_neg hT]
                        try rw [if_neg c57]
                        try rw [if_neg (show ¬ (3 : Int32) ≤ 2 from by decide)]
                        try rw [if_neg hT]
                        try rw [if_pos c73]
                        try rw [if_pos (show (3 : Int32) ≤ 3 from by decide)]
                        exact tw_vret S hr hlocks hI dX7_stampRow_67
                      · exact absurd c74 (by decide)
                    · refine lv_aload_n hx hb dX7_stampRow_46 rfl (lv_at hl 1 rfl) ?_
                      refine lv_aload_n hx hb dX7_stampRow_47 rfl (lv_at hl 1 rfl) ?_
                      refine gm_19 S hK hI dX7_stampRow_48 ?_
                      refine lv_iconst (v := 3) hx hb dX7_stampRow_51 (by decide) ?_
                      refine lv_iload_n hx hb dX7_stampRow_52 rfl (lv_at hl 2 rfl) ?_
                      refine lv_imul hx hb dX7_stampRow_53 ?_
                      refine lv_eqi (v := (nI (3 * k))) (nM (a := 3) (b := k) (c := 3 * k) (by omega)) ?_
                      refine lv_iload_n hx hb dX7_stampRow_54 rfl (lv_at hl 0 rfl) ?_
                      refine lv_iadd hx hb dX7_stampRow_55 ?_
                      refine lv_eqi (v := (nI (3 * k + 2))) (nA (a := 3 * k) (b := 2) (c := 3 * k + 2) (by omega)) ?_
                      refine ln_4 (j := 3 * k + 2) S hK hI (by omega) dX7_stampRow_56 ?_
                      refine lv_topl (fun x75 e75 => ?_)
                      have hj75 : vp_in x75.toInt32 60 := by subst e75; subst e72; subst e71; subst e69; subst e67; subst e56; subst e55; subst e53; subst e50; subst e49; subst e47; exact cell_in hR hk hz3 hNum (i := 2) (a := 3 * k + 2) (by decide) (by omega) c73
                      refine lv_l2i hx hb dX7_stampRow_57 rfl ?_
                      refine lv_eqi (v := nI (ix x75.toInt32)) (vp_nI hj75 (by decide)) ?_
                      refine tw_callv (tw_rV (As := [.int (nI (ix x75.toInt32))]) (rest := []) S hK hI kX7_138 (c_X7_stampLow l D ad _ _ _ _ (hR.1.1) (vp_ix hj75)) (t := 1000) (fs := mRoot _) rfl rfl rfl ⟨Nat.le_of_ble_eq_true rfl, Nat.le_of_ble_eq_true rfl⟩ ⟨Nat.le_of_ble_eq_true rfl, Nat.le_of_ble_eq_true rfl⟩ rfl hl.1 rfl (Nat.le_of_ble_eq_true rfl) dX7_stampRow_58) hI (fun H locs hI => ?_)
                      have hR := rowOK_low hR (vp_ix hj75)
                      refine lv_iinc (v := 3) (lv' := [(2, .int 3), (0, .ref (ad 1000)), (1, .int (nI k))]) hx hb dX7_stampRow_61 hl (k := 0) rfl (by decide) (by decide) rfl (fun ls hl => ?_)
                      refine lv_goto (tgt := 7) hx hb dX7_stampRow_64 (by decide) ?_
                      refine lv_iload_n hx hb dX7_stampRow_7 rfl (lv_at hl 0 rfl) ?_
                      refine lv_aload_n hx hb dX7_stampRow_8 rfl (lv_at hl 1 rfl) ?_
                      refine gm_13 S hK hI dX7_stampRow_9 ?_
                      refine lv_iload_n hx hb dX7_stampRow_12 rfl (lv_at hl 2 rfl) ?_
                      refine ln_2 (j := k) S hK hI (by omega) dX7_stampRow_13 ?_
                      refine lv_eqi (v := 3) (hR.2.2) ?_
                      refine lv_icmp_ge (tgt := 67) hx hb dX7_stampRow_14 (by decide) (fun c76 => ?_) (fun c76 => ?_)
                      · subst e75
                        subst e72
                        subst e71
                        subst e69
                        subst e67
                        subst e56
                        subst e55
                        subst e53
                        subst e50
                        subst e49
                        subst e47
                        unfold stampRowF
                        have es : szS σ k = 3 := by unfold szS; rw [ez]; rfl
                        rw [es]
                        rw [eκ]
                        try rw [each_3]
                        try unfold stepF
                        try rw [if_neg hT]
                        try rw [if_neg (show ¬ (3 : Int32) ≤ 0 from by decide)]
                        try rw [if_neg hT]
                        try rw [if_pos c51]
                        try rw [if_neg (show ¬ (3 : Int32) ≤ 1 from by decide)]
                        try rw [if_neg hT]
                        try rw [if_neg c57]
                        try rw [if_neg (show ¬ (3 : Int32) ≤ 2 from by decide)]
                        try rw [if_neg hT]
                        try rw [if_neg c73]
                        try rw [if_pos (show (3 : Int32) ≤ 3 from by decide)]
                        exact tw_vret S hr hlocks hI dX7_stampRow_67
                      · exact absurd c76 (by decide)
        · refine lv_aload_n hx hb dX7_stampRow_46 rfl (lv_at hl 1 rfl) ?_
          refine lv_aload_n hx hb dX7_stampRow_47 rfl (lv_at hl 1 rfl) ?_
          refine gm_19 S hK hI dX7_stampRow_48 ?_
          refine lv_iconst (v := 3) hx hb dX7_stampRow_51 (by decide) ?_
          refine lv_iload_n hx hb dX7_stampRow_52 rfl (lv_at hl 2 rfl) ?_
          refine lv_imul hx hb dX7_stampRow_53 ?_
          refine lv_eqi (v := (nI (3 * k))) (nM (a := 3) (b := k) (c := 3 * k) (by omega)) ?_
          refine lv_iload_n hx hb dX7_stampRow_54 rfl (lv_at hl 0 rfl) ?_
          refine lv_iadd hx hb dX7_stampRow_55 ?_
          refine lv_eqi (v := (nI (3 * k))) (nA (a := 3 * k) (b := 0) (c := 3 * k) (by omega)) ?_
          refine ln_4 (j := 3 * k) S hK hI (by omega) dX7_stampRow_56 ?_
          refine lv_topl (fun x77 e77 => ?_)
          have hj77 : vp_in x77.toInt32 60 := by subst e77; subst e50; subst e49; subst e47; exact cell_in hR hk hz3 hNum (i := 0) (a := 3 * k) (by decide) (by omega) c51
          refine lv_l2i hx hb dX7_stampRow_57 rfl ?_
          refine lv_eqi (v := nI (ix x77.toInt32)) (vp_nI hj77 (by decide)) ?_
          refine tw_callv (tw_rV (As := [.int (nI (ix x77.toInt32))]) (rest := []) S hK hI kX7_138 (c_X7_stampLow l D ad _ _ _ _ (hR.1.1) (vp_ix hj77)) (t := 1000) (fs := mRoot _) rfl rfl rfl ⟨Nat.le_of_ble_eq_true rfl, Nat.le_of_ble_eq_true rfl⟩ ⟨Nat.le_of_ble_eq_true rfl, Nat.le_of_ble_eq_true rfl⟩ rfl hl.1 rfl (Nat.le_of_ble_eq_true rfl) dX7_stampRow_58) hI (fun H locs hI => ?_)
          have hR := rowOK_low hR (vp_ix hj77)
          refine lv_iinc (v := 1) (lv' := [(2, .int 1), (0, .ref (ad 1000)), (1, .int (nI k))]) hx hb dX7_stampRow_61 hl (k := 0) rfl (by decide) (by decide) rfl (fun ls hl => ?_)
          refine lv_goto (tgt := 7) hx hb dX7_stampRow_64 (by decide) ?_
          refine lv_iload_n hx hb dX7_stampRow_7 rfl (lv_at hl 0 rfl) ?_
          refine lv_aload_n hx hb dX7_stampRow_8 rfl (lv_at hl 1 rfl) ?_
          refine gm_13 S hK hI dX7_stampRow_9 ?_
          refine lv_iload_n hx hb dX7_stampRow_12 rfl (lv_at hl 2 rfl) ?_
          refine ln_2 (j := k) S hK hI (by omega) dX7_stampRow_13 ?_
          refine lv_eqi (v := 3) (hR.2.2) ?_
          refine lv_icmp_ge (tgt := 67) hx hb dX7_stampRow_14 (by decide) (fun c78 => ?_) (fun c78 => ?_)
          · exact absurd c78 (by decide)
          · refine lv_aload_n hx hb dX7_stampRow_17 rfl (lv_at hl 1 rfl) ?_
            refine gm_7 S hK hI dX7_stampRow_18 ?_
            refine lv_iload_n hx hb dX7_stampRow_21 rfl (lv_at hl 2 rfl) ?_
            refine ln_1 (j := k) S hK hI (by omega) dX7_stampRow_22 ?_
            refine lv_eqi (v := κ) (hR.2.1) ?_
            refine tw_calli (tw_rS (As := [.int κ]) (rest := []) S hK hI kX7_97 (c_X7_isOfThings l D ad _ _ _) ⟨Nat.le_of_ble_eq_true rfl, Nat.le_of_ble_eq_true rfl⟩ ⟨Nat.le_of_ble_eq_true rfl, Nat.le_of_ble_eq_true rfl⟩ rfl hl.1 rfl (Nat.le_of_ble_eq_true rfl) dX7_stampRow_23) hI (fun H locs hI => ?_)
            refine lv_topi (fun x79 e79 => ?_)
            refine lv_if_eq (tgt := 67) hx hb dX7_stampRow_26 (by decide) (fun c80 => ?_) (fun c80 => ?_)
            · exact (by subst e79; subst e77; subst e50; subst e49; subst e47; exact absurd c80 hT)
            · refine lv_aload_n hx hb dX7_stampRow_29 rfl (lv_at hl 1 rfl) ?_
              refine gm_19 S hK hI dX7_stampRow_30 ?_
              refine lv_iconst (v := 3) hx hb dX7_stampRow_33 (by decide) ?_
              refine lv_iload_n hx hb dX7_stampRow_34 rfl (lv_at hl 2 rfl) ?_
              refine lv_imul hx hb dX7_stampRow_35 ?_
              refine lv_eqi (v := (nI (3 * k))) (nM (a := 3) (b := k) (c := 3 * k) (by omega)) ?_
              refine lv_iload_n hx hb dX7_stampRow_36 rfl (lv_at hl 0 rfl) ?_
              refine lv_iadd hx hb dX7_stampRow_37 ?_
              refine lv_eqi (v := (nI (3 * k + 1))) (nA (a := 3 * k) (b := 1) (c := 3 * k + 1) (by omega)) ?_
              refine ln_4 (j := 3 * k + 1) S hK hI (by omega) dX7_stampRow_38 ?_
              refine lv_topl (fun x81 e81 => ?_)
              refine lv_ldc2 (own := RX7) (v := (-1)) hx hb S.2.2.2.1 (S.2.2.2.2 _ (tw_mem (by decide +kernel) rfl)) dX7_stampRow_39 ?_
              refine W.lcmp hx hb dX7_stampRow_42 ?_
              refine lv_topi (fun x82 e82 => ?_)
              refine lv_if_eq (tgt := 61) hx hb dX7_stampRow_43 (by decide) (fun c83 => ?_) (fun c83 => ?_)
              · refine lv_iinc (v := 2) (lv' := [(2, .int 2), (0, .ref (ad 1000)), (1, .int (nI k))]) hx hb dX7_stampRow_61 hl (k := 0) rfl (by decide) (by decide) rfl (fun ls hl => ?_)
                refine lv_goto (tgt := 7) hx hb dX7_stampRow_64 (by decide) ?_
                refine lv_iload_n hx hb dX7_stampRow_7 rfl (lv_at hl 0 rfl) ?_
                refine lv_aload_n hx hb dX7_stampRow_8 rfl (lv_at hl 1 rfl) ?_
                refine gm_13 S hK hI dX7_stampRow_9 ?_
                refine lv_iload_n hx hb dX7_stampRow_12 rfl (lv_at hl 2 rfl) ?_
                refine ln_2 (j := k) S hK hI (by omega) dX7_stampRow_13 ?_
                refine lv_eqi (v := 3) (hR.2.2) ?_
                refine lv_icmp_ge (tgt := 67) hx hb dX7_stampRow_14 (by decide) (fun c84 => ?_) (fun c84 => ?_)
                · exact absurd c84 (by decide)
                · refine lv_aload_n hx hb dX7_stampRow_17 rfl (lv_at hl 1 rfl) ?_
                  refine gm_7 S hK hI dX7_stampRow_18 ?_
                  refine lv_iload_n hx hb dX7_stampRow_21 rfl (lv_at hl 2 rfl) ?_
                  refine ln_1 (j := k) S hK hI (by omega) dX7_stampRow_22 ?_
                  refine lv_eqi (v := κ) (hR.2.1) ?_
                  refine tw_calli (tw_rS (As := [.int κ]) (rest := []) S hK hI kX7_97 (c_X7_isOfThings l D ad _ _ _) ⟨Nat.le_of_ble_eq_true rfl, Nat.le_of_ble_eq_true rfl⟩ ⟨Nat.le_of_ble_eq_true rfl, Nat.le_of_ble_eq_true rfl⟩ rfl hl.1 rfl (Nat.le_of_ble_eq_true rfl) dX7_stampRow_23) hI (fun H locs hI => ?_)
                  refine lv_topi (fun x85 e85 => ?_)
                  refine lv_if_eq (tgt := 67) hx hb dX7_stampRow_26 (by decide) (fun c86 => ?_) (fun c86 => ?_)
                  · exact (by subst e85; subst e82; subst e81; subst e79; subst e77; subst e50; subst e49; subst e47; exact absurd c86 hT)
                  · refine lv_aload_n hx hb dX7_stampRow_29 rfl (lv_at hl 1 rfl) ?_
                    refine gm_19 S hK hI dX7_stampRow_30 ?_
                    refine lv_iconst (v := 3) hx hb dX7_stampRow_33 (by decide) ?_
                    refine lv_iload_n hx hb dX7_stampRow_34 rfl (lv_at hl 2 rfl) ?_
                    refine lv_imul hx hb dX7_stampRow_35 ?_
                    refine lv_eqi (v := (nI (3 * k))) (nM (a := 3) (b := k) (c := 3 * k) (by omega)) ?_
                    refine lv_iload_n hx hb dX7_stampRow_36 rfl (lv_at hl 0 rfl) ?_
                    refine lv_iadd hx hb dX7_stampRow_37 ?_
                    refine lv_eqi (v := (nI (3 * k + 2))) (nA (a := 3 * k) (b := 2) (c := 3 * k + 2) (by omega)) ?_
                    refine ln_4 (j := 3 * k + 2) S hK hI (by omega) dX7_stampRow_38 ?_
                    refine lv_topl (fun x87 e87 => ?_)
                    refine lv_ldc2 (own := RX7) (v := (-1)) hx hb S.2.2.2.1 (S.2.2.2.2 _ (tw_mem (by decide +kernel) rfl)) dX7_stampRow_39 ?_
                    refine W.lcmp hx hb dX7_stampRow_42 ?_
                    refine lv_topi (fun x88 e88 => ?_)
                    refine lv_if_eq (tgt := 61) hx hb dX7_stampRow_43 (by decide) (fun c89 => ?_) (fun c89 => ?_)
                    · refine lv_iinc (v := 3) (lv' := [(2, .int 3), (0, .ref (ad 1000)), (1, .int (nI k))]) hx hb dX7_stampRow_61 hl (k := 0) rfl (by decide) (by decide) rfl (fun ls hl => ?_)
                      refine lv_goto (tgt := 7) hx hb dX7_stampRow_64 (by decide) ?_
                      refine lv_iload_n hx hb dX7_stampRow_7 rfl (lv_at hl 0 rfl) ?_
                      refine lv_aload_n hx hb dX7_stampRow_8 rfl (lv_at hl 1 rfl) ?_
                      refine gm_13 S hK hI dX7_stampRow_9 ?_
                      refine lv_iload_n hx hb dX7_stampRow_12 rfl (lv_at hl 2 rfl) ?_
                      refine ln_2 (j := k) S hK hI (by omega) dX7_stampRow_13 ?_
                      refine lv_eqi (v := 3) (hR.2.2) ?_
                      refine lv_icmp_ge (tgt := 67) hx hb dX7_stampRow_14 (by decide) (fun c90 => ?_) (fun c90 => ?_)
                      · subst e88
                        subst e87
                        subst e85
                        subst e82
                        subst e81
                        subst e79
                        subst e77
                        subst e50
                        subst e49
                        subst e47
                        unfold stampRowF
                        have es : szS σ k = 3 := by unfold szS; rw [ez]; rfl
                        rw [es]
                        rw [eκ]
                        try rw [each_3]
                        try unfold stepF
                        try rw [if_neg hT]
                        try rw [if_neg (show ¬ (3 : Int32) ≤ 0 from by decide)]
                        try rw [if_neg hT]
                        try rw [if_neg c51]
                        try rw [if_neg (show ¬ (3 : Int32) ≤ 1 from by decide)]
                        try rw [if_neg hT]
                        try rw [if_pos c83]
                        try rw [if_neg (show ¬ (3 : Int32) ≤ 2 from by decide)]
                        try rw [if_neg hT]
                        try rw [if_pos c89]
                        try rw [if_pos (show (3 : Int32) ≤ 3 from by decide)]
                        exact tw_vret S hr hlocks hI dX7_stampRow_67
                      · exact absurd c90 (by decide)
                    · refine lv_aload_n hx hb dX7_stampRow_46 rfl (lv_at hl 1 rfl) ?_
                      refine lv_aload_n hx hb dX7_stampRow_47 rfl (lv_at hl 1 rfl) ?_
                      refine gm_19 S hK hI dX7_stampRow_48 ?_
                      refine lv_iconst (v := 3) hx hb dX7_stampRow_51 (by decide) ?_
                      refine lv_iload_n hx hb dX7_stampRow_52 rfl (lv_at hl 2 rfl) ?_
                      refine lv_imul hx hb dX7_stampRow_53 ?_
                      refine lv_eqi (v := (nI (3 * k))) (nM (a := 3) (b := k) (c := 3 * k) (by omega)) ?_
                      refine lv_iload_n hx hb dX7_stampRow_54 rfl (lv_at hl 0 rfl) ?_
                      refine lv_iadd hx hb dX7_stampRow_55 ?_
                      refine lv_eqi (v := (nI (3 * k + 2))) (nA (a := 3 * k) (b := 2) (c := 3 * k + 2) (by omega)) ?_
                      refine ln_4 (j := 3 * k + 2) S hK hI (by omega) dX7_stampRow_56 ?_
                      refine lv_topl (fun x91 e91 => ?_)
                      have hj91 : vp_in x91.toInt32 60 := by subst e91; subst e88; subst e87; subst e85; subst e82; subst e81; subst e79; subst e77; subst e50; subst e49; subst e47; exact cell_in hR hk hz3 hNum (i := 2) (a := 3 * k + 2) (by decide) (by omega) c89
                      refine lv_l2i hx hb dX7_stampRow_57 rfl ?_
                      refine lv_eqi (v := nI (ix x91.toInt32)) (vp_nI hj91 (by decide)) ?_
                      refine tw_callv (tw_rV (As := [.int (nI (ix x91.toInt32))]) (rest := []) S hK hI kX7_138 (c_X7_stampLow l D ad _ _ _ _ (hR.1.1) (vp_ix hj91)) (t := 1000) (fs := mRoot _) rfl rfl rfl ⟨Nat.le_of_ble_eq_true rfl, Nat.le_of_ble_eq_true rfl⟩ ⟨Nat.le_of_ble_eq_true rfl, Nat.le_of_ble_eq_true rfl⟩ rfl hl.1 rfl (Nat.le_of_ble_eq_true rfl) dX7_stampRow_58) hI (fun H locs hI => ?_)
                      have hR := rowOK_low hR (vp_ix hj91)
                      refine lv_iinc (v := 3) (lv' := [(2, .int 3), (0, .ref (ad 1000)), (1, .int (nI k))]) hx hb dX7_stampRow_61 hl (k := 0) rfl (by decide) (by decide) rfl (fun ls hl => ?_)
                      refine lv_goto (tgt := 7) hx hb dX7_stampRow_64 (by decide) ?_
                      refine lv_iload_n hx hb dX7_stampRow_7 rfl (lv_at hl 0 rfl) ?_
                      refine lv_aload_n hx hb dX7_stampRow_8 rfl (lv_at hl 1 rfl) ?_
                      refine gm_13 S hK hI dX7_stampRow_9 ?_
                      refine lv_iload_n hx hb dX7_stampRow_12 rfl (lv_at hl 2 rfl) ?_
                      refine ln_2 (j := k) S hK hI (by omega) dX7_stampRow_13 ?_
                      refine lv_eqi (v := 3) (hR.2.2) ?_
                      refine lv_icmp_ge (tgt := 67) hx hb dX7_stampRow_14 (by decide) (fun c92 => ?_) (fun c92 => ?_)
                      · subst e91
                        subst e88
                        subst e87
                        subst e85
                        subst e82
                        subst e81
                        subst e79
                        subst e77
                        subst e50
                        subst e49
                        subst e47
                        unfold stampRowF
                        have es : szS σ k = 3 := by unfold szS; rw [ez]; rfl
                        rw [es]
                        rw [eκ]
                        try rw [each_3]
                        try unfold stepF
                        try rw [if_neg hT]
                        try rw [if_neg (show ¬ (3 : Int32) ≤ 0 from by decide)]
                        try rw [if_neg hT]
                        try rw [if_neg c51]
                        try rw [if_neg (show ¬ (3 : Int32) ≤ 1 from by decide)]
                        try rw [if_neg hT]
                        try rw [if_pos c83]
                        try rw [if_neg (show ¬ (3 : Int32) ≤ 2 from by decide)]
                        try rw [if_neg hT]
                        try rw [if_neg c89]
                        try rw [if_pos (show (3 : Int32) ≤ 3 from by decide)]
                        exact tw_vret S hr hlocks hI dX7_stampRow_67
                      · exact absurd c92 (by decide)
              · refine lv_aload_n hx hb dX7_stampRow_46 rfl (lv_at hl 1 rfl) ?_
                refine lv_aload_n hx hb dX7_stampRow_47 rfl (lv_at hl 1 rfl) ?_
                refine gm_19 S hK hI dX7_stampRow_48 ?_
                refine lv_iconst (v := 3) hx hb dX7_stampRow_51 (by decide) ?_
                refine lv_iload_n hx hb dX7_stampRow_52 rfl (lv_at hl 2 rfl) ?_
                refine lv_imul hx hb dX7_stampRow_53 ?_
                refine lv_eqi (v := (nI (3 * k))) (nM (a := 3) (b := k) (c := 3 * k) (by omega)) ?_
                refine lv_iload_n hx hb dX7_stampRow_54 rfl (lv_at hl 0 rfl) ?_
                refine lv_iadd hx hb dX7_stampRow_55 ?_
                refine lv_eqi (v := (nI (3 * k + 1))) (nA (a := 3 * k) (b := 1) (c := 3 * k + 1) (by omega)) ?_
                refine ln_4 (j := 3 * k + 1) S hK hI (by omega) dX7_stampRow_56 ?_
                refine lv_topl (fun x93 e93 => ?_)
                have hj93 : vp_in x93.toInt32 60 := by subst e93; subst e82; subst e81; subst e79; subst e77; subst e50; subst e49; subst e47; exact cell_in hR hk hz3 hNum (i := 1) (a := 3 * k + 1) (by decide) (by omega) c83
                refine lv_l2i hx hb dX7_stampRow_57 rfl ?_
                refine lv_eqi (v := nI (ix x93.toInt32)) (vp_nI hj93 (by decide)) ?_
                refine tw_callv (tw_rV (As := [.int (nI (ix x93.toInt32))]) (rest := []) S hK hI kX7_138 (c_X7_stampLow l D ad _ _ _ _ (hR.1.1) (vp_ix hj93)) (t := 1000) (fs := mRoot _) rfl rfl rfl ⟨Nat.le_of_ble_eq_true rfl, Nat.le_of_ble_eq_true rfl⟩ ⟨Nat.le_of_ble_eq_true rfl, Nat.le_of_ble_eq_true rfl⟩ rfl hl.1 rfl (Nat.le_of_ble_eq_true rfl) dX7_stampRow_58) hI (fun H locs hI => ?_)
                have hR := rowOK_low hR (vp_ix hj93)
                refine lv_iinc (v := 2) (lv' := [(2, .int 2), (0, .ref (ad 1000)), (1, .int (nI k))]) hx hb dX7_stampRow_61 hl (k := 0) rfl (by decide) (by decide) rfl (fun ls hl => ?_)
                refine lv_goto (tgt := 7) hx hb dX7_stampRow_64 (by decide) ?_
                refine lv_iload_n hx hb dX7_stampRow_7 rfl (lv_at hl 0 rfl) ?_
                refine lv_aload_n hx hb dX7_stampRow_8 rfl (lv_at hl 1 rfl) ?_
                refine gm_13 S hK hI dX7_stampRow_9 ?_
                refine lv_iload_n hx hb dX7_stampRow_12 rfl (lv_at hl 2 rfl) ?_
                refine ln_2 (j := k) S hK hI (by omega) dX7_stampRow_13 ?_
                refine lv_eqi (v := 3) (hR.2.2) ?_
                refine lv_icmp_ge (tgt := 67) hx hb dX7_stampRow_14 (by decide) (fun c94 => ?_) (fun c94 => ?_)
                · exact absurd c94 (by decide)
                · refine lv_aload_n hx hb dX7_stampRow_17 rfl (lv_at hl 1 rfl) ?_
                  refine gm_7 S hK hI dX7_stampRow_18 ?_
                  refine lv_iload_n hx hb dX7_stampRow_21 rfl (lv_at hl 2 rfl) ?_
                  refine ln_1 (j := k) S hK hI (by omega) dX7_stampRow_22 ?_
                  refine lv_eqi (v := κ) (hR.2.1) ?_
                  refine tw_calli (tw_rS (As := [.int κ]) (rest := []) S hK hI kX7_97 (c_X7_isOfThings l D ad _ _ _) ⟨Nat.le_of_ble_eq_true rfl, Nat.le_of_ble_eq_true rfl⟩ ⟨Nat.le_of_ble_eq_true rfl, Nat.le_of_ble_eq_true rfl⟩ rfl hl.1 rfl (Nat.le_of_ble_eq_true rfl) dX7_stampRow_23) hI (fun H locs hI => ?_)
                  refine lv_topi (fun x95 e95 => ?_)
                  refine lv_if_eq (tgt := 67) hx hb dX7_stampRow_26 (by decide) (fun c96 => ?_) (fun c96 => ?_)
                  · exact (by subst e95; subst e93; subst e82; subst e81; subst e79; subst e77; subst e50; subst e49; subst e47; exact absurd c96 hT)
                  · refine lv_aload_n hx hb dX7_stampRow_29 rfl (lv_at hl 1 rfl) ?_
                    refine gm_19 S hK hI dX7_stampRow_30 ?_
                    refine lv_iconst (v := 3) hx hb dX7_stampRow_33 (by decide) ?_
                    refine lv_iload_n hx hb dX7_stampRow_34 rfl (lv_at hl 2 rfl) ?_
                    refine lv_imul hx hb dX7_stampRow_35 ?_
                    refine lv_eqi (v := (nI (3 * k))) (nM (a := 3) (b := k) (c := 3 * k) (by omega)) ?_
                    refine lv_iload_n hx hb dX7_stampRow_36 rfl (lv_at hl 0 rfl) ?_
                    refine lv_iadd hx hb dX7_stampRow_37 ?_
                    refine lv_eqi (v := (nI (3 * k + 2))) (nA (a := 3 * k) (b := 2) (c := 3 * k + 2) (by omega)) ?_
                    refine ln_4 (j := 3 * k + 2) S hK hI (by omega) dX7_stampRow_38 ?_
                    refine lv_topl (fun x97 e97 => ?_)
                    refine lv_ldc2 (own := RX7) (v := (-1)) hx hb S.2.2.2.1 (S.2.2.2.2 _ (tw_mem (by decide +kernel) rfl)) dX7_stampRow_39 ?_
                    refine W.lcmp hx hb dX7_stampRow_42 ?_
                    refine lv_topi (fun x98 e98 => ?_)
                    refine lv_if_eq (tgt := 61) hx hb dX7_stampRow_43 (by decide) (fun c99 => ?_) (fun c99 => ?_)
                    · refine lv_iinc (v := 3) (lv' := [(2, .int 3), (0, .ref (ad 1000)), (1, .int (nI k))]) hx hb dX7_stampRow_61 hl (k := 0) rfl (by decide) (by decide) rfl (fun ls hl => ?_)
                      refine lv_goto (tgt := 7) hx hb dX7_stampRow_64 (by decide) ?_
                      refine lv_iload_n hx hb dX7_stampRow_7 rfl (lv_at hl 0 rfl) ?_
                      refine lv_aload_n hx hb dX7_stampRow_8 rfl (lv_at hl 1 rfl) ?_
                      refine gm_13 S hK hI dX7_stampRow_9 ?_
                      refine lv_iload_n hx hb dX7_stampRow_12 rfl (lv_at hl 2 rfl) ?_
                      refine ln_2 (j := k) S hK hI (by omega) dX7_stampRow_13 ?_
                      refine lv_eqi (v := 3) (hR.2.2) ?_
                      refine lv_icmp_ge (tgt := 67) hx hb dX7_stampRow_14 (by decide) (fun c100 => ?_) (fun c100 => ?_)
                      · subst e98
                        subst e97
                        subst e95
                        subst e93
                        subst e82
                        subst e81
                        subst e79
                        subst e77
                        subst e50
                        subst e49
                        subst e47
                        unfold stampRowF
                        have es : szS σ k = 3 := by unfold szS; rw [ez]; rfl
                        rw [es]
                        rw [eκ]
                        try rw [each_3]
                        try unfold stepF
                        try rw [if_neg hT]
                        try rw [if_neg (show ¬ (3 : Int32) ≤ 0 from by decide)]
                        try rw [if_neg hT]
                        try rw [if_neg c51]
                        try rw [if_neg (show ¬ (3 : Int32) ≤ 1 from by decide)]
                        try rw [if_neg hT]
                        try rw [if_neg c83]
                        try rw [if_neg (show ¬ (3 : Int32) ≤ 2 from by decide)]
                        try rw [if_neg hT]
                        try rw [if_pos c99]
                        try rw [if_pos (show (3 : Int32) ≤ 3 from by decide)]
                        exact tw_vret S hr hlocks hI dX7_stampRow_67
                      · exact absurd c100 (by decide)
                    · refine lv_aload_n hx hb dX7_stampRow_46 rfl (lv_at hl 1 rfl) ?_
                      refine lv_aload_n hx hb dX7_stampRow_47 rfl (lv_at hl 1 rfl) ?_
                      refine gm_19 S hK hI dX7_stampRow_48 ?_
                      refine lv_iconst (v := 3) hx hb dX7_stampRow_51 (by decide) ?_
                      refine lv_iload_n hx hb dX7_stampRow_52 rfl (lv_at hl 2 rfl) ?_
                      refine lv_imul hx hb dX7_stampRow_53 ?_
                      refine lv_eqi (v := (nI (3 * k))) (nM (a := 3) (b := k) (c := 3 * k) (by omega)) ?_
                      refine lv_iload_n hx hb dX7_stampRow_54 rfl (lv_at hl 0 rfl) ?_
                      refine lv_iadd hx hb dX7_stampRow_55 ?_
                      refine lv_eqi (v := (nI (3 * k + 2))) (nA (a := 3 * k) (b := 2) (c := 3 * k + 2) (by omega)) ?_
                      refine ln_4 (j := 3 * k + 2) S hK hI (by omega) dX7_stampRow_56 ?_
                      refine lv_topl (fun x101 e101 => ?_)
                      have hj101 : vp_in x101.toInt32 60 := by subst e101; subst e98; subst e97; subst e95; subst e93; subst e82; subst e81; subst e79; subst e77; subst e50; subst e49; subst e47; exact cell_in hR hk hz3 hNum (i := 2) (a := 3 * k + 2) (by decide) (by omega) c99
                      refine lv_l2i hx hb dX7_stampRow_57 rfl ?_
                      refine lv_eqi (v := nI (ix x101.toInt32)) (vp_nI hj101 (by decide)) ?_
                      refine tw_callv (tw_rV (As := [.int (nI (ix x101.toInt32))]) (rest := []) S hK hI kX7_138 (c_X7_stampLow l D ad _ _ _ _ (hR.1.1) (vp_ix hj101)) (t := 1000) (fs := mRoot _) rfl rfl rfl ⟨Nat.le_of_ble_eq_true rfl, Nat.le_of_ble_eq_true rfl⟩ ⟨Nat.le_of_ble_eq_true rfl, Nat.le_of_ble_eq_true rfl⟩ rfl hl.1 rfl (Nat.le_of_ble_eq_true rfl) dX7_stampRow_58) hI (fun H locs hI => ?_)
                      have hR := rowOK_low hR (vp_ix hj101)
                      refine lv_iinc (v := 3) (lv' := [(2, .int 3), (0, .ref (ad 1000)), (1, .int (nI k))]) hx hb dX7_stampRow_61 hl (k := 0) rfl (by decide) (by decide) rfl (fun ls hl => ?_)
                      refine lv_goto (tgt := 7) hx hb dX7_stampRow_64 (by decide) ?_
                      refine lv_iload_n hx hb dX7_stampRow_7 rfl (lv_at hl 0 rfl) ?_
                      refine lv_aload_n hx hb dX7_stampRow_8 rfl (lv_at hl 1 rfl) ?_
                      refine gm_13 S hK hI dX7_stampRow_9 ?_
                      refine lv_iload_n hx hb dX7_stampRow_12 rfl (lv_at hl 2 rfl) ?_
                      refine ln_2 (j := k) S hK hI (by omega) dX7_stampRow_13 ?_
                      refine lv_eqi (v := 3) (hR.2.2) ?_
                      refine lv_icmp_ge (tgt := 67) hx hb dX7_stampRow_14 (by decide) (fun c102 => ?_) (fun c102 => ?_)
                      · subst e101
                        subst e98
                        subst e97
                        subst e95
                        subst e93
                        subst e82
                        subst e81
                        subst e79
                        subst e77
                        subst e50
                        subst e49
                        subst e47
                        unfold stampRowF
                        have es : szS σ k = 3 := by unfold szS; rw [ez]; rfl
                        rw [es]
                        rw [eκ]
                        try rw [each_3]
                        try unfold stepF
                        try rw [if_neg hT]
                        try rw [if_neg (show ¬ (3 : Int32) ≤ 0 from by decide)]
                        try rw [if_neg hT]
                        try rw [if_neg c51]
                        try rw [if_neg (show ¬ (3 : Int32) ≤ 1 from by decide)]
                        try rw [if_neg hT]
                        try rw [if_neg c83]
                        try rw [if_neg (show ¬ (3 : Int32) ≤ 2 from by decide)]
                        try rw [if_neg hT]
                        try rw [if_neg c99]
                        try rw [if_pos (show (3 : Int32) ≤ 3 from by decide)]
                        exact tw_vret S hr hlocks hI dX7_stampRow_67
                      · exact absurd c102 (by decide)

theorem each_I {f : Sg → Nat → Sg} {q : Nat} (hf : ∀ σ j, (f σ j).1 q = σ.1 q) (σ : Sg) (k : Nat) : ∀ z : Nat, (eachF f σ k z).1 q = σ.1 q
  | 0 => rfl
  | z + 1 => by
    unfold eachF stepF
    split
    · exact each_I hf σ k z
    · rw [hf]; exact each_I hf σ k z
theorem row_I (σ : Sg) (j f : Nat) (hf : f ≠ 3) : (stampRowF σ j).1 f = σ.1 f := by
  unfold stampRowF
  split
  · exact low_I σ j f hf
  · rw [each_I (fun σ j => low_I σ j f hf)]; exact low_I σ j f hf
/-- what the rows of things hold stays in range, whatever is stamped below a row -/
theorem each_ok {f : Sg → Nat → Sg} (hf : ∀ σ j, okA σ → j < 60 → okA (f σ j)) (h1 : ∀ σ j q, q ≠ 3 → (f σ j).1 q = σ.1 q) {k z : Nat} {κ : Int32} (hk : k < 60) (hz : z ≤ 3) (hN : isNumF κ = 0) : ∀ (y : Nat) (σ : Sg), y ≤ z → rowOK σ k z κ → rowOK (eachF f σ k y) k z κ
  | 0, _, _, h => h
  | y + 1, σ, hy, h => by
    have ih := each_ok hf h1 hk hz hN y σ (by omega) h
    unfold eachF stepF
    by_cases c : lg_cmp ((eachF f σ k y).2 (3 * k + y)) (-1) = 0
    · rw [if_pos c]; exact ih
    · rw [if_neg c]
      have hj := vp_ix (cell_in ih hk hz hN (show y < z by omega) rfl c)
      exact ⟨hf _ _ ih.1 hj, by rw [h1 _ _ 1 (by decide)]; exact ih.2.1, by rw [h1 _ _ 2 (by decide)]; exact ih.2.2⟩
theorem okA_row {σ : Sg} (h : okA σ) {j : Nat} (hj : j < 60) : okA (stampRowF σ j) := by
  unfold stampRowF
  by_cases hT : isThF (σ.1 1 j) = 0
  · rw [if_pos hT]; exact okA_low h hj
  · rw [if_neg hT]
    obtain ⟨z, hz, ez⟩ := h.1.2.1 j hj
    have es : szS σ j = z := by unfold szS; rw [ez]; exact nI_clamp (by omega)
    rw [es]
    exact (each_ok (fun σ j a b => okA_low a b) low_I hj hz (th_num hT) z _ (Nat.le_refl _) (rowOK_low ⟨h, rfl, ez⟩ hj)).1
theorem rowOK_row {σ : Sg} {k z : Nat} {κ : Int32} (h : rowOK σ k z κ) {j : Nat} (hj : j < 60) : rowOK (stampRowF σ j) k z κ :=
  ⟨okA_row h.1 hj, by rw [row_I σ j 1 (by decide)]; exact h.2.1, by rw [row_I σ j 2 (by decide)]; exact h.2.2⟩

set_option maxHeartbeats 16000000 in
set_option maxRecDepth 100000 in
theorem c_X7_stampAll (l : Launch) (D : tw_G) (ad : Nat → Nat) (b : tw_W) (σ : Sg) (sz : Nat) (k : Nat) (hA : okA σ) (hk : k < 60) : Met l yX7_stampAll (tw_w yX7_stampAll cX7_stampAll 3 none) (tw_R 4 0 0) (tw_Pc D ad (wM b σ) sz [.ref (ad 1000), .int (nI k)]) (tw_Q D ad (wM b (stampAllF σ k)) (tw_A ad (wM b σ) sz) none) 0 0 (tw_A ad (wM b σ) sz) := by
  refine tw_met (by decide) rfl (by simp [lg_sl, Value.category]) (fun p e s m below meth c ls S hK hr hlocks hnm hsz hI hl => ?_)
  have hx := S.1
  have hb := S.2.1
  have hl : lv_has ls 3 [(0, .ref (ad 1000)), (1, .int (nI k))] := hl
  obtain ⟨κ, eκ⟩ : ∃ κ : Int32, σ.1 1 k = κ := ⟨_, rfl⟩
  obtain ⟨z, hz, ez⟩ := hA.1.2.1 k hk
  have hR : rowOK σ k z κ := ⟨hA, eκ, ez⟩
  have hz3 : z ≤ 3 := hz
  rcases (show z = 0 ∨ z = 1 ∨ z = 2 ∨ z = 3 by omega) with rfl | rfl | rfl | rfl <;> by_cases hT : 11 ≤ κ
  · have hNum := alb_num hT
    refine lv_aload_n hx hb dX7_stampAll_0 rfl (lv_at hl 0 rfl) ?_
    refine gm_7 S hK hI dX7_stampAll_1 ?_
    refine lv_iload_n hx hb dX7_stampAll_4 rfl (lv_at hl 1 rfl) ?_
    refine ln_1 (j := k) S hK hI (by omega) dX7_stampAll_5 ?_
    refine lv_eqi (v := κ) (hR.2.1) ?_
    refine lv_bipush (v := 11) hx hb dX7_stampAll_6 (by decide) ?_
    refine lv_icmp_ge (tgt := 17) hx hb dX7_stampAll_8 (by decide) (fun c1 => ?_) (fun c1 => ?_)
    · refine lv_iconst (v := 0) hx hb dX7_stampAll_17 (by decide) ?_
      refine lv_istore_n (lv' := [(2, .int 0), (0, .ref (ad 1000)), (1, .int (nI k))]) hx hb dX7_stampAll_18 rfl hl (by decide) rfl (fun ls hl => ?_)
      refine lv_iload_n hx hb dX7_stampAll_19 rfl (lv_at hl 0 rfl) ?_
      refine lv_aload_n hx hb dX7_stampAll_20 rfl (lv_at hl 1 rfl) ?_
      refine gm_13 S hK hI dX7_stampAll_21 ?_
      refine lv_iload_n hx hb dX7_stampAll_24 rfl (lv_at hl 2 rfl) ?_
      refine ln_2 (j := k) S hK hI (by omega) dX7_stampAll_25 ?_
      refine lv_eqi (v := 0) (hR.2.2) ?_
      refine lv_icmp_ge (tgt := 67) hx hb dX7_stampAll_26 (by decide) (fun c2 => ?_) (fun c2 => ?_)
      · unfold stampAllF
        have es : szS σ k = 0 := by unfold szS; rw [ez]; rfl
        rw [es]
        rw [eκ]
        try rw [each_0]
        try unfold stepF
        try rw [if_pos hT]
        try rw [if_pos (show (0 : Int32) ≤ 0 from by decide)]
        exact tw_vret S hr hlocks hI dX7_stampAll_67
      · exact absurd c2 (by decide)
    · exact absurd hT c1
  · refine lv_aload_n hx hb dX7_stampAll_0 rfl (lv_at hl 0 rfl) ?_
    refine gm_7 S hK hI dX7_stampAll_1 ?_
    refine lv_iload_n hx hb dX7_stampAll_4 rfl (lv_at hl 1 rfl) ?_
    refine ln_1 (j := k) S hK hI (by omega) dX7_stampAll_5 ?_
    refine lv_eqi (v := κ) (hR.2.1) ?_
    refine lv_bipush (v := 11) hx hb dX7_stampAll_6 (by decide) ?_
    refine lv_icmp_ge (tgt := 17) hx hb dX7_stampAll_8 (by decide) (fun c3 => ?_) (fun c3 => ?_)
    · exact absurd c3 hT
    · refine lv_aload_n hx hb dX7_stampAll_11 rfl (lv_at hl 0 rfl) ?_
      refine lv_iload_n hx hb dX7_stampAll_12 rfl (lv_at hl 1 rfl) ?_
      refine tw_callv (tw_rV (As := [.int (nI k)]) (rest := []) S hK hI kX7_142 (c_X7_stampRow l D ad _ _ _ _ (hR.1) hk) (t := 1000) (fs := mRoot _) rfl rfl rfl ⟨Nat.le_of_ble_eq_true rfl, Nat.le_of_ble_eq_true rfl⟩ ⟨Nat.le_of_ble_eq_true rfl, Nat.le_of_ble_eq_true rfl⟩ rfl hl.1 rfl (Nat.le_of_ble_eq_true rfl) dX7_stampAll_13) hI (fun H locs hI => ?_)
      unfold stampAllF
      have es : szS σ k = 0 := by unfold szS; rw [ez]; rfl
      rw [es]
      rw [eκ]
      try rw [each_0]
      try unfold stepF
      try rw [if_neg hT]
      exact tw_vret S hr hlocks hI dX7_stampAll_16
  · have hNum := alb_num hT
    refine lv_aload_n hx hb dX7_stampAll_0 rfl (lv_at hl 0 rfl) ?_
    refine gm_7 S hK hI dX7_stampAll_1 ?_
    refine lv_iload_n hx hb dX7_stampAll_4 rfl (lv_at hl 1 rfl) ?_
    refine ln_1 (j := k) S hK hI (by omega) dX7_stampAll_5 ?_
    refine lv_eqi (v := κ) (hR.2.1) ?_
    refine lv_bipush (v := 11) hx hb dX7_stampAll_6 (by decide) ?_
    refine lv_icmp_ge (tgt := 17) hx hb dX7_stampAll_8 (by decide) (fun c4 => ?_) (fun c4 => ?_)
    · refine lv_iconst (v := 0) hx hb dX7_stampAll_17 (by decide) ?_
      refine lv_istore_n (lv' := [(2, .int 0), (0, .ref (ad 1000)), (1, .int (nI k))]) hx hb dX7_stampAll_18 rfl hl (by decide) rfl (fun ls hl => ?_)
      refine lv_iload_n hx hb dX7_stampAll_19 rfl (lv_at hl 0 rfl) ?_
      refine lv_aload_n hx hb dX7_stampAll_20 rfl (lv_at hl 1 rfl) ?_
      refine gm_13 S hK hI dX7_stampAll_21 ?_
      refine lv_iload_n hx hb dX7_stampAll_24 rfl (lv_at hl 2 rfl) ?_
      refine ln_2 (j := k) S hK hI (by omega) dX7_stampAll_25 ?_
      refine lv_eqi (v := 1) (hR.2.2) ?_
      refine lv_icmp_ge (tgt := 67) hx hb dX7_stampAll_26 (by decide) (fun c5 => ?_) (fun c5 => ?_)
      · exact absurd c5 (by decide)
      · refine lv_aload_n hx hb dX7_stampAll_29 rfl (lv_at hl 1 rfl) ?_
        refine gm_19 S hK hI dX7_stampAll_30 ?_
        refine lv_iconst (v := 3) hx hb dX7_stampAll_33 (by decide) ?_
        refine lv_iload_n hx hb dX7_stampAll_34 rfl (lv_at hl 2 rfl) ?_
        refine lv_imul hx hb dX7_stampAll_35 ?_
        refine lv_eqi (v := (nI (3 * k))) (nM (a := 3) (b := k) (c := 3 * k) (by omega)) ?_
        refine lv_iload_n hx hb dX7_stampAll_36 rfl (lv_at hl 0 rfl) ?_
        refine lv_iadd hx hb dX7_stampAll_37 ?_
        refine lv_eqi (v := (nI (3 * k))) (nA (a := 3 * k) (b := 0) (c := 3 * k) (by omega)) ?_
        refine ln_4 (j := 3 * k) S hK hI (by omega) dX7_stampAll_38 ?_
        refine lv_topl (fun x6 e6 => ?_)
        refine lv_ldc2 (own := RX7) (v := (-1)) hx hb S.2.2.2.1 (S.2.2.2.2 _ (tw_mem (by decide +kernel) rfl)) dX7_stampAll_39 ?_
        refine W.lcmp hx hb dX7_stampAll_42 ?_
        refine lv_topi (fun x7 e7 => ?_)
        refine lv_if_eq (tgt := 61) hx hb dX7_stampAll_43 (by decide) (fun c8 => ?_) (fun c8 => ?_)
        · refine lv_iinc (v := 1) (lv' := [(2, .int 1), (0, .ref (ad 1000)), (1, .int (nI k))]) hx hb dX7_stampAll_61 hl (k := 0) rfl (by decide) (by decide) rfl (fun ls hl => ?_)
          refine lv_goto (tgt := 19) hx hb dX7_stampAll_64 (by decide) ?_
          refine lv_iload_n hx hb dX7_stampAll_19 rfl (lv_at hl 0 rfl) ?_
          refine lv_aload_n hx hb dX7_stampAll_20 rfl (lv_at hl 1 rfl) ?_
          refine gm_13 S hK hI dX7_stampAll_21 ?_
          refine lv_iload_n hx hb dX7_stampAll_24 rfl (lv_at hl 2 rfl) ?_
          refine ln_2 (j := k) S hK hI (by omega) dX7_stampAll_25 ?_
          refine lv_eqi (v := 1) (hR.2.2) ?_
          refine lv_icmp_ge (tgt := 67) hx hb dX7_stampAll_26 (by decide) (fun c9 => ?_) (fun c9 => ?_)
          · subst e7
            subst e6
            unfold stampAllF
            have es : szS σ k = 1 := by unfold szS; rw [ez]; rfl
            rw [es]
            rw [eκ]
            try rw [each_1]
            try unfold stepF
            try rw [if_pos hT]
            try rw [if_neg (show ¬ (1 : Int32) ≤ 0 from by decide)]
            try rw [if_pos c8]
            try rw [if_pos (show (1 : Int32) ≤ 1 from by decide)]
            exact tw_vret S hr hlocks hI dX7_stampAll_67
          · exact absurd c9 (by decide)
        · refine lv_aload_n hx hb dX7_stampAll_46 rfl (lv_at hl 1 rfl) ?_
          refine lv_aload_n hx hb dX7_stampAll_47 rfl (lv_at hl 1 rfl) ?_
          refine gm_19 S hK hI dX7_stampAll_48 ?_
          refine lv_iconst (v := 3) hx hb dX7_stampAll_51 (by decide) ?_
          refine lv_iload_n hx hb dX7_stampAll_52 rfl (lv_at hl 2 rfl) ?_
          refine lv_imul hx hb dX7_stampAll_53 ?_
          refine lv_eqi (v := (nI (3 * k))) (nM (a := 3) (b := k) (c := 3 * k) (by omega)) ?_
          refine lv_iload_n hx hb dX7_stampAll_54 rfl (lv_at hl 0 rfl) ?_
          refine lv_iadd hx hb dX7_stampAll_55 ?_
          refine lv_eqi (v := (nI (3 * k))) (nA (a := 3 * k) (b := 0) (c := 3 * k) (by omega)) ?_
          refine ln_4 (j := 3 * k) S hK hI (by omega) dX7_stampAll_56 ?_
          refine lv_topl (fun x10 e10 => ?_)
          have hj10 : vp_in x10.toInt32 60 := by subst e10; subst e7; subst e6; exact cell_in hR hk hz3 hNum (i := 0) (a := 3 * k) (by decide) (by omega) c8
          refine lv_l2i hx hb dX7_stampAll_57 rfl ?_
          refine lv_eqi (v := nI (ix x10.toInt32)) (vp_nI hj10 (by decide)) ?_
          refine tw_callv (tw_rV (As := [.int (nI (ix x10.toInt32))]) (rest := []) S hK hI kX7_142 (c_X7_stampRow l D ad _ _ _ _ (hR.1) (vp_ix hj10)) (t := 1000) (fs := mRoot _) rfl rfl rfl ⟨Nat.le_of_ble_eq_true rfl, Nat.le_of_ble_eq_true rfl⟩ ⟨Nat.le_of_ble_eq_true rfl, Nat.le_of_ble_eq_true rfl⟩ rfl hl.1 rfl (Nat.le_of_ble_eq_true rfl) dX7_stampAll_58) hI (fun H locs hI => ?_)
          have hR := rowOK_row hR (vp_ix hj10)
          refine lv_iinc (v := 1) (lv' := [(2, .int 1), (0, .ref (ad 1000)), (1, .int (nI k))]) hx hb dX7_stampAll_61 hl (k := 0) rfl (by decide) (by decide) rfl (fun ls hl => ?_)
          refine lv_goto (tgt := 19) hx hb dX7_stampAll_64 (by decide) ?_
          refine lv_iload_n hx hb dX7_stampAll_19 rfl (lv_at hl 0 rfl) ?_
          refine lv_aload_n hx hb dX7_stampAll_20 rfl (lv_at hl 1 rfl) ?_
          refine gm_13 S hK hI dX7_stampAll_21 ?_
          refine lv_iload_n hx hb dX7_stampAll_24 rfl (lv_at hl 2 rfl) ?_
          refine ln_2 (j := k) S hK hI (by omega) dX7_stampAll_25 ?_
          refine lv_eqi (v := 1) (hR.2.2) ?_
          refine lv_icmp_ge (tgt := 67) hx hb dX7_stampAll_26 (by decide) (fun c11 => ?_) (fun c11 => ?_)
          · subst e10
            subst e7
            subst e6
            unfold stampAllF
            have es : szS σ k = 1 := by unfold szS; rw [ez]; rfl
            rw [es]
            rw [eκ]
            try rw [each_1]
            try unfold stepF
            try rw [if_pos hT]
            try rw [if_neg (show ¬ (1 : Int32) ≤ 0 from by decide)]
            try rw [if_neg c8]
            try rw [if_pos (show (1 : Int32) ≤ 1 from by decide)]
            exact tw_vret S hr hlocks hI dX7_stampAll_67
          · exact absurd c11 (by decide)
    · exact absurd hT c4
  · refine lv_aload_n hx hb dX7_stampAll_0 rfl (lv_at hl 0 rfl) ?_
    refine gm_7 S hK hI dX7_stampAll_1 ?_
    refine lv_iload_n hx hb dX7_stampAll_4 rfl (lv_at hl 1 rfl) ?_
    refine ln_1 (j := k) S hK hI (by omega) dX7_stampAll_5 ?_
    refine lv_eqi (v := κ) (hR.2.1) ?_
    refine lv_bipush (v := 11) hx hb dX7_stampAll_6 (by decide) ?_
    refine lv_icmp_ge (tgt := 17) hx hb dX7_stampAll_8 (by decide) (fun c12 => ?_) (fun c12 => ?_)
    · exact absurd c12 hT
    · refine lv_aload_n hx hb dX7_stampAll_11 rfl (lv_at hl 0 rfl) ?_
      refine lv_iload_n hx hb dX7_stampAll_12 rfl (lv_at hl 1 rfl) ?_
      refine tw_callv (tw_rV (As := [.int (nI k)]) (rest := []) S hK hI kX7_142 (c_X7_stampRow l D ad _ _ _ _ (hR.1) hk) (t := 1000) (fs := mRoot _) rfl rfl rfl ⟨Nat.le_of_ble_eq_true rfl, Nat.le_of_ble_eq_true rfl⟩ ⟨Nat.le_of_ble_eq_true rfl, Nat.le_of_ble_eq_true rfl⟩ rfl hl.1 rfl (Nat.le_of_ble_eq_true rfl) dX7_stampAll_13) hI (fun H locs hI => ?_)
      unfold stampAllF
      have es : szS σ k = 1 := by unfold szS; rw [ez]; rfl
      rw [es]
      rw [eκ]
      try rw [each_1]
      try unfold stepF
      try rw [if_neg hT]
      exact tw_vret S hr hlocks hI dX7_stampAll_16
  · have hNum := alb_num hT
    refine lv_aload_n hx hb dX7_stampAll_0 rfl (lv_at hl 0 rfl) ?_
    refine gm_7 S hK hI dX7_stampAll_1 ?_
    refine lv_iload_n hx hb dX7_stampAll_4 rfl (lv_at hl 1 rfl) ?_
    refine ln_1 (j := k) S hK hI (by omega) dX7_stampAll_5 ?_
    refine lv_eqi (v := κ) (hR.2.1) ?_
    refine lv_bipush (v := 11) hx hb dX7_stampAll_6 (by decide) ?_
    refine lv_icmp_ge (tgt := 17) hx hb dX7_stampAll_8 (by decide) (fun c13 => ?_) (fun c13 => ?_)
    · refine lv_iconst (v := 0) hx hb dX7_stampAll_17 (by decide) ?_
      refine lv_istore_n (lv' := [(2, .int 0), (0, .ref (ad 1000)), (1, .int (nI k))]) hx hb dX7_stampAll_18 rfl hl (by decide) rfl (fun ls hl => ?_)
      refine lv_iload_n hx hb dX7_stampAll_19 rfl (lv_at hl 0 rfl) ?_
      refine lv_aload_n hx hb dX7_stampAll_20 rfl (lv_at hl 1 rfl) ?_
      refine gm_13 S hK hI dX7_stampAll_21 ?_
      refine lv_iload_n hx hb dX7_stampAll_24 rfl (lv_at hl 2 rfl) ?_
      refine ln_2 (j := k) S hK hI (by omega) dX7_stampAll_25 ?_
      refine lv_eqi (v := 2) (hR.2.2) ?_
      refine lv_icmp_ge (tgt := 67) hx hb dX7_stampAll_26 (by decide) (fun c14 => ?_) (fun c14 => ?_)
      · exact absurd c14 (by decide)
      · refine lv_aload_n hx hb dX7_stampAll_29 rfl (lv_at hl 1 rfl) ?_
        refine gm_19 S hK hI dX7_stampAll_30 ?_
        refine lv_iconst (v := 3) hx hb dX7_stampAll_33 (by decide) ?_
        refine lv_iload_n hx hb dX7_stampAll_34 rfl (lv_at hl 2 rfl) ?_
        refine lv_imul hx hb dX7_stampAll_35 ?_
        refine lv_eqi (v := (nI (3 * k))) (nM (a := 3) (b := k) (c := 3 * k) (by omega)) ?_
        refine lv_iload_n hx hb dX7_stampAll_36 rfl (lv_at hl 0 rfl) ?_
        refine lv_iadd hx hb dX7_stampAll_37 ?_
        refine lv_eqi (v := (nI (3 * k))) (nA (a := 3 * k) (b := 0) (c := 3 * k) (by omega)) ?_
        refine ln_4 (j := 3 * k) S hK hI (by omega) dX7_stampAll_38 ?_
        refine lv_topl (fun x15 e15 => ?_)
        refine lv_ldc2 (own := RX7) (v := (-1)) hx hb S.2.2.2.1 (S.2.2.2.2 _ (tw_mem (by decide +kernel) rfl)) dX7_stampAll_39 ?_
        refine W.lcmp hx hb dX7_stampAll_42 ?_
        refine lv_topi (fun x16 e16 => ?_)
        refine lv_if_eq (tgt := 61) hx hb dX7_stampAll_43 (by decide) (fun c17 => ?_) (fun c17 => ?_)
        · refine lv_iinc (v := 1) (lv' := [(2, .int 1), (0, .ref (ad 1000)), (1, .int (nI k))]) hx hb dX7_stampAll_61 hl (k := 0) rfl (by decide) (by decide) rfl (fun ls hl => ?_)
          refine lv_goto (tgt := 19) hx hb dX7_stampAll_64 (by decide) ?_
          refine lv_iload_n hx hb dX7_stampAll_19 rfl (lv_at hl 0 rfl) ?_
          refine lv_aload_n hx hb dX7_stampAll_20 rfl (lv_at hl 1 rfl) ?_
          refine gm_13 S hK hI dX7_stampAll_21 ?_
          refine lv_iload_n hx hb dX7_stampAll_24 rfl (lv_at hl 2 rfl) ?_
          refine ln_2 (j := k) S hK hI (by omega) dX7_stampAll_25 ?_
          refine lv_eqi (v := 2) (hR.2.2) ?_
          refine lv_icmp_ge (tgt := 67) hx hb dX7_stampAll_26 (by decide) (fun c18 => ?_) (fun c18 => ?_)
          · exact absurd c18 (by decide)
          · refine lv_aload_n hx hb dX7_stampAll_29 rfl (lv_at hl 1 rfl) ?_
            refine gm_19 S hK hI dX7_stampAll_30 ?_
            refine lv_iconst (v := 3) hx hb dX7_stampAll_33 (by decide) ?_
            refine lv_iload_n hx hb dX7_stampAll_34 rfl (lv_at hl 2 rfl) ?_
            refine lv_imul hx hb dX7_stampAll_35 ?_
            refine lv_eqi (v := (nI (3 * k))) (nM (a := 3) (b := k) (c := 3 * k) (by omega)) ?_
            refine lv_iload_n hx hb dX7_stampAll_36 rfl (lv_at hl 0 rfl) ?_
            refine lv_iadd hx hb dX7_stampAll_37 ?_
            refine lv_eqi (v := (nI (3 * k + 1))) (nA (a := 3 * k) (b := 1) (c := 3 * k + 1) (by omega)) ?_
            refine ln_4 (j := 3 * k + 1) S hK hI (by omega) dX7_stampAll_38 ?_
            refine lv_topl (fun x19 e19 => ?_)
            refine lv_ldc2 (own := RX7) (v := (-1)) hx hb S.2.2.2.1 (S.2.2.2.2 _ (tw_mem (by decide +kernel) rfl)) dX7_stampAll_39 ?_
            refine W.lcmp hx hb dX7_stampAll_42 ?_
            refine lv_topi (fun x20 e20 => ?_)
            refine lv_if_eq (tgt := 61) hx hb dX7_stampAll_43 (by decide) (fun c21 => ?_) (fun c21 => ?_)
            · refine lv_iinc (v := 2) (lv' := [(2, .int 2), (0, .ref (ad 1000)), (1, .int (nI k))]) hx hb dX7_stampAll_61 hl (k := 0) rfl (by decide) (by decide) rfl (fun ls hl => ?_)
              refine lv_goto (tgt := 19) hx hb dX7_stampAll_64 (by decide) ?_
              refine lv_iload_n hx hb dX7_stampAll_19 rfl (lv_at hl 0 rfl) ?_
              refine lv_aload_n hx hb dX7_stampAll_20 rfl (lv_at hl 1 rfl) ?_
              refine gm_13 S hK hI dX7_stampAll_21 ?_
              refine lv_iload_n hx hb dX7_stampAll_24 rfl (lv_at hl 2 rfl) ?_
              refine ln_2 (j := k) S hK hI (by omega) dX7_stampAll_25 ?_
              refine lv_eqi (v := 2) (hR.2.2) ?_
              refine lv_icmp_ge (tgt := 67) hx hb dX7_stampAll_26 (by decide) (fun c22 => ?_) (fun c22 => ?_)
              · subst e20
                subst e19
                subst e16
                subst e15
                unfold stampAllF
                have es : szS σ k = 2 := by unfold szS; rw [ez]; rfl
                rw [es]
                rw [eκ]
                try rw [each_2]
                try unfold stepF
                try rw [if_pos hT]
                try rw [if_neg (show ¬ (2 : Int32) ≤ 0 from by decide)]
                try rw [if_pos c17]
                try rw [if_neg (show ¬ (2 : Int32) ≤ 1 from by decide)]
                try rw [if_pos c21]
                try rw [if_pos (show (2 : Int32) ≤ 2 from by decide)]
                exact tw_vret S hr hlocks hI dX7_stampAll_67
              · exact absurd c22 (by decide)
            · refine lv_aload_n hx hb dX7_stampAll_46 rfl (lv_at hl 1 rfl) ?_
              refine lv_aload_n hx hb dX7_stampAll_47 rfl (lv_at hl 1 rfl) ?_
              refine gm_19 S hK hI dX7_stampAll_48 ?_
              refine lv_iconst (v := 3) hx hb dX7_stampAll_51 (by decide) ?_
              refine lv_iload_n hx hb dX7_stampAll_52 rfl (lv_at hl 2 rfl) ?_
              refine lv_imul hx hb dX7_stampAll_53 ?_
              refine lv_eqi (v := (nI (3 * k))) (nM (a := 3) (b := k) (c := 3 * k) (by omega)) ?_
              refine lv_iload_n hx hb dX7_stampAll_54 rfl (lv_at hl 0 rfl) ?_
              refine lv_iadd hx hb dX7_stampAll_55 ?_
              refine lv_eqi (v := (nI (3 * k + 1))) (nA (a := 3 * k) (b := 1) (c := 3 * k + 1) (by omega)) ?_
              refine ln_4 (j := 3 * k + 1) S hK hI (by omega) dX7_stampAll_56 ?_
              refine lv_topl (fun x23 e23 => ?_)
              have hj23 : vp_in x23.toInt32 60 := by subst e23; subst e20; subst e19; subst e16; subst e15; exact cell_in hR hk hz3 hNum (i := 1) (a := 3 * k + 1) (by decide) (by omega) c21
              refine lv_l2i hx hb dX7_stampAll_57 rfl ?_
              refine lv_eqi (v := nI (ix x23.toInt32)) (vp_nI hj23 (by decide)) ?_
              refine tw_callv (tw_rV (As := [.int (nI (ix x23.toInt32))]) (rest := []) S hK hI kX7_142 (c_X7_stampRow l D ad _ _ _ _ (hR.1) (vp_ix hj23)) (t := 1000) (fs := mRoot _) rfl rfl rfl ⟨Nat.le_of_ble_eq_true rfl, Nat.le_of_ble_eq_true rfl⟩ ⟨Nat.le_of_ble_eq_true rfl, Nat.le_of_ble_eq_true rfl⟩ rfl hl.1 rfl (Nat.le_of_ble_eq_true rfl) dX7_stampAll_58) hI (fun H locs hI => ?_)
              have hR := rowOK_row hR (vp_ix hj23)
              refine lv_iinc (v := 2) (lv' := [(2, .int 2), (0, .ref (ad 1000)), (1, .int (nI k))]) hx hb dX7_stampAll_61 hl (k := 0) rfl (by decide) (by decide) rfl (fun ls hl => ?_)
              refine lv_goto (tgt := 19) hx hb dX7_stampAll_64 (by decide) ?_
              refine lv_iload_n hx hb dX7_stampAll_19 rfl (lv_at hl 0 rfl) ?_
              refine lv_aload_n hx hb dX7_stampAll_20 rfl (lv_at hl 1 rfl) ?_
              refine gm_13 S hK hI dX7_stampAll_21 ?_
              refine lv_iload_n hx hb dX7_stampAll_24 rfl (lv_at hl 2 rfl) ?_
              refine ln_2 (j := k) S hK hI (by omega) dX7_stampAll_25 ?_
              refine lv_eqi (v := 2) (hR.2.2) ?_
              refine lv_icmp_ge (tgt := 67) hx hb dX7_stampAll_26 (by decide) (fun c24 => ?_) (fun c24 => ?_)
              · subst e23
                subst e20
                subst e19
                subst e16
                subst e15
                unfold stampAllF
                have es : szS σ k = 2 := by unfold szS; rw [ez]; rfl
                rw [es]
                rw [eκ]
                try rw [each_2]
                try unfold stepF
                try rw [if_pos hT]
                try rw [if_neg (show ¬ (2 : Int32) ≤ 0 from by decide)]
                try rw [if_pos c17]
                try rw [if_neg (show ¬ (2 : Int32) ≤ 1 from by decide)]
                try rw [if_neg c21]
                try rw [if_pos (show (2 : Int32) ≤ 2 from by decide)]
                exact tw_vret S hr hlocks hI dX7_stampAll_67
              · exact absurd c24 (by decide)
        · refine lv_aload_n hx hb dX7_stampAll_46 rfl (lv_at hl 1 rfl) ?_
          refine lv_aload_n hx hb dX7_stampAll_47 rfl (lv_at hl 1 rfl) ?_
          refine gm_19 S hK hI dX7_stampAll_48 ?_
          refine lv_iconst (v := 3) hx hb dX7_stampAll_51 (by decide) ?_
          refine lv_iload_n hx hb dX7_stampAll_52 rfl (lv_at hl 2 rfl) ?_
          refine lv_imul hx hb dX7_stampAll_53 ?_
          refine lv_eqi (v := (nI (3 * k))) (nM (a := 3) (b := k) (c := 3 * k) (by omega)) ?_
          refine lv_iload_n hx hb dX7_stampAll_54 rfl (lv_at hl 0 rfl) ?_
          refine lv_iadd hx hb dX7_stampAll_55 ?_
          refine lv_eqi (v := (nI (3 * k))) (nA (a := 3 * k) (b := 0) (c := 3 * k) (by omega)) ?_
          refine ln_4 (j := 3 * k) S hK hI (by omega) dX7_stampAll_56 ?_
          refine lv_topl (fun x25 e25 => ?_)
          have hj25 : vp_in x25.toInt32 60 := by subst e25; subst e16; subst e15; exact cell_in hR hk hz3 hNum (i := 0) (a := 3 * k) (by decide) (by omega) c17
          refine lv_l2i hx hb dX7_stampAll_57 rfl ?_
          refine lv_eqi (v := nI (ix x25.toInt32)) (vp_nI hj25 (by decide)) ?_
          refine tw_callv (tw_rV (As := [.int (nI (ix x25.toInt32))]) (rest := []) S hK hI kX7_142 (c_X7_stampRow l D ad _ _ _ _ (hR.1) (vp_ix hj25)) (t := 1000) (fs := mRoot _) rfl rfl rfl ⟨Nat.le_of_ble_eq_true rfl, Nat.le_of_ble_eq_true rfl⟩ ⟨Nat.le_of_ble_eq_true rfl, Nat.le_of_ble_eq_true rfl⟩ rfl hl.1 rfl (Nat.le_of_ble_eq_true rfl) dX7_stampAll_58) hI (fun H locs hI => ?_)
          have hR := rowOK_row hR (vp_ix hj25)
          refine lv_iinc (v := 1) (lv' := [(2, .int 1), (0, .ref (ad 1000)), (1, .int (nI k))]) hx hb dX7_stampAll_61 hl (k := 0) rfl (by decide) (by decide) rfl (fun ls hl => ?_)
          refine lv_goto (tgt := 19) hx hb dX7_stampAll_64 (by decide) ?_
          refine lv_iload_n hx hb dX7_stampAll_19 rfl (lv_at hl 0 rfl) ?_
          refine lv_aload_n hx hb dX7_stampAll_20 rfl (lv_at hl 1 rfl) ?_
          refine gm_13 S hK hI dX7_stampAll_21 ?_
          refine lv_iload_n hx hb dX7_stampAll_24 rfl (lv_at hl 2 rfl) ?_
          refine ln_2 (j := k) S hK hI (by omega) dX7_stampAll_25 ?_
          refine lv_eqi (v := 2) (hR.2.2) ?_
          refine lv_icmp_ge (tgt := 67) hx hb dX7_stampAll_26 (by decide) (fun c26 => ?_) (fun c26 => ?_)
          · exact absurd c26 (by decide)
          · refine lv_aload_n hx hb dX7_stampAll_29 rfl (lv_at hl 1 rfl) ?_
            refine gm_19 S hK hI dX7_stampAll_30 ?_
            refine lv_iconst (v := 3) hx hb dX7_stampAll_33 (by decide) ?_
            refine lv_iload_n hx hb dX7_stampAll_34 rfl (lv_at hl 2 rfl) ?_
            refine lv_imul hx hb dX7_stampAll_35 ?_
            refine lv_eqi (v := (nI (3 * k))) (nM (a := 3) (b := k) (c := 3 * k) (by omega)) ?_
            refine lv_iload_n hx hb dX7_stampAll_36 rfl (lv_at hl 0 rfl) ?_
            refine lv_iadd hx hb dX7_stampAll_37 ?_
            refine lv_eqi (v := (nI (3 * k + 1))) (nA (a := 3 * k) (b := 1) (c := 3 * k + 1) (by omega)) ?_
            refine ln_4 (j := 3 * k + 1) S hK hI (by omega) dX7_stampAll_38 ?_
            refine lv_topl (fun x27 e27 => ?_)
            refine lv_ldc2 (own := RX7) (v := (-1)) hx hb S.2.2.2.1 (S.2.2.2.2 _ (tw_mem (by decide +kernel) rfl)) dX7_stampAll_39 ?_
            refine W.lcmp hx hb dX7_stampAll_42 ?_
            refine lv_topi (fun x28 e28 => ?_)
            refine lv_if_eq (tgt := 61) hx hb dX7_stampAll_43 (by decide) (fun c29 => ?_) (fun c29 => ?_)
            · refine lv_iinc (v := 2) (lv' := [(2, .int 2), (0, .ref (ad 1000)), (1, .int (nI k))]) hx hb dX7_stampAll_61 hl (k := 0) rfl (by decide) (by decide) rfl (fun ls hl => ?_)
              refine lv_goto (tgt := 19) hx hb dX7_stampAll_64 (by decide) ?_
              refine lv_iload_n hx hb dX7_stampAll_19 rfl (lv_at hl 0 rfl) ?_
              refine lv_aload_n hx hb dX7_stampAll_20 rfl (lv_at hl 1 rfl) ?_
              refine gm_13 S hK hI dX7_stampAll_21 ?_
              refine lv_iload_n hx hb dX7_stampAll_24 rfl (lv_at hl 2 rfl) ?_
              refine ln_2 (j := k) S hK hI (by omega) dX7_stampAll_25 ?_
              refine lv_eqi (v := 2) (hR.2.2) ?_
              refine lv_icmp_ge (tgt := 67) hx hb dX7_stampAll_26 (by decide) (fun c30 => ?_) (fun c30 => ?_)
              · subst e28
                subst e27
                subst e25
                subst e16
                subst e15
                unfold stampAllF
                have es : szS σ k = 2 := by unfold szS; rw [ez]; rfl
                rw [es]
                rw [eκ]
                try rw [each_2]
                try unfold stepF
                try rw [if_pos hT]
                try rw [if_neg (show ¬ (2 : Int32) ≤ 0 from by decide)]
                try rw [if_neg c17]
                try rw [if_neg (show ¬ (2 : Int32) ≤ 1 from by decide)]
                try rw [if_pos c29]
                try rw [if_pos (show (2 : Int32) ≤ 2 from by decide)]
                exact tw_vret S hr hlocks hI dX7_stampAll_67
              · exact absurd c30 (by decide)
            · refine lv_aload_n hx hb dX7_stampAll_46 rfl (lv_at hl 1 rfl) ?_
              refine lv_aload_n hx hb dX7_stampAll_47 rfl (lv_at hl 1 rfl) ?_
              refine gm_19 S hK hI dX7_stampAll_48 ?_
              refine lv_iconst (v := 3) hx hb dX7_stampAll_51 (by decide) ?_
              refine lv_iload_n hx hb dX7_stampAll_52 rfl (lv_at hl 2 rfl) ?_
              refine lv_imul hx hb dX7_stampAll_53 ?_
              refine lv_eqi (v := (nI (3 * k))) (nM (a := 3) (b := k) (c := 3 * k) (by omega)) ?_
              refine lv_iload_n hx hb dX7_stampAll_54 rfl (lv_at hl 0 rfl) ?_
              refine lv_iadd hx hb dX7_stampAll_55 ?_
              refine lv_eqi (v := (nI (3 * k + 1))) (nA (a := 3 * k) (b := 1) (c := 3 * k + 1) (by omega)) ?_
              refine ln_4 (j := 3 * k + 1) S hK hI (by omega) dX7_stampAll_56 ?_
              refine lv_topl (fun x31 e31 => ?_)
              have hj31 : vp_in x31.toInt32 60 := by subst e31; subst e28; subst e27; subst e25; subst e16; subst e15; exact cell_in hR hk hz3 hNum (i := 1) (a := 3 * k + 1) (by decide) (by omega) c29
              refine lv_l2i hx hb dX7_stampAll_57 rfl ?_
              refine lv_eqi (v := nI (ix x31.toInt32)) (vp_nI hj31 (by decide)) ?_
              refine tw_callv (tw_rV (As := [.int (nI (ix x31.toInt32))]) (rest := []) S hK hI kX7_142 (c_X7_stampRow l D ad _ _ _ _ (hR.1) (vp_ix hj31)) (t := 1000) (fs := mRoot _) rfl rfl rfl ⟨Nat.le_of_ble_eq_true rfl, Nat.le_of_ble_eq_true rfl⟩ ⟨Nat.le_of_ble_eq_true rfl, Nat.le_of_ble_eq_true rfl⟩ rfl hl.1 rfl (Nat.le_of_ble_eq_true rfl) dX7_stampAll_58) hI (fun H locs hI => ?_)
              have hR := rowOK_row hR (vp_ix hj31)
              refine lv_iinc (v := 2) (lv' := [(2, .int 2), (0, .ref (ad 1000)), (1, .int (nI k))]) hx hb dX7_stampAll_61 hl (k := 0) rfl (by decide) (by decide) rfl (fun ls hl => ?_)
              refine lv_goto (tgt := 19) hx hb dX7_stampAll_64 (by decide) ?_
              refine lv_iload_n hx hb dX7_stampAll_19 rfl (lv_at hl 0 rfl) ?_
              refine lv_aload_n hx hb dX7_stampAll_20 rfl (lv_at hl 1 rfl) ?_
              refine gm_13 S hK hI dX7_stampAll_21 ?_
              refine lv_iload_n hx hb dX7_stampAll_24 rfl (lv_at hl 2 rfl) ?_
              refine ln_2 (j := k) S hK hI (by omega) dX7_stampAll_25 ?_
              refine lv_eqi (v := 2) (hR.2.2) ?_
              refine lv_icmp_ge (tgt := 67) hx hb dX7_stampAll_26 (by decide) (fun c32 => ?_) (fun c32 => ?_)
              · subst e31
                subst e28
                subst e27
                subst e25
                subst e16
                subst e15
                unfold stampAllF
                have es : szS σ k = 2 := by unfold szS; rw [ez]; rfl
                rw [es]
                rw [eκ]
                try rw [each_2]
                try unfold stepF
                try rw [if_pos hT]
                try rw [if_neg (show ¬ (2 : Int32) ≤ 0 from by decide)]
                try rw [if_neg c17]
                try rw [if_neg (show ¬ (2 : Int32) ≤ 1 from by decide)]
                try rw [if_neg c29]
                try rw [if_pos (show (2 : Int32) ≤ 2 from by decide)]
                exact tw_vret S hr hlocks hI dX7_stampAll_67
              · exact absurd c32 (by decide)
    · exact absurd hT c13
  · refine lv_aload_n hx hb dX7_stampAll_0 rfl (lv_at hl 0 rfl) ?_
    refine gm_7 S hK hI dX7_stampAll_1 ?_
    refine lv_iload_n hx hb dX7_stampAll_4 rfl (lv_at hl 1 rfl) ?_
    refine ln_1 (j := k) S hK hI (by omega) dX7_stampAll_5 ?_
    refine lv_eqi (v := κ) (hR.2.1) ?_
    refine lv_bipush (v := 11) hx hb dX7_stampAll_6 (by decide) ?_
    refine lv_icmp_ge (tgt := 17) hx hb dX7_stampAll_8 (by decide) (fun c33 => ?_) (fun c33 => ?_)
    · exact absurd c33 hT
    · refine lv_aload_n hx hb dX7_stampAll_11 rfl (lv_at hl 0 rfl) ?_
      refine lv_iload_n hx hb dX7_stampAll_12 rfl (lv_at hl 1 rfl) ?_
      refine tw_callv (tw_rV (As := [.int (nI k)]) (rest := []) S hK hI kX7_142 (c_X7_stampRow l D ad _ _ _ _ (hR.1) hk) (t := 1000) (fs := mRoot _) rfl rfl rfl ⟨Nat.le_of_ble_eq_true rfl, Nat.le_of_ble_eq_true rfl⟩ ⟨Nat.le_of_ble_eq_true rfl, Nat.le_of_ble_eq_true rfl⟩ rfl hl.1 rfl (Nat.le_of_ble_eq_true rfl) dX7_stampAll_13) hI (fun H locs hI => ?_)
      unfold stampAllF
      have es : szS σ k = 2 := by unfold szS; rw [ez]; rfl
      rw [es]
      rw [eκ]
      try rw [each_2]
      try unfold stepF
      try rw [if_neg hT]
      exact tw_vret S hr hlocks hI dX7_stampAll_16
  · have hNum := alb_num hT
    refine lv_aload_n hx hb dX7_stampAll_0 rfl (lv_at hl 0 rfl) ?_
    refine gm_7 S hK hI dX7_stampAll_1 ?_
    refine lv_iload_n hx hb dX7_stampAll_4 rfl (lv_at hl 1 rfl) ?_
    refine ln_1 (j := k) S hK hI (by omega) dX7_stampAll_5 ?_
    refine lv_eqi (v := κ) (hR.2.1) ?_
    refine lv_bipush (v := 11) hx hb dX7_stampAll_6 (by decide) ?_
    refine lv_icmp_ge (tgt := 17) hx hb dX7_stampAll_8 (by decide) (fun c34 => ?_) (fun c34 => ?_)
    · refine lv_iconst (v := 0) hx hb dX7_stampAll_17 (by decide) ?_
      refine lv_istore_n (lv' := [(2, .int 0), (0, .ref (ad 1000)), (1, .int (nI k))]) hx hb dX7_stampAll_18 rfl hl (by decide) rfl (fun ls hl => ?_)
      refine lv_iload_n hx hb dX7_stampAll_19 rfl (lv_at hl 0 rfl) ?_
      refine lv_aload_n hx hb dX7_stampAll_20 rfl (lv_at hl 1 rfl) ?_
      refine gm_13 S hK hI dX7_stampAll_21 ?_
      refine lv_iload_n hx hb dX7_stampAll_24 rfl (lv_at hl 2 rfl) ?_
      refine ln_2 (j := k) S hK hI (by omega) dX7_stampAll_25 ?_
      refine lv_eqi (v := 3) (hR.2.2) ?_
      refine lv_icmp_ge (tgt := 67) hx hb dX7_stampAll_26 (by decide) (fun c35 => ?_) (fun c35 => ?_)
      · exact absurd c35 (by decide)
      · refine lv_aload_n hx hb dX7_stampAll_29 rfl (lv_at hl 1 rfl) ?_
        refine gm_19 S hK hI dX7_stampAll_30 ?_
        refine lv_iconst (v := 3) hx hb dX7_stampAll_33 (by decide) ?_
        refine lv_iload_n hx hb dX7_stampAll_34 rfl (lv_at hl 2 rfl) ?_
        refine lv_imul hx hb dX7_stampAll_35 ?_
        refine lv_eqi (v := (nI (3 * k))) (nM (a := 3) (b := k) (c := 3 * k) (by omega)) ?_
        refine lv_iload_n hx hb dX7_stampAll_36 rfl (lv_at hl 0 rfl) ?_
        refine lv_iadd hx hb dX7_stampAll_37 ?_
        refine lv_eqi (v := (nI (3 * k))) (nA (a := 3 * k) (b := 0) (c := 3 * k) (by omega)) ?_
        refine ln_4 (j := 3 * k) S hK hI (by omega) dX7_stampAll_38 ?_
        refine lv_topl (fun x36 e36 => ?_)
        refine lv_ldc2 (own := RX7) (v := (-1)) hx hb S.2.2.2.1 (S.2.2.2.2 _ (tw_mem (by decide +kernel) rfl)) dX7_stampAll_39 ?_
        refine W.lcmp hx hb dX7_stampAll_42 ?_
        refine lv_topi (fun x37 e37 => ?_)
        refine lv_if_eq (tgt := 61) hx hb dX7_stampAll_43 (by decide) (fun c38 => ?_) (fun c38 => ?_)
        · refine lv_iinc (v := 1) (lv' := [(2, .int 1), (0, .ref (ad 1000)), (1, .int (nI k))]) hx hb dX7_stampAll_61 hl (k := 0) rfl (by decide) (by decide) rfl (fun ls hl => ?_)
          refine lv_goto (tgt := 19) hx hb dX7_stampAll_64 (by decide) ?_
          refine lv_iload_n hx hb dX7_stampAll_19 rfl (lv_at hl 0 rfl) ?_
          refine lv_aload_n hx hb dX7_stampAll_20 rfl (lv_at hl 1 rfl) ?_
          refine gm_13 S hK hI dX7_stampAll_21 ?_
          refine lv_iload_n hx hb dX7_stampAll_24 rfl (lv_at hl 2 rfl) ?_
          refine ln_2 (j := k) S hK hI (by omega) dX7_stampAll_25 ?_
          refine lv_eqi (v := 3) (hR.2.2) ?_
          refine lv_icmp_ge (tgt := 67) hx hb dX7_stampAll_26 (by decide) (fun c39 => ?_) (fun c39 => ?_)
          · exact absurd c39 (by decide)
          · refine lv_aload_n hx hb dX7_stampAll_29 rfl (lv_at hl 1 rfl) ?_
            refine gm_19 S hK hI dX7_stampAll_30 ?_
            refine lv_iconst (v := 3) hx hb dX7_stampAll_33 (by decide) ?_
            refine lv_iload_n hx hb dX7_stampAll_34 rfl (lv_at hl 2 rfl) ?_
            refine lv_imul hx hb dX7_stampAll_35 ?_
            refine lv_eqi (v := (nI (3 * k))) (nM (a := 3) (b := k) (c := 3 * k) (by omega)) ?_
            refine lv_iload_n hx hb dX7_stampAll_36 rfl (lv_at hl 0 rfl) ?_
            refine lv_iadd hx hb dX7_stampAll_37 ?_
            refine lv_eqi (v := (nI (3 * k + 1))) (nA (a := 3 * k) (b := 1) (c := 3 * k + 1) (by omega)) ?_
            refine ln_4 (j := 3 * k + 1) S hK hI (by omega) dX7_stampAll_38 ?_
            refine lv_topl (fun x40 e40 => ?_)
            refine lv_ldc2 (own := RX7) (v := (-1)) hx hb S.2.2.2.1 (S.2.2.2.2 _ (tw_mem (by decide +kernel) rfl)) dX7_stampAll_39 ?_
            refine W.lcmp hx hb dX7_stampAll_42 ?_
            refine lv_topi (fun x41 e41 => ?_)
            refine lv_if_eq (tgt := 61) hx hb dX7_stampAll_43 (by decide) (fun c42 => ?_) (fun c42 => ?_)
            · refine lv_iinc (v := 2) (lv' := [(2, .int 2), (0, .ref (ad 1000)), (1, .int (nI k))]) hx hb dX7_stampAll_61 hl (k := 0) rfl (by decide) (by decide) rfl (fun ls hl => ?_)
              refine lv_goto (tgt := 19) hx hb dX7_stampAll_64 (by decide) ?_
              refine lv_iload_n hx hb dX7_stampAll_19 rfl (lv_at hl 0 rfl) ?_
              refine lv_aload_n hx hb dX7_stampAll_20 rfl (lv_at hl 1 rfl) ?_
              refine gm_13 S hK hI dX7_stampAll_21 ?_
              refine lv_iload_n hx hb dX7_stampAll_24 rfl (lv_at hl 2 rfl) ?_
              refine ln_2 (j := k) S hK hI (by omega) dX7_stampAll_25 ?_
              refine lv_eqi (v := 3) (hR.2.2) ?_
              refine lv_icmp_ge (tgt := 67) hx hb dX7_stampAll_26 (by decide) (fun c43 => ?_) (fun c43 => ?_)
              · exact absurd c43 (by decide)
              · refine lv_aload_n hx hb dX7_stampAll_29 rfl (lv_at hl 1 rfl) ?_
                refine gm_19 S hK hI dX7_stampAll_30 ?_
                refine lv_iconst (v := 3) hx hb dX7_stampAll_33 (by decide) ?_
                refine lv_iload_n hx hb dX7_stampAll_34 rfl (lv_at hl 2 rfl) ?_
                refine lv_imul hx hb dX7_stampAll_35 ?_
                refine lv_eqi (v := (nI (3 * k))) (nM (a := 3) (b := k) (c := 3 * k) (by omega)) ?_
                refine lv_iload_n hx hb dX7_stampAll_36 rfl (lv_at hl 0 rfl) ?_
                refine lv_iadd hx hb dX7_stampAll_37 ?_
                refine lv_eqi (v := (nI (3 * k + 2))) (nA (a := 3 * k) (b := 2) (c := 3 * k + 2) (by omega)) ?_
                refine ln_4 (j := 3 * k + 2) S hK hI (by omega) dX7_stampAll_38 ?_
                refine lv_topl (fun x44 e44 => ?_)
                refine lv_ldc2 (own := RX7) (v := (-1)) hx hb S.2.2.2.1 (S.2.2.2.2 _ (tw_mem (by decide +kernel) rfl)) dX7_stampAll_39 ?_
                refine W.lcmp hx hb dX7_stampAll_42 ?_
                refine lv_topi (fun x45 e45 => ?_)
                refine lv_if_eq (tgt := 61) hx hb dX7_stampAll_43 (by decide) (fun c46 => ?_) (fun c46 => ?_)
                · refine lv_iinc (v := 3) (lv' := [(2, .int 3), (0, .ref (ad 1000)), (1, .int (nI k))]) hx hb dX7_stampAll_61 hl (k := 0) rfl (by decide) (by decide) rfl (fun ls hl => ?_)
                  refine lv_goto (tgt := 19) hx hb dX7_stampAll_64 (by decide) ?_
                  refine lv_iload_n hx hb dX7_stampAll_19 rfl (lv_at hl 0 rfl) ?_
                  refine lv_aload_n hx hb dX7_stampAll_20 rfl (lv_at hl 1 rfl) ?_
                  refine gm_13 S hK hI dX7_stampAll_21 ?_
                  refine lv_iload_n hx hb dX7_stampAll_24 rfl (lv_at hl 2 rfl) ?_
                  refine ln_2 (j := k) S hK hI (by omega) dX7_stampAll_25 ?_
                  refine lv_eqi (v := 3) (hR.2.2) ?_
                  refine lv_icmp_ge (tgt := 67) hx hb dX7_stampAll_26 (by decide) (fun c47 => ?_) (fun c47 => ?_)
                  · subst e45
                    subst e44
                    subst e41
                    subst e40
                    subst e37
                    subst e36
                    unfold stampAllF
                    have es : szS σ k = 3 := by unfold szS; rw [ez]; rfl
                    rw [es]
                    rw [eκ]
                    try rw [each_3]
                    try unfold stepF
                    try rw [if_pos hT]
                    try rw [if_neg (show ¬ (3 : Int32) ≤ 0 from by decide)]
                    try rw [if_pos c38]
                    try rw [if_neg (show ¬ (3 : Int32) ≤ 1 from by decide)]
                    try rw [if_pos c42]
                    try rw [if_neg (show ¬ (3 : Int32) ≤ 2 from by decide)]
                    try rw [if_pos c46]
                    try rw [if_pos (show (3 : Int32) ≤ 3 from by decide)]
                    exact tw_vret S hr hlocks hI dX7_stampAll_67
                  · exact absurd c47 (by decide)
                · refine lv_aload_n hx hb dX7_stampAll_46 rfl (lv_at hl 1 rfl) ?_
                  refine lv_aload_n hx hb dX7_stampAll_47 rfl (lv_at hl 1 rfl) ?_
                  refine gm_19 S hK hI dX7_stampAll_48 ?_
                  refine lv_iconst (v := 3) hx hb dX7_stampAll_51 (by decide) ?_
                  refine lv_iload_n hx hb dX7_stampAll_52 rfl (lv_at hl 2 rfl) ?_
                  refine lv_imul hx hb dX7_stampAll_53 ?_
                  refine lv_eqi (v := (nI (3 * k))) (nM (a := 3) (b := k) (c := 3 * k) (by omega)) ?_
                  refine lv_iload_n hx hb dX7_stampAll_54 rfl (lv_at hl 0 rfl) ?_
                  refine lv_iadd hx hb dX7_stampAll_55 ?_
                  refine lv_eqi (v := (nI (3 * k + 2))) (nA (a := 3 * k) (b := 2) (c := 3 * k + 2) (by omega)) ?_
                  refine ln_4 (j := 3 * k + 2) S hK hI (by omega) dX7_stampAll_56 ?_
                  refine lv_topl (fun x48 e48 => ?_)
                  have hj48 : vp_in x48.toInt32 60 := by subst e48; subst e45; subst e44; subst e41; subst e40; subst e37; subst e36; exact cell_in hR hk hz3 hNum (i := 2) (a := 3 * k + 2) (by decide) (by omega) c46
                  refine lv_l2i hx hb dX7_stampAll_57 rfl ?_
                  refine lv_eqi (v := nI (ix x48.toInt32)) (vp_nI hj48 (by decide)) ?_
                  refine tw_callv (tw_rV (As := [.int (nI (ix x48.toInt32))]) (rest := []) S hK hI kX7_142 (c_X7_stampRow l D ad _ _ _ _ (hR.1) (vp_ix hj48)) (t := 1000) (fs := mRoot _) rfl rfl rfl ⟨Nat.le_of_ble_eq_true rfl, Nat.le_of_ble_eq_true rfl⟩ ⟨Nat.le_of_ble_eq_true rfl, Nat.le_of_ble_eq_true rfl⟩ rfl hl.1 rfl (Nat.le_of_ble_eq_true rfl) dX7_stampAll_58) hI (fun H locs hI => ?_)
                  have hR := rowOK_row hR (vp_ix hj48)
                  refine lv_iinc (v := 3) (lv' := [(2, .int 3), (0, .ref (ad 1000)), (1, .int (nI k))]) hx hb dX7_stampAll_61 hl (k := 0) rfl (by decide) (by decide) rfl (fun ls hl => ?_)
                  refine lv_goto (tgt := 19) hx hb dX7_stampAll_64 (by decide) ?_
                  refine lv_iload_n hx hb dX7_stampAll_19 rfl (lv_at hl 0 rfl) ?_
                  refine lv_aload_n hx hb dX7_stampAll_20 rfl (lv_at hl 1 rfl) ?_
                  refine gm_13 S hK hI dX7_stampAll_21 ?_
                  refine lv_iload_n hx hb dX7_stampAll_24 rfl (lv_at hl 2 rfl) ?_
                  refine ln_2 (j := k) S hK hI (by omega) dX7_stampAll_25 ?_
                  refine lv_eqi (v := 3) (hR.2.2) ?_
                  refine lv_icmp_ge (tgt := 67) hx hb dX7_stampAll_26 (by decide) (fun c49 => ?_) (fun c49 => ?_)
                  · subst e48
                    subst e45
                    subst e44
                    subst e41
                    subst e40
                    subst e37
                    subst e36
                    unfold stampAllF
                    have es : szS σ k = 3 := by unfold szS; rw [ez]; rfl
                    rw [es]
                    rw [eκ]
                    try rw [each_3]
                    try unfold stepF
                    try rw [if_pos hT]
                    try rw [if_neg (show ¬ (3 : Int32) ≤ 0 from by decide)]
                    try rw [if_pos c38]
                    try rw [if_neg (show ¬ (3 : Int32) ≤ 1 from by decide)]
                    try rw [if_pos c42]
                    try rw [if_neg (show ¬ (3 : Int32) ≤ 2 from by decide)]
                    try rw [if_neg c46]
                    try rw [if_pos (show (3 : Int32) ≤ 3 from by decide)]
                    exact tw_vret S hr hlocks hI dX7_stampAll_67
                  · exact absurd c49 (by decide)
            · refine lv_aload_n hx hb dX7_stampAll_46 rfl (lv_at hl 1 rfl) ?_
              refine lv_aload_n hx hb dX7_stampAll_47 rfl (lv_at hl 1 rfl) ?_
              refine gm_19 S hK hI dX7_stampAll_48 ?_
              refine lv_iconst (v := 3) hx hb dX7_stampAll_51 (by decide) ?_
              refine lv_iload_n hx hb dX7_stampAll_52 rfl (lv_at hl 2 rfl) ?_
              refine lv_imul hx hb dX7_stampAll_53 ?_
              refine lv_eqi (v := (nI (3 * k))) (nM (a := 3) (b := k) (c := 3 * k) (by omega)) ?_
              refine lv_iload_n hx hb dX7_stampAll_54 rfl (lv_at hl 0 rfl) ?_
              refine lv_iadd hx hb dX7_stampAll_55 ?_
              refine lv_eqi (v := (nI (3 * k + 1))) (nA (a := 3 * k) (b := 1) (c := 3 * k + 1) (by omega)) ?_
              refine ln_4 (j := 3 * k + 1) S hK hI (by omega) dX7_stampAll_56 ?_
              refine lv_topl (fun x50 e50 => ?_)
              have hj50 : vp_in x50.toInt32 60 := by subst e50; subst e41; subst e40; subst e37; subst e36; exact cell_in hR hk hz3 hNum (i := 1) (a := 3 * k + 1) (by decide) (by omega) c42
              refine lv_l2i hx hb dX7_stampAll_57 rfl ?_
              refine lv_eqi (v := nI (ix x50.toInt32)) (vp_nI hj50 (by decide)) ?_
              refine tw_callv (tw_rV (As := [.int (nI (ix x50.toInt32))]) (rest := []) S hK hI kX7_142 (c_X7_stampRow l D ad _ _ _ _ (hR.1) (vp_ix hj50)) (t := 1000) (fs := mRoot _) rfl rfl rfl ⟨Nat.le_of_ble_eq_true rfl, Nat.le_of_ble_eq_true rfl⟩ ⟨Nat.le_of_ble_eq_true rfl, Nat.le_of_ble_eq_true rfl⟩ rfl hl.1 rfl (Nat.le_of_ble_eq_true rfl) dX7_stampAll_58) hI (fun H locs hI => ?_)
              have hR := rowOK_row hR (vp_ix hj50)
              refine lv_iinc (v := 2) (lv' := [(2, .int 2), (0, .ref (ad 1000)), (1, .int (nI k))]) hx hb dX7_stampAll_61 hl (k := 0) rfl (by decide) (by decide) rfl (fun ls hl => ?_)
              refine lv_goto (tgt := 19) hx hb dX7_stampAll_64 (by decide) ?_
              refine lv_iload_n hx hb dX7_stampAll_19 rfl (lv_at hl 0 rfl) ?_
              refine lv_aload_n hx hb dX7_stampAll_20 rfl (lv_at hl 1 rfl) ?_
              refine gm_13 S hK hI dX7_stampAll_21 ?_
              refine lv_iload_n hx hb dX7_stampAll_24 rfl (lv_at hl 2 rfl) ?_
              refine ln_2 (j := k) S hK hI (by omega) dX7_stampAll_25 ?_
              refine lv_eqi (v := 3) (hR.2.2) ?_
              refine lv_icmp_ge (tgt := 67) hx hb dX7_stampAll_26 (by decide) (fun c51 => ?_) (fun c51 => ?_)
              · exact absurd c51 (by decide)
              · refine lv_aload_n hx hb dX7_stampAll_29 rfl (lv_at hl 1 rfl) ?_
                refine gm_19 S hK hI dX7_stampAll_30 ?_
                refine lv_iconst (v := 3) hx hb dX7_stampAll_33 (by decide) ?_
                refine lv_iload_n hx hb dX7_stampAll_34 rfl (lv_at hl 2 rfl) ?_
                refine lv_imul hx hb dX7_stampAll_35 ?_
                refine lv_eqi (v := (nI (3 * k))) (nM (a := 3) (b := k) (c := 3 * k) (by omega)) ?_
                refine lv_iload_n hx hb dX7_stampAll_36 rfl (lv_at hl 0 rfl) ?_
                refine lv_iadd hx hb dX7_stampAll_37 ?_
                refine lv_eqi (v := (nI (3 * k + 2))) (nA (a := 3 * k) (b := 2) (c := 3 * k + 2) (by omega)) ?_
                refine ln_4 (j := 3 * k + 2) S hK hI (by omega) dX7_stampAll_38 ?_
                refine lv_topl (fun x52 e52 => ?_)
                refine lv_ldc2 (own := RX7) (v := (-1)) hx hb S.2.2.2.1 (S.2.2.2.2 _ (tw_mem (by decide +kernel) rfl)) dX7_stampAll_39 ?_
                refine W.lcmp hx hb dX7_stampAll_42 ?_
                refine lv_topi (fun x53 e53 => ?_)
                refine lv_if_eq (tgt := 61) hx hb dX7_stampAll_43 (by decide) (fun c54 => ?_) (fun c54 => ?_)
                · refine lv_iinc (v := 3) (lv' := [(2, .int 3), (0, .ref (ad 1000)), (1, .int (nI k))]) hx hb dX7_stampAll_61 hl (k := 0) rfl (by decide) (by decide) rfl (fun ls hl => ?_)
                  refine lv_goto (tgt := 19) hx hb dX7_stampAll_64 (by decide) ?_
                  refine lv_iload_n hx hb dX7_stampAll_19 rfl (lv_at hl 0 rfl) ?_
                  refine lv_aload_n hx hb dX7_stampAll_20 rfl (lv_at hl 1 rfl) ?_
                  refine gm_13 S hK hI dX7_stampAll_21 ?_
                  refine lv_iload_n hx hb dX7_stampAll_24 rfl (lv_at hl 2 rfl) ?_
                  refine ln_2 (j := k) S hK hI (by omega) dX7_stampAll_25 ?_
                  refine lv_eqi (v := 3) (hR.2.2) ?_
                  refine lv_icmp_ge (tgt := 67) hx hb dX7_stampAll_26 (by decide) (fun c55 => ?_) (fun c55 => ?_)
                  · subst e53
                    subst e52
                    subst e50
                    subst e41
                    subst e40
                    subst e37
                    subst e36
                    unfold stampAllF
                    have es : szS σ k = 3 := by unfold szS; rw [ez]; rfl
                    rw [es]
                    rw [eκ]
                    try rw [each_3]
                    try unfold stepF
                    try rw [if_pos hT]
                    try rw [if_neg (show ¬ (3 : Int32) ≤ 0 from by decide)]
                    try rw [if_pos c38]
                    try rw [if_neg (show ¬ (3 : Int32) ≤ 1 from by decide)]
                    try rw [if_neg c42]
                    try rw [if_neg (show ¬ (3 : Int32) ≤ 2 from by decide)]
                    try rw [if_pos c54]
                    try rw [if_pos (show (3 : Int32) ≤ 3 from by decide)]
                    exact tw_vret S hr hlocks hI dX7_stampAll_67
                  · exact absurd c55 (by decide)
                · refine lv_aload_n hx hb dX7_stampAll_46 rfl (lv_at hl 1 rfl) ?_
                  refine lv_aload_n hx hb dX7_stampAll_47 rfl (lv_at hl 1 rfl) ?_
                  refine gm_19 S hK hI dX7_stampAll_48 ?_
                  refine lv_iconst (v := 3) hx hb dX7_stampAll_51 (by decide) ?_
                  refine lv_iload_n hx hb dX7_stampAll_52 rfl (lv_at hl 2 rfl) ?_
                  refine lv_imul hx hb dX7_stampAll_53 ?_
                  refine lv_eqi (v := (nI (3 * k))) (nM (a := 3) (b := k) (c := 3 * k) (by omega)) ?_
                  refine lv_iload_n hx hb dX7_stampAll_54 rfl (lv_at hl 0 rfl) ?_
                  refine lv_iadd hx hb dX7_stampAll_55 ?_
                  refine lv_eqi (v := (nI (3 * k + 2))) (nA (a := 3 * k) (b := 2) (c := 3 * k + 2) (by omega)) ?_
                  refine ln_4 (j := 3 * k + 2) S hK hI (by omega) dX7_stampAll_56 ?_
                  refine lv_topl (fun x56 e56 => ?_)
                  have hj56 : vp_in x56.toInt32 60 := by subst e56; subst e53; subst e52; subst e50; subst e41; subst e40; subst e37; subst e36; exact cell_in hR hk hz3 hNum (i := 2) (a := 3 * k + 2) (by decide) (by omega) c54
                  refine lv_l2i hx hb dX7_stampAll_57 rfl ?_
                  refine lv_eqi (v := nI (ix x56.toInt32)) (vp_nI hj56 (by decide)) ?_
                  refine tw_callv (tw_rV (As := [.int (nI (ix x56.toInt32))]) (rest := []) S hK hI kX7_142 (c_X7_stampRow l D ad _ _ _ _ (hR.1) (vp_ix hj56)) (t := 1000) (fs := mRoot _) rfl rfl rfl ⟨Nat.le_of_ble_eq_true rfl, Nat.le_of_ble_eq_true rfl⟩ ⟨Nat.le_of_ble_eq_true rfl, Nat.le_of_ble_eq_true rfl⟩ rfl hl.1 rfl (Nat.le_of_ble_eq_true rfl) dX7_stampAll_58) hI (fun H locs hI => ?_)
                  have hR := rowOK_row hR (vp_ix hj56)
                  refine lv_iinc (v := 3) (lv' := [(2, .int 3), (0, .ref (ad 1000)), (1, .int (nI k))]) hx hb dX7_stampAll_61 hl (k := 0) rfl (by decide) (by decide) rfl (fun ls hl => ?_)
                  refine lv_goto (tgt := 19) hx hb dX7_stampAll_64 (by decide) ?_
                  refine lv_iload_n hx hb dX7_stampAll_19 rfl (lv_at hl 0 rfl) ?_
                  refine lv_aload_n hx hb dX7_stampAll_20 rfl (lv_at hl 1 rfl) ?_
                  refine gm_13 S hK hI dX7_stampAll_21 ?_
                  refine lv_iload_n hx hb dX7_stampAll_24 rfl (lv_at hl 2 rfl) ?_
                  refine ln_2 (j := k) S hK hI (by omega) dX7_stampAll_25 ?_
                  refine lv_eqi (v := 3) (hR.2.2) ?_
                  refine lv_icmp_ge (tgt := 67) hx hb dX7_stampAll_26 (by decide) (fun c57 => ?_) (fun c57 => ?_)
                  · subst e56
                    subst e53
                    subst e52
                    subst e50
                    subst e41
                    subst e40
                    subst e37
                    subst e36
                    unfold stampAllF
                    have es : szS σ k = 3 := by unfold szS; rw [ez]; rfl
                    rw [es]
                    rw [eκ]
                    try rw [each_3]
                    try unfold stepF
                    try rw [if_pos hT]
                    try rw [if_neg (show ¬ (3 : Int32) ≤ 0 from by decide)]
                    try rw [if_pos c38]
                    try rw [if_neg (show ¬ (3 : Int32) ≤ 1 from by decide)]
                    try rw [if_neg c42]
                    try rw [if_neg (show ¬ (3 : Int32) ≤ 2 from by decide)]
                    try rw [if_neg c54]
                    try rw [if_pos (show (3 : Int32) ≤ 3 from by decide)]
                    exact tw_vret S hr hlocks hI dX7_stampAll_67
                  · exact absurd c57 (by decide)
        · refine lv_aload_n hx hb dX7_stampAll_46 rfl (lv_at hl 1 rfl) ?_
          refine lv_aload_n hx hb dX7_stampAll_47 rfl (lv_at hl 1 rfl) ?_
          refine gm_19 S hK hI dX7_stampAll_48 ?_
          refine lv_iconst (v := 3) hx hb dX7_stampAll_51 (by decide) ?_
          refine lv_iload_n hx hb dX7_stampAll_52 rfl (lv_at hl 2 rfl) ?_
          refine lv_imul hx hb dX7_stampAll_53 ?_
          refine lv_eqi (v := (nI (3 * k))) (nM (a := 3) (b := k) (c := 3 * k) (by omega)) ?_
          refine lv_iload_n hx hb dX7_stampAll_54 rfl (lv_at hl 0 rfl) ?_
          refine lv_iadd hx hb dX7_stampAll_55 ?_
          refine lv_eqi (v := (nI (3 * k))) (nA (a := 3 * k) (b := 0) (c := 3 * k) (by omega)) ?_
          refine ln_4 (j := 3 * k) S hK hI (by omega) dX7_stampAll_56 ?_
          refine lv_topl (fun x58 e58 => ?_)
          have hj58 : vp_in x58.toInt32 60 := by subst e58; subst e37; subst e36; exact cell_in hR hk hz3 hNum (i := 0) (a := 3 * k) (by decide) (by omega) c38
          refine lv_l2i hx hb dX7_stampAll_57 rfl ?_
          refine lv_eqi (v := nI (ix x58.toInt32)) (vp_nI hj58 (by decide)) ?_
          refine tw_callv (tw_rV (As := [.int (nI (ix x58.toInt32))]) (rest := []) S hK hI kX7_142 (c_X7_stampRow l D ad _ _ _ _ (hR.1) (vp_ix hj58)) (t := 1000) (fs := mRoot _) rfl rfl rfl ⟨Nat.le_of_ble_eq_true rfl, Nat.le_of_ble_eq_true rfl⟩ ⟨Nat.le_of_ble_eq_true rfl, Nat.le_of_ble_eq_true rfl⟩ rfl hl.1 rfl (Nat.le_of_ble_eq_true rfl) dX7_stampAll_58) hI (fun H locs hI => ?_)
          have hR := rowOK_row hR (vp_ix hj58)
          refine lv_iinc (v := 1) (lv' := [(2, .int 1), (0, .ref (ad 1000)), (1, .int (nI k))]) hx hb dX7_stampAll_61 hl (k := 0) rfl (by decide) (by decide) rfl (fun ls hl => ?_)
          refine lv_goto (tgt := 19) hx hb dX7_stampAll_64 (by decide) ?_
          refine lv_iload_n hx hb dX7_stampAll_19 rfl (lv_at hl 0 rfl) ?_
          refine lv_aload_n hx hb dX7_stampAll_20 rfl (lv_at hl 1 rfl) ?_
          refine gm_13 S hK hI dX7_stampAll_21 ?_
          refine lv_iload_n hx hb dX7_stampAll_24 rfl (lv_at hl 2 rfl) ?_
          refine ln_2 (j := k) S hK hI (by omega) dX7_stampAll_25 ?_
          refine lv_eqi (v := 3) (hR.2.2) ?_
          refine lv_icmp_ge (tgt := 67) hx hb dX7_stampAll_26 (by decide) (fun c59 => ?_) (fun c59 => ?_)
          · exact absurd c59 (by decide)
          · refine lv_aload_n hx hb dX7_stampAll_29 rfl (lv_at hl 1 rfl) ?_
            refine gm_19 S hK hI dX7_stampAll_30 ?_
            refine lv_iconst (v := 3) hx hb dX7_stampAll_33 (by decide) ?_
            refine lv_iload_n hx hb dX7_stampAll_34 rfl (lv_at hl 2 rfl) ?_
            refine lv_imul hx hb dX7_stampAll_35 ?_
            refine lv_eqi (v := (nI (3 * k))) (nM (a := 3) (b := k) (c := 3 * k) (by omega)) ?_
            refine lv_iload_n hx hb dX7_stampAll_36 rfl (lv_at hl 0 rfl) ?_
            refine lv_iadd hx hb dX7_stampAll_37 ?_
            refine lv_eqi (v := (nI (3 * k + 1))) (nA (a := 3 * k) (b := 1) (c := 3 * k + 1) (by omega)) ?_
            refine ln_4 (j := 3 * k + 1) S hK hI (by omega) dX7_stampAll_38 ?_
            refine lv_topl (fun x60 e60 => ?_)
            refine lv_ldc2 (own := RX7) (v := (-1)) hx hb S.2.2.2.1 (S.2.2.2.2 _ (tw_mem (by decide +kernel) rfl)) dX7_stampAll_39 ?_
            refine W.lcmp hx hb dX7_stampAll_42 ?_
            refine lv_topi (fun x61 e61 => ?_)
            refine lv_if_eq (tgt := 61) hx hb dX7_stampAll_43 (by decide) (fun c62 => ?_) (fun c62 => ?_)
            · refine lv_iinc (v := 2) (lv' := [(2, .int 2), (0, .ref (ad 1000)), (1, .int (nI k))]) hx hb dX7_stampAll_61 hl (k := 0) rfl (by decide) (by decide) rfl (fun ls hl => ?_)
              refine lv_goto (tgt := 19) hx hb dX7_stampAll_64 (by decide) ?_
              refine lv_iload_n hx hb dX7_stampAll_19 rfl (lv_at hl 0 rfl) ?_
              refine lv_aload_n hx hb dX7_stampAll_20 rfl (lv_at hl 1 rfl) ?_
              refine gm_13 S hK hI dX7_stampAll_21 ?_
              refine lv_iload_n hx hb dX7_stampAll_24 rfl (lv_at hl 2 rfl) ?_
              refine ln_2 (j := k) S hK hI (by omega) dX7_stampAll_25 ?_
              refine lv_eqi (v := 3) (hR.2.2) ?_
              refine lv_icmp_ge (tgt := 67) hx hb dX7_stampAll_26 (by decide) (fun c63 => ?_) (fun c63 => ?_)
              · exact absurd c63 (by decide)
              · refine lv_aload_n hx hb dX7_stampAll_29 rfl (lv_at hl 1 rfl) ?_
                refine gm_19 S hK hI dX7_stampAll_30 ?_
                refine lv_iconst (v := 3) hx hb dX7_stampAll_33 (by decide) ?_
                refine lv_iload_n hx hb dX7_stampAll_34 rfl (lv_at hl 2 rfl) ?_
                refine lv_imul hx hb dX7_stampAll_35 ?_
                refine lv_eqi (v := (nI (3 * k))) (nM (a := 3) (b := k) (c := 3 * k) (by omega)) ?_
                refine lv_iload_n hx hb dX7_stampAll_36 rfl (lv_at hl 0 rfl) ?_
                refine lv_iadd hx hb dX7_stampAll_37 ?_
                refine lv_eqi (v := (nI (3 * k + 2))) (nA (a := 3 * k) (b := 2) (c := 3 * k + 2) (by omega)) ?_
                refine ln_4 (j := 3 * k + 2) S hK hI (by omega) dX7_stampAll_38 ?_
                refine lv_topl (fun x64 e64 => ?_)
                refine lv_ldc2 (own := RX7) (v := (-1)) hx hb S.2.2.2.1 (S.2.2.2.2 _ (tw_mem (by decide +kernel) rfl)) dX7_stampAll_39 ?_
                refine W.lcmp hx hb dX7_stampAll_42 ?_
                refine lv_topi (fun x65 e65 => ?_)
                refine lv_if_eq (tgt := 61) hx hb dX7_stampAll_43 (by decide) (fun c66 => ?_) (fun c66 => ?_)
                · refine lv_iinc (v := 3) (lv' := [(2, .int 3), (0, .ref (ad 1000)), (1, .int (nI k))]) hx hb dX7_stampAll_61 hl (k := 0) rfl (by decide) (by decide) rfl (fun ls hl => ?_)
                  refine lv_goto (tgt := 19) hx hb dX7_stampAll_64 (by decide) ?_
                  refine lv_iload_n hx hb dX7_stampAll_19 rfl (lv_at hl 0 rfl) ?_
                  refine lv_aload_n hx hb dX7_stampAll_20 rfl (lv_at hl 1 rfl) ?_
                  refine gm_13 S hK hI dX7_stampAll_21 ?_
                  refine lv_iload_n hx hb dX7_stampAll_24 rfl (lv_at hl 2 rfl) ?_
                  refine ln_2 (j := k) S hK hI (by omega) dX7_stampAll_25 ?_
                  refine lv_eqi (v := 3) (hR.2.2) ?_
                  refine lv_icmp_ge (tgt := 67) hx hb dX7_stampAll_26 (by decide) (fun c67 => ?_) (fun c67 => ?_)
                  · subst e65
                    subst e64
                    subst e61
                    subst e60
                    subst e58
                    subst e37
                    subst e36
                    unfold stampAllF
                    have es : szS σ k = 3 := by unfold szS; rw [ez]; rfl
                    rw [es]
                    rw [eκ]
                    try rw [each_3]
                    try unfold stepF
                    try rw [if_pos hT]
                    try rw [if_neg (show ¬ (3 : Int32) ≤ 0 from by decide)]
                    try rw [if_neg c38]
                    try rw [if_neg (show ¬ (3 : Int32) ≤ 1 from by decide)]
                    try rw [if_pos c62]
                    try rw [if_neg (show ¬ (3 : Int32) ≤ 2 from by decide)]
                    try rw [if_pos c66]
                    try rw [if_pos (show (3 : Int32) ≤ 3 from by decide)]
                    exact tw_vret S hr hlocks hI dX7_stampAll_67
                  · exact absurd c67 (by decide)
                · refine lv_aload_n hx hb dX7_stampAll_46 rfl (lv_at hl 1 rfl) ?_
                  refine lv_aload_n hx hb dX7_stampAll_47 rfl (lv_at hl 1 rfl) ?_
                  refine gm_19 S hK hI dX7_stampAll_48 ?_
                  refine lv_iconst (v := 3) hx hb dX7_stampAll_51 (by decide) ?_
                  refine lv_iload_n hx hb dX7_stampAll_52 rfl (lv_at hl 2 rfl) ?_
                  refine lv_imul hx hb dX7_stampAll_53 ?_
                  refine lv_eqi (v := (nI (3 * k))) (nM (a := 3) (b := k) (c := 3 * k) (by omega)) ?_
                  refine lv_iload_n hx hb dX7_stampAll_54 rfl (lv_at hl 0 rfl) ?_
                  refine lv_iadd hx hb dX7_stampAll_55 ?_
                  refine lv_eqi (v := (nI (3 * k + 2))) (nA (a := 3 * k) (b := 2) (c := 3 * k + 2) (by omega)) ?_
                  refine ln_4 (j := 3 * k + 2) S hK hI (by omega) dX7_stampAll_56 ?_
                  refine lv_topl (fun x68 e68 => ?_)
                  have hj68 : vp_in x68.toInt32 60 := by subst e68; subst e65; subst e64; subst e61; subst e60; subst e58; subst e37; subst e36; exact cell_in hR hk hz3 hNum (i := 2) (a := 3 * k + 2) (by decide) (by omega) c66
                  refine lv_l2i hx hb dX7_stampAll_57 rfl ?_
                  refine lv_eqi (v := nI (ix x68.toInt32)) (vp_nI hj68 (by decide)) ?_
                  refine tw_callv (tw_rV (As := [.int (nI (ix x68.toInt32))]) (rest := []) S hK hI kX7_142 (c_X7_stampRow l D ad _ _ _ _ (hR.1) (vp_ix hj68)) (t := 1000) (fs := mRoot _) rfl rfl rfl ⟨Nat.le_of_ble_eq_true rfl, Nat.le_of_ble_eq_true rfl⟩ ⟨Nat.le_of_ble_eq_true rfl, Nat.le_of_ble_eq_true rfl⟩ rfl hl.1 rfl (Nat.le_of_ble_eq_true rfl) dX7_stampAll_58) hI (fun H locs hI => ?_)
                  have hR := rowOK_row hR (vp_ix hj68)
                  refine lv_iinc (v := 3) (lv' := [(2, .int 3), (0, .ref (ad 1000)), (1, .int (nI k))]) hx hb dX7_stampAll_61 hl (k := 0) rfl (by decide) (by decide) rfl (fun ls hl => ?_)
                  refine lv_goto (tgt := 19) hx hb dX7_stampAll_64 (by decide) ?_
                  refine lv_iload_n hx hb dX7_stampAll_19 rfl (lv_at hl 0 rfl) ?_
                  refine lv_aload_n hx hb dX7_stampAll_20 rfl (lv_at hl 1 rfl) ?_
                  refine gm_13 S hK hI dX7_stampAll_21 ?_
                  refine lv_iload_n hx hb dX7_stampAll_24 rfl (lv_at hl 2 rfl) ?_
                  refine ln_2 (j := k) S hK hI (by omega) dX7_stampAll_25 ?_
                  refine lv_eqi (v := 3) (hR.2.2) ?_
                  refine lv_icmp_ge (tgt := 67) hx hb dX7_stampAll_26 (by decide) (fun c69 => ?_) (fun c69 => ?_)
                  · subst e68
                    subst e65
                    subst e64
                    subst e61
                    subst e60
                    subst e58
                    subst e37
                    subst e36
                    unfold stampAllF
                    have es : szS σ k = 3 := by unfold szS; rw [ez]; rfl
                    rw [es]
                    rw [eκ]
                    try rw [each_3]
                    try unfold stepF
                    try rw [if_pos hT]
                    try rw [if_neg (show ¬ (3 : Int32) ≤ 0 from by decide)]
                    try rw [if_neg c38]
                    try rw [if_neg (show ¬ (3 : Int32) ≤ 1 from by decide)]
                    try rw [if_pos c62]
                    try rw [if_neg (show ¬ (3 : Int32) ≤ 2 from by decide)]
                    try rw [if_neg c66]
                    try rw [if_pos (show (3 : Int32) ≤ 3 from by decide)]
                    exact tw_vret S hr hlocks hI dX7_stampAll_67
                  · exact absurd c69 (by decide)
            · refine lv_aload_n hx hb dX7_stampAll_46 rfl (lv_at hl 1 rfl) ?_
              refine lv_aload_n hx hb dX7_stampAll_47 rfl (lv_at hl 1 rfl) ?_
              refine gm_19 S hK hI dX7_stampAll_48 ?_
              refine lv_iconst (v := 3) hx hb dX7_stampAll_51 (by decide) ?_
              refine lv_iload_n hx hb dX7_stampAll_52 rfl (lv_at hl 2 rfl) ?_
              refine lv_imul hx hb dX7_stampAll_53 ?_
              refine lv_eqi (v := (nI (3 * k))) (nM (a := 3) (b := k) (c := 3 * k) (by omega)) ?_
              refine lv_iload_n hx hb dX7_stampAll_54 rfl (lv_at hl 0 rfl) ?_
              refine lv_iadd hx hb dX7_stampAll_55 ?_
              refine lv_eqi (v := (nI (3 * k + 1))) (nA (a := 3 * k) (b := 1) (c := 3 * k + 1) (by omega)) ?_
              refine ln_4 (j := 3 * k + 1) S hK hI (by omega) dX7_stampAll_56 ?_
              refine lv_topl (fun x70 e70 => ?_)
              have hj70 : vp_in x70.toInt32 60 := by subst e70; subst e61; subst e60; subst e58; subst e37; subst e36; exact cell_in hR hk hz3 hNum (i := 1) (a := 3 * k + 1) (by decide) (by omega) c62
              refine lv_l2i hx hb dX7_stampAll_57 rfl ?_
              refine lv_eqi (v := nI (ix x70.toInt32)) (vp_nI hj70 (by decide)) ?_
              refine tw_callv (tw_rV (As := [.int (nI (ix x70.toInt32))]) (rest := []) S hK hI kX7_142 (c_X7_stampRow l D ad _ _ _ _ (hR.1) (vp_ix hj70)) (t := 1000) (fs := mRoot _) rfl rfl rfl ⟨Nat.le_of_ble_eq_true rfl, Nat.le_of_ble_eq_true rfl⟩ ⟨Nat.le_of_ble_eq_true rfl, Nat.le_of_ble_eq_true rfl⟩ rfl hl.1 rfl (Nat.le_of_ble_eq_true rfl) dX7_stampAll_58) hI (fun H locs hI => ?_)
              have hR := rowOK_row hR (vp_ix hj70)
              refine lv_iinc (v := 2) (lv' := [(2, .int 2), (0, .ref (ad 1000)), (1, .int (nI k))]) hx hb dX7_stampAll_61 hl (k := 0) rfl (by decide) (by decide) rfl (fun ls hl => ?_)
              refine lv_goto (tgt := 19) hx hb dX7_stampAll_64 (by decide) ?_
              refine lv_iload_n hx hb dX7_stampAll_19 rfl (lv_at hl 0 rfl) ?_
              refine lv_aload_n hx hb dX7_stampAll_20 rfl (lv_at hl 1 rfl) ?_
              refine gm_13 S hK hI dX7_stampAll_21 ?_
              refine lv_iload_n hx hb dX7_stampAll_24 rfl (lv_at hl 2 rfl) ?_
              refine ln_2 (j := k) S hK hI (by omega) dX7_stampAll_25 ?_
              refine lv_eqi (v := 3) (hR.2.2) ?_
              refine lv_icmp_ge (tgt := 67) hx hb dX7_stampAll_26 (by decide) (fun c71 => ?_) (fun c71 => ?_)
              · exact absurd c71 (by decide)
              · refine lv_aload_n hx hb dX7_stampAll_29 rfl (lv_at hl 1 rfl) ?_
                refine gm_19 S hK hI dX7_stampAll_30 ?_
                refine lv_iconst (v := 3) hx hb dX7_stampAll_33 (by decide) ?_
                refine lv_iload_n hx hb dX7_stampAll_34 rfl (lv_at hl 2 rfl) ?_
                refine lv_imul hx hb dX7_stampAll_35 ?_
                refine lv_eqi (v := (nI (3 * k))) (nM (a := 3) (b := k) (c := 3 * k) (by omega)) ?_
                refine lv_iload_n hx hb dX7_stampAll_36 rfl (lv_at hl 0 rfl) ?_
                refine lv_iadd hx hb dX7_stampAll_37 ?_
                refine lv_eqi (v := (nI (3 * k + 2))) (nA (a := 3 * k) (b := 2) (c := 3 * k + 2) (by omega)) ?_
                refine ln_4 (j := 3 * k + 2) S hK hI (by omega) dX7_stampAll_38 ?_
                refine lv_topl (fun x72 e72 => ?_)
                refine lv_ldc2 (own := RX7) (v := (-1)) hx hb S.2.2.2.1 (S.2.2.2.2 _ (tw_mem (by decide +kernel) rfl)) dX7_stampAll_39 ?_
                refine W.lcmp hx hb dX7_stampAll_42 ?_
                refine lv_topi (fun x73 e73 => ?_)
                refine lv_if_eq (tgt := 61) hx hb dX7_stampAll_43 (by decide) (fun c74 => ?_) (fun c74 => ?_)
                · refine lv_iinc (v := 3) (lv' := [(2, .int 3), (0, .ref (ad 1000)), (1, .int (nI k))]) hx hb dX7_stampAll_61 hl (k := 0) rfl (by decide) (by decide) rfl (fun ls hl => ?_)
                  refine lv_goto (tgt := 19) hx hb dX7_stampAll_64 (by decide) ?_
                  refine lv_iload_n hx hb dX7_stampAll_19 rfl (lv_at hl 0 rfl) ?_
                  refine lv_aload_n hx hb dX7_stampAll_20 rfl (lv_at hl 1 rfl) ?_
                  refine gm_13 S hK hI dX7_stampAll_21 ?_
                  refine lv_iload_n hx hb dX7_stampAll_24 rfl (lv_at hl 2 rfl) ?_
                  refine ln_2 (j := k) S hK hI (by omega) dX7_stampAll_25 ?_
                  refine lv_eqi (v := 3) (hR.2.2) ?_
                  refine lv_icmp_ge (tgt := 67) hx hb dX7_stampAll_26 (by decide) (fun c75 => ?_) (fun c75 => ?_)
                  · subst e73
                    subst e72
                    subst e70
                    subst e61
                    subst e60
                    subst e58
                    subst e37
                    subst e36
                    unfold stampAllF
                    have es : szS σ k = 3 := by unfold szS; rw [ez]; rfl
                    rw [es]
                    rw [eκ]
                    try rw [each_3]
                    try unfold stepF
                    try rw [if_pos hT]
                    try rw [if_neg (show ¬ (3 : Int32) ≤ 0 from by decide)]
                    try rw [if_neg c38]
                    try rw [if_neg (show ¬ (3 : Int32) ≤ 1 from by decide)]
                    try rw [if_neg c62]
                    try rw [if_neg (show ¬ (3 : Int32) ≤ 2 from by decide)]
                    try rw [if_pos c74]
                    try rw [if_pos (show (3 : Int32) ≤ 3 from by decide)]
                    exact tw_vret S hr hlocks hI dX7_stampAll_67
                  · exact absurd c75 (by decide)
                · refine lv_aload_n hx hb dX7_stampAll_46 rfl (lv_at hl 1 rfl) ?_
                  refine lv_aload_n hx hb dX7_stampAll_47 rfl (lv_at hl 1 rfl) ?_
                  refine gm_19 S hK hI dX7_stampAll_48 ?_
                  refine lv_iconst (v := 3) hx hb dX7_stampAll_51 (by decide) ?_
                  refine lv_iload_n hx hb dX7_stampAll_52 rfl (lv_at hl 2 rfl) ?_
                  refine lv_imul hx hb dX7_stampAll_53 ?_
                  refine lv_eqi (v := (nI (3 * k))) (nM (a := 3) (b := k) (c := 3 * k) (by omega)) ?_
                  refine lv_iload_n hx hb dX7_stampAll_54 rfl (lv_at hl 0 rfl) ?_
                  refine lv_iadd hx hb dX7_stampAll_55 ?_
                  refine lv_eqi (v := (nI (3 * k + 2))) (nA (a := 3 * k) (b := 2) (c := 3 * k + 2) (by omega)) ?_
                  refine ln_4 (j := 3 * k + 2) S hK hI (by omega) dX7_stampAll_56 ?_
                  refine lv_topl (fun x76 e76 => ?_)
                  have hj76 : vp_in x76.toInt32 60 := by subst e76; subst e73; subst e72; subst e70; subst e61; subst e60; subst e58; subst e37; subst e36; exact cell_in hR hk hz3 hNum (i := 2) (a := 3 * k + 2) (by decide) (by omega) c74
                  refine lv_l2i hx hb dX7_stampAll_57 rfl ?_
                  refine lv_eqi (v := nI (ix x76.toInt32)) (vp_nI hj76 (by decide)) ?_
                  refine tw_callv (tw_rV (As := [.int (nI (ix x76.toInt32))]) (rest := []) S hK hI kX7_142 (c_X7_stampRow l D ad _ _ _ _ (hR.1) (vp_ix hj76)) (t := 1000) (fs := mRoot _) rfl rfl rfl ⟨Nat.le_of_ble_eq_true rfl, Nat.le_of_ble_eq_true rfl⟩ ⟨Nat.le_of_ble_eq_true rfl, Nat.le_of_ble_eq_true rfl⟩ rfl hl.1 rfl (Nat.le_of_ble_eq_true rfl) dX7_stampAll_58) hI (fun H locs hI => ?_)
                  have hR := rowOK_row hR (vp_ix hj76)
                  refine lv_iinc (v := 3) (lv' := [(2, .int 3), (0, .ref (ad 1000)), (1, .int (nI k))]) hx hb dX7_stampAll_61 hl (k := 0) rfl (by decide) (by decide) rfl (fun ls hl => ?_)
                  refine lv_goto (tgt := 19) hx hb dX7_stampAll_64 (by decide) ?_
                  refine lv_iload_n hx hb dX7_stampAll_19 rfl (lv_at hl 0 rfl) ?_
                  refine lv_aload_n hx hb dX7_stampAll_20 rfl (lv_at hl 1 rfl) ?_
                  refine gm_13 S hK hI dX7_stampAll_21 ?_
                  refine lv_iload_n hx hb dX7_stampAll_24 rfl (lv_at hl 2 rfl) ?_
                  refine ln_2 (j := k) S hK hI (by omega) dX7_stampAll_25 ?_
                  refine lv_eqi (v := 3) (hR.2.2) ?_
                  refine lv_icmp_ge (tgt := 67) hx hb dX7_stampAll_26 (by decide) (fun c77 => ?_) (fun c77 => ?_)
                  · subst e76
                    subst e73
                    subst e72
                    subst e70
                    subst e61
                    subst e60
                    subst e58
                    subst e37
                    subst e36
                    unfold stampAllF
                    have es : szS σ k = 3 := by unfold szS; rw [ez]; rfl
                    rw [es]
                    rw [eκ]
                    try rw [each_3]
                    try unfold stepF
                    try rw [if_pos hT]
                    try rw [if_neg (show ¬ (3 : Int32) ≤ 0 from by decide)]
                    try rw [if_neg c38]
                    try rw [if_neg (show ¬ (3 : Int32) ≤ 1 from by decide)]
                    try rw [if_neg c62]
                    try rw [if_neg (show ¬ (3 : Int32) ≤ 2 from by decide)]
                    try rw [if_neg c74]
                    try rw [if_pos (show (3 : Int32) ≤ 3 from by decide)]
                    exact tw_vret S hr hlocks hI dX7_stampAll_67
                  · exact absurd c77 (by decide)
    · exact absurd hT c34
  · refine lv_aload_n hx hb dX7_stampAll_0 rfl (lv_at hl 0 rfl) ?_
    refine gm_7 S hK hI dX7_stampAll_1 ?_
    refine lv_iload_n hx hb dX7_stampAll_4 rfl (lv_at hl 1 rfl) ?_
    refine ln_1 (j := k) S hK hI (by omega) dX7_stampAll_5 ?_
    refine lv_eqi (v := κ) (hR.2.1) ?_
    refine lv_bipush (v := 11) hx hb dX7_stampAll_6 (by decide) ?_
    refine lv_icmp_ge (tgt := 17) hx hb dX7_stampAll_8 (by decide) (fun c78 => ?_) (fun c78 => ?_)
    · exact absurd c78 hT
    · refine lv_aload_n hx hb dX7_stampAll_11 rfl (lv_at hl 0 rfl) ?_
      refine lv_iload_n hx hb dX7_stampAll_12 rfl (lv_at hl 1 rfl) ?_
      refine tw_callv (tw_rV (As := [.int (nI k)]) (rest := []) S hK hI kX7_142 (c_X7_stampRow l D ad _ _ _ _ (hR.1) hk) (t := 1000) (fs := mRoot _) rfl rfl rfl ⟨Nat.le_of_ble_eq_true rfl, Nat.le_of_ble_eq_true rfl⟩ ⟨Nat.le_of_ble_eq_true rfl, Nat.le_of_ble_eq_true rfl⟩ rfl hl.1 rfl (Nat.le_of_ble_eq_true rfl) dX7_stampAll_13) hI (fun H locs hI => ?_)
      unfold stampAllF
      have es : szS σ k = 3 := by unfold szS; rw [ez]; rfl
      rw [es]
      rw [eκ]
      try rw [each_3]
      try unfold stepF
      try rw [if_neg hT]
      exact tw_vret S hr hlocks hI dX7_stampAll_16
