/-! the reference: stampRow, stampAll -/
def okC (σ : Sg) : Prop := ∀ k : Nat, k < 60 → isNumF (σ.1 1 k) = 0 → ∀ i : Nat, i < szS σ k → σ.2 (3 * k + i) = -1 ∨ ∃ j : Nat, j < 60 ∧ σ.2 (3 * k + i) = lN j
def okA (σ : Sg) : Prop := okM σ ∧ okC σ
theorem bumpN_I (σ : Sg) (κ : Int32) (k : Nat) : ∀ z : Nat, (bumpN σ κ k z).1 = σ.1
  | 0 => rfl
  | z + 1 => bumpN_I σ κ k z
theorem bumpN_C (σ : Sg) (κ : Int32) (k a : Nat) : ∀ z : Nat, (∀ i : Nat, i < z → a ≠ 3 * k + i) → (bumpN σ κ k z).2 a = σ.2 a
  | 0, _ => rfl
  | z + 1, h => by
    show va_up (bumpN σ κ k z).2 (3 * k + z) _ a = _
    rw [va_up_ne _ _ (h z (by omega))]
    exact bumpN_C σ κ k a z (fun i hi => h i (by omega))
theorem low_I (σ : Sg) (j f : Nat) (hf : f ≠ 3) : (stampLowF σ j).1 f = σ.1 f := by
  unfold stampLowF
  split
  · exact va_up_ne _ _ hf
  · rw [bumpN_I]; exact va_up_ne _ _ hf
theorem szS_le {σ : Sg} (h : okM σ) {k : Nat} (hk : k < 60) : szS σ k ≤ 3 := by
  obtain ⟨z, hz, e⟩ := h.2.1 k hk
  unfold szS
  rw [e, show ix (nI z) = z from nI_clamp (by omega)]
  exact hz
theorem low_C {σ : Sg} (h : okM σ) {j k i : Nat} (hj : j < 60) (hk : isNumF (σ.1 1 k) = 0) (hi : i < 3) : (stampLowF σ j).2 (3 * k + i) = σ.2 (3 * k + i) := by
  unfold stampLowF
  by_cases hN : isNumF (σ.1 1 j) = 0
  · rw [if_pos hN]; rfl
  · rw [if_neg hN, bumpN_C]
    · rfl
    · intro i' hi' e
      have hz := szS_le h hj
      have : j = k := by omega
      subst this
      exact hN hk
theorem okM_of {σ σ' : Sg} (h : okM σ) (h0 : σ'.1 0 = σ.1 0) (h2 : σ'.1 2 = σ.1 2) (h5 : σ'.1 5 = σ.1 5) : okM σ' := by
  unfold okM
  rw [h0, h2, h5]
  exact h
theorem okA_low {σ : Sg} (h : okA σ) {j : Nat} (hj : j < 60) : okA (stampLowF σ j) := by
  refine ⟨okM_of h.1 (low_I σ j 0 (by decide)) (low_I σ j 2 (by decide)) (low_I σ j 5 (by decide)), fun k hk hN i hi => ?_⟩
  rw [low_I σ j 1 (by decide)] at hN
  have hi' : i < szS σ k := by unfold szS at hi ⊢; rw [low_I σ j 2 (by decide)] at hi; exact hi
  rw [low_C h.1 hj hN (Nat.lt_of_lt_of_le hi' (szS_le h.1 hk))]
  exact h.2 k hk hN i hi'
def rowOK (σ : Sg) (k z : Nat) (κ : Int32) : Prop := okA σ ∧ σ.1 1 k = κ ∧ σ.1 2 k = nI z
theorem rowOK_low {σ : Sg} {k z : Nat} {κ : Int32} (h : rowOK σ k z κ) {j : Nat} (hj : j < 60) : rowOK (stampLowF σ j) k z κ :=
  ⟨okA_low h.1 hj, by rw [low_I σ j 1 (by decide)]; exact h.2.1, by rw [low_I σ j 2 (by decide)]; exact h.2.2⟩
theorem lN_32 {j : Nat} : (lN j).toInt32 = nI j := lN_i j
theorem cell_in {σ : Sg} {k z : Nat} {κ : Int32} (h : rowOK σ k z κ) (hk : k < 60) (hz : z ≤ 3) (hN : isNumF κ = 0) {i a : Nat} (hi : i < z) (ha : a = 3 * k + i) (c : ¬ lg_cmp (σ.2 a) (-1) = 0) : vp_in ((σ.2 a).toInt32) 60 := by
  subst ha
  have hi' : i < szS σ k := by unfold szS; rw [h.2.2, show ix (nI z) = z from nI_clamp (by omega)]; exact hi
  rcases h.1.2 k hk (by rw [h.2.1]; exact hN) i hi' with e | ⟨j, hj, e⟩
  · rw [e] at c
    exact absurd (by decide) c
  · rw [e, lN_32]
    exact vp_in_nI hj (by decide)
theorem th_num {κ : Int32} (h : ¬ isThF κ = 0) : isNumF κ = 0 := by
  unfold isThF at h
  unfold isNumF
  by_cases h4 : κ = 4
  · subst h4; decide
  · rw [if_neg h4] at h
    by_cases h8 : κ < 8
    · rw [if_pos h8] at h; exact absurd rfl h
    · rw [if_pos]
      rw [Int32.lt_iff_toInt_lt] at h8 ⊢
      have e8 : (8 : Int32).toInt = 8 := by decide
      have e3 : (3 : Int32).toInt = 3 := by decide
      omega
theorem alb_num {κ : Int32} (h : 11 ≤ κ) : isNumF κ = 0 := by
  unfold isNumF
  rw [if_pos]
  rw [Int32.lt_iff_toInt_lt]
  rw [Int32.le_iff_toInt_le] at h
  have e8 : (11 : Int32).toInt = 11 := by decide
  have e3 : (3 : Int32).toInt = 3 := by decide
  omega
def stepF (f : Sg → Nat → Sg) (σ : Sg) (a : Nat) : Sg := if lg_cmp (σ.2 a) (-1) = 0 then σ else f σ (ix (σ.2 a).toInt32)
def eachF (f : Sg → Nat → Sg) (k : Nat) : Nat → Nat → Sg → Sg
  | 0, _, σ => σ
  | y + 1, i, σ => eachF f k y (i + 1) (stepF f σ (3 * k + i))
def stampRowF (σ : Sg) (k : Nat) : Sg := if isThF (σ.1 1 k) = 0 then stampLowF σ k else eachF stampLowF k (szS σ k) 0 (stampLowF σ k)
def stampAllF (σ : Sg) (k : Nat) : Sg := if 11 ≤ σ.1 1 k then eachF stampRowF k (szS σ k) 0 σ else stampRowF σ k
theorem step_ok {f : Sg → Nat → Sg} (hf : ∀ σ j, okA σ → j < 60 → okA (f σ j)) (h1 : ∀ σ j q, q ≠ 3 → (f σ j).1 q = σ.1 q) {σ : Sg} {k z i : Nat} {κ : Int32} (hk : k < 60) (hz : z ≤ 3) (hN : isNumF κ = 0) (hi : i < z) (h : rowOK σ k z κ) : rowOK (stepF f σ (3 * k + i)) k z κ := by
  unfold stepF
  by_cases c : lg_cmp (σ.2 (3 * k + i)) (-1) = 0
  · rw [if_pos c]; exact h
  · rw [if_neg c]
    have hj := vp_ix (cell_in h hk hz hN hi rfl c)
    exact ⟨hf _ _ h.1 hj, by rw [h1 _ _ 1 (by decide)]; exact h.2.1, by rw [h1 _ _ 2 (by decide)]; exact h.2.2⟩
theorem each_ok {f : Sg → Nat → Sg} (hf : ∀ σ j, okA σ → j < 60 → okA (f σ j)) (h1 : ∀ σ j q, q ≠ 3 → (f σ j).1 q = σ.1 q) {k z : Nat} {κ : Int32} (hk : k < 60) (hz : z ≤ 3) (hN : isNumF κ = 0) : ∀ (y i : Nat) (σ : Sg), i + y ≤ z → rowOK σ k z κ → rowOK (eachF f k y i σ) k z κ
  | 0, _, _, _, h => h
  | y + 1, i, σ, hy, h => each_ok hf h1 hk hz hN y (i + 1) _ (by omega) (step_ok hf h1 hk hz hN (by omega) h)
theorem each_I {f : Sg → Nat → Sg} {q k : Nat} (hf : ∀ σ j, (f σ j).1 q = σ.1 q) : ∀ (y i : Nat) (σ : Sg), (eachF f k y i σ).1 q = σ.1 q
  | 0, _, _ => rfl
  | y + 1, i, σ => by
    show (eachF f k y (i + 1) (stepF f σ (3 * k + i))).1 q = _
    rw [each_I hf y (i + 1)]
    unfold stepF
    split
    · rfl
    · exact hf _ _
theorem row_I (σ : Sg) (j f : Nat) (hf : f ≠ 3) : (stampRowF σ j).1 f = σ.1 f := by
  unfold stampRowF
  split
  · exact low_I σ j f hf
  · rw [each_I (fun σ j => low_I σ j f hf)]; exact low_I σ j f hf
theorem okA_row {σ : Sg} (h : okA σ) {j : Nat} (hj : j < 60) : okA (stampRowF σ j) := by
  unfold stampRowF
  by_cases hT : isThF (σ.1 1 j) = 0
  · rw [if_pos hT]; exact okA_low h hj
  · rw [if_neg hT]
    obtain ⟨z, hz, ez⟩ := h.1.2.1 j hj
    have es : szS σ j = z := by unfold szS; rw [ez]; exact nI_clamp (by omega)
    rw [es]
    exact (each_ok (fun σ j a b => okA_low a b) low_I hj hz (th_num hT) z 0 _ (by omega) (rowOK_low ⟨h, rfl, ez⟩ hj)).1
theorem rowOK_row {σ : Sg} {k z : Nat} {κ : Int32} (h : rowOK σ k z κ) {j : Nat} (hj : j < 60) : rowOK (stampRowF σ j) k z κ :=
  ⟨okA_row h.1 hj, by rw [row_I σ j 1 (by decide)]; exact h.2.1, by rw [row_I σ j 2 (by decide)]; exact h.2.2⟩

set_option maxHeartbeats 2000000 in
set_option maxRecDepth 100000 in
theorem lb_X7_stampRow {p : Program} {l : Launch} {e : Env} {s : State} {m : MethodId} {av : Array Value} {below : List Frame} {meth : Method} {c : Code} {H : Heap} {locs : List Loc} {Z : State → Prop} {ls : Array Slot} {D : tw_G} {A : Nat → Prop} {ad : Nat → Nat} {b : tw_W} {σ : Sg} {k z i : Nat} {κ : Int32} (S : CallFix p m c cX7_stampRow 3 s av tw_ws RX7) (hK : tw_K D s) (hI : tw_I D A ad (wM b σ) s.heap H locs) (hl : lv_has ls 3 [(2, .int (nI i)), (0, .ref (ad 1000)), (1, .int (nI k))]) (hk : k < 60) (hz3 : z ≤ 3) (hNum : isNumF κ = 0) (hT : ¬ isThF κ = 0) (hi : i < z) (hR : rowOK σ k z κ) (kk : ∀ (H1 : Heap) (locs1 : List Loc) (ls1 : Array Slot), tw_I D A ad (wM b (stepF stampLowF σ (3 * k + i))) s.heap H1 locs1 → lv_has ls1 3 [(2, .int (nI (i + 1))), (0, .ref (ad 1000)), (1, .int (nI k))] → W p l e (tw_R 3 0 0) s m av below meth c H1 locs1 0 0 Z (F0 m 7 ls1 [])) : W p l e (tw_R 3 0 0) s m av below meth c H locs 0 0 Z (F0 m 7 ls []) := by
  have hx := S.1
  have hb := S.2.1
  refine lv_iload_n hx hb dX7_stampRow_7 rfl (lv_at hl 0 rfl) ?_
  refine lv_aload_n hx hb dX7_stampRow_8 rfl (lv_at hl 1 rfl) ?_
  refine gm_13 S hK hI dX7_stampRow_9 ?_
  refine lv_iload_n hx hb dX7_stampRow_12 rfl (lv_at hl 2 rfl) ?_
  refine ln_2 (j := k) S hK hI (by omega) dX7_stampRow_13 ?_
  refine lv_eqi (v := (nI z)) (hR.2.2) ?_
  refine lv_icmp_ge (tgt := 67) hx hb dX7_stampRow_14 (by decide) (fun c1 => ?_) (fun c1 => ?_)
  · exact absurd c1 (nI_ge hi (by omega))
  · refine lv_aload_n hx hb dX7_stampRow_17 rfl (lv_at hl 1 rfl) ?_
    refine gm_7 S hK hI dX7_stampRow_18 ?_
    refine lv_iload_n hx hb dX7_stampRow_21 rfl (lv_at hl 2 rfl) ?_
    refine ln_1 (j := k) S hK hI (by omega) dX7_stampRow_22 ?_
    refine lv_eqi (v := κ) (hR.2.1) ?_
    refine tw_calli (tw_rS (As := [.int κ]) (rest := []) S hK hI kX7_97 (c_X7_isOfThings l D ad _ _ _) ⟨Nat.le_of_ble_eq_true rfl, Nat.le_of_ble_eq_true rfl⟩ ⟨Nat.le_of_ble_eq_true rfl, Nat.le_of_ble_eq_true rfl⟩ rfl hl.1 rfl (Nat.le_of_ble_eq_true rfl) dX7_stampRow_23) hI (fun H locs hI => ?_)
    refine lv_topi (fun x2 e2 => ?_)
    refine lv_if_eq (tgt := 67) hx hb dX7_stampRow_26 (by decide) (fun c3 => ?_) (fun c3 => ?_)
    · exact (by subst e2; exact absurd c3 hT)
    · refine lv_aload_n hx hb dX7_stampRow_29 rfl (lv_at hl 1 rfl) ?_
      refine gm_19 S hK hI dX7_stampRow_30 ?_
      refine lv_iconst (v := 3) hx hb dX7_stampRow_33 (by decide) ?_
      refine lv_iload_n hx hb dX7_stampRow_34 rfl (lv_at hl 2 rfl) ?_
      refine lv_imul hx hb dX7_stampRow_35 ?_
      refine lv_eqi (v := (nI (3 * k))) (nM (a := 3) (b := k) (c := 3 * k) (by omega)) ?_
      refine lv_iload_n hx hb dX7_stampRow_36 rfl (lv_at hl 0 rfl) ?_
      refine lv_iadd hx hb dX7_stampRow_37 ?_
      refine lv_eqi (v := (nI (3 * k + i))) (nA (a := 3 * k) (b := i) (c := 3 * k + i) (by omega)) ?_
      refine ln_4 (j := 3 * k + i) S hK hI (by omega) dX7_stampRow_38 ?_
      refine lv_topl (fun x4 e4 => ?_)
      refine lv_ldc2 (own := RX7) (v := (-1)) hx hb S.2.2.2.1 (S.2.2.2.2 _ (tw_mem (by decide +kernel) rfl)) dX7_stampRow_39 ?_
      refine W.lcmp hx hb dX7_stampRow_42 ?_
      refine lv_topi (fun x5 e5 => ?_)
      refine lv_if_eq (tgt := 61) hx hb dX7_stampRow_43 (by decide) (fun c6 => ?_) (fun c6 => ?_)
      · refine lv_iinc (v := nI (i + 1)) (lv' := [(2, .int (nI (i + 1))), (0, .ref (ad 1000)), (1, .int (nI k))]) hx hb dX7_stampRow_61 hl (k := 0) rfl (nA (a := i) (b := 1) (c := i + 1) (by omega)) (by decide) rfl (fun ls hl => ?_)
        refine lv_goto (tgt := 7) hx hb dX7_stampRow_64 (by decide) ?_
        subst e5
        subst e4
        subst e2
        refine kk _ _ _ (by unfold stepF; rw [if_pos c6]; exact hI) hl
      · refine lv_aload_n hx hb dX7_stampRow_46 rfl (lv_at hl 1 rfl) ?_
        refine lv_aload_n hx hb dX7_stampRow_47 rfl (lv_at hl 1 rfl) ?_
        refine gm_19 S hK hI dX7_stampRow_48 ?_
        refine lv_iconst (v := 3) hx hb dX7_stampRow_51 (by decide) ?_
        refine lv_iload_n hx hb dX7_stampRow_52 rfl (lv_at hl 2 rfl) ?_
        refine lv_imul hx hb dX7_stampRow_53 ?_
        refine lv_eqi (v := (nI (3 * k))) (nM (a := 3) (b := k) (c := 3 * k) (by omega)) ?_
        refine lv_iload_n hx hb dX7_stampRow_54 rfl (lv_at hl 0 rfl) ?_
        refine lv_iadd hx hb dX7_stampRow_55 ?_
        refine lv_eqi (v := (nI (3 * k + i))) (nA (a := 3 * k) (b := i) (c := 3 * k + i) (by omega)) ?_
        refine ln_4 (j := 3 * k + i) S hK hI (by omega) dX7_stampRow_56 ?_
        refine lv_topl (fun x7 e7 => ?_)
        have hj7 : vp_in x7.toInt32 60 := by subst e7; subst e5; subst e4; subst e2; exact cell_in hR hk hz3 hNum hi rfl c6
        refine lv_l2i hx hb dX7_stampRow_57 rfl ?_
        refine lv_eqi (v := nI (ix x7.toInt32)) (vp_nI hj7 (by decide)) ?_
        refine tw_callv (tw_rV (As := [.int (nI (ix x7.toInt32))]) (rest := []) S hK hI kX7_138 (c_X7_stampLow l D ad _ _ _ _ (hR.1.1) (vp_ix hj7)) (t := 1000) (fs := mRoot _) rfl rfl rfl ⟨Nat.le_of_ble_eq_true rfl, Nat.le_of_ble_eq_true rfl⟩ ⟨Nat.le_of_ble_eq_true rfl, Nat.le_of_ble_eq_true rfl⟩ rfl hl.1 rfl (Nat.le_of_ble_eq_true rfl) dX7_stampRow_58) hI (fun H locs hI => ?_)
        refine lv_iinc (v := nI (i + 1)) (lv' := [(2, .int (nI (i + 1))), (0, .ref (ad 1000)), (1, .int (nI k))]) hx hb dX7_stampRow_61 hl (k := 0) rfl (nA (a := i) (b := 1) (c := i + 1) (by omega)) (by decide) rfl (fun ls hl => ?_)
        refine lv_goto (tgt := 7) hx hb dX7_stampRow_64 (by decide) ?_
        subst e7
        subst e5
        subst e4
        subst e2
        refine kk _ _ _ (by unfold stepF; rw [if_neg c6]; exact hI) hl

set_option maxRecDepth 100000 in
theorem ll_X7_stampRow {p : Program} {l : Launch} {e : Env} {s : State} {m : MethodId} {av : Array Value} {below : List Frame} {meth : Method} {c : Code} {Z : State → Prop} {D : tw_G} {A : Nat → Prop} {ad : Nat → Nat} {b : tw_W} {k z : Nat} {κ : Int32} (S : CallFix p m c cX7_stampRow 3 s av tw_ws RX7) (hK : tw_K D s) (hk : k < 60) (hz3 : z ≤ 3) (hNum : isNumF κ = 0) (hT : ¬ isThF κ = 0) : ∀ (y i : Nat) (σ : Sg) (H : Heap) (locs : List Loc) (ls : Array Slot), i + y = z → rowOK σ k z κ → tw_I D A ad (wM b σ) s.heap H locs → lv_has ls 3 [(2, .int (nI i)), (0, .ref (ad 1000)), (1, .int (nI k))] → (∀ (H1 : Heap) (locs1 : List Loc) (ls1 : Array Slot), rowOK (eachF stampLowF k y i σ) k z κ → tw_I D A ad (wM b (eachF stampLowF k y i σ)) s.heap H1 locs1 → lv_has ls1 3 [(2, .int (nI z)), (0, .ref (ad 1000)), (1, .int (nI k))] → W p l e (tw_R 3 0 0) s m av below meth c H1 locs1 0 0 Z (F0 m 7 ls1 [])) → W p l e (tw_R 3 0 0) s m av below meth c H locs 0 0 Z (F0 m 7 ls [])
  | 0, i, σ, H, locs, ls, e, hR, hI, hl, kk => by
    have ei : i = z := by omega
    subst ei
    exact kk H locs ls hR hI hl
  | y + 1, i, σ, H, locs, ls, e, hR, hI, hl, kk =>
    lb_X7_stampRow S hK hI hl hk hz3 hNum hT (by omega) hR (fun H1 locs1 ls1 hI1 hl1 => ll_X7_stampRow S hK hk hz3 hNum hT y (i + 1) _ H1 locs1 ls1 (by omega) (step_ok (fun σ j a b => okA_low a b) low_I hk hz3 hNum (by omega) hR) hI1 hl1 kk)
set_option maxHeartbeats 2000000 in
set_option maxRecDepth 100000 in
theorem c_X7_stampRow (l : Launch) (D : tw_G) (ad : Nat → Nat) (b : tw_W) (σ : Sg) (sz : Nat) (k : Nat) (hA : okA σ) (hk : k < 60) : Met l yX7_stampRow (tw_w yX7_stampRow cX7_stampRow 3 none) (tw_R 3 0 0) (tw_Pc D ad (wM b σ) sz [.ref (ad 1000), .int (nI k)]) (tw_Q D ad (wM b (stampRowF σ k)) (tw_A ad (wM b σ) sz) none) 0 0 (tw_A ad (wM b σ) sz) := by
  refine tw_met (by decide) rfl (by simp [lg_sl, Value.category]) (fun p e s m below meth c ls S hK hr hlocks hnm hsz hI hl => ?_)
  have hx := S.1
  have hb := S.2.1
  have hl : lv_has ls 3 [(0, .ref (ad 1000)), (1, .int (nI k))] := hl
  obtain ⟨κ, eκ⟩ : ∃ κ : Int32, σ.1 1 k = κ := ⟨_, rfl⟩
  obtain ⟨z, hz3, ez⟩ := hA.1.2.1 k hk
  have hR : rowOK σ k z κ := ⟨hA, eκ, ez⟩
  have es : szS σ k = z := by unfold szS; rw [ez]; exact nI_clamp (by omega)
  by_cases hT : isThF κ = 0
  · refine lv_aload_n hx hb dX7_stampRow_0 rfl (lv_at hl 0 rfl) ?_
    refine lv_iload_n hx hb dX7_stampRow_1 rfl (lv_at hl 1 rfl) ?_
    refine tw_callv (tw_rV (As := [.int (nI k)]) (rest := []) S hK hI kX7_138 (c_X7_stampLow l D ad _ _ _ _ (hR.1.1) hk) (t := 1000) (fs := mRoot _) rfl rfl rfl ⟨Nat.le_of_ble_eq_true rfl, Nat.le_of_ble_eq_true rfl⟩ ⟨Nat.le_of_ble_eq_true rfl, Nat.le_of_ble_eq_true rfl⟩ rfl hl.1 rfl (Nat.le_of_ble_eq_true rfl) dX7_stampRow_2) hI (fun H locs hI => ?_)
    have hR := rowOK_low hR hk
    refine lv_iconst (v := 0) hx hb dX7_stampRow_5 (by decide) ?_
    refine lv_istore_n (lv' := [(2, .int 0), (0, .ref (ad 1000)), (1, .int (nI k))]) hx hb dX7_stampRow_6 rfl hl (by decide) rfl (fun ls hl => ?_)
    refine lv_iload_n hx hb dX7_stampRow_7 rfl (lv_at hl 0 rfl) ?_
    refine lv_aload_n hx hb dX7_stampRow_8 rfl (lv_at hl 1 rfl) ?_
    refine gm_13 S hK hI dX7_stampRow_9 ?_
    refine lv_iload_n hx hb dX7_stampRow_12 rfl (lv_at hl 2 rfl) ?_
    refine ln_2 (j := k) S hK hI (by omega) dX7_stampRow_13 ?_
    refine lv_eqi (v := (nI z)) (hR.2.2) ?_
    refine lv_icmp_ge (tgt := 67) hx hb dX7_stampRow_14 (by decide) (fun c1 => ?_) (fun c1 => ?_)
    · unfold stampRowF
      rw [eκ]
      try rw [es]
      try rw [if_pos hT]
      try rw [if_pos c1]
      exact tw_vret S hr hlocks hI dX7_stampRow_67
    · refine lv_aload_n hx hb dX7_stampRow_17 rfl (lv_at hl 1 rfl) ?_
      refine gm_7 S hK hI dX7_stampRow_18 ?_
      refine lv_iload_n hx hb dX7_stampRow_21 rfl (lv_at hl 2 rfl) ?_
      refine ln_1 (j := k) S hK hI (by omega) dX7_stampRow_22 ?_
      refine lv_eqi (v := κ) (hR.2.1) ?_
      refine tw_calli (tw_rS (As := [.int κ]) (rest := []) S hK hI kX7_97 (c_X7_isOfThings l D ad _ _ _) ⟨Nat.le_of_ble_eq_true rfl, Nat.le_of_ble_eq_true rfl⟩ ⟨Nat.le_of_ble_eq_true rfl, Nat.le_of_ble_eq_true rfl⟩ rfl hl.1 rfl (Nat.le_of_ble_eq_true rfl) dX7_stampRow_23) hI (fun H locs hI => ?_)
      refine lv_topi (fun x2 e2 => ?_)
      refine lv_if_eq (tgt := 67) hx hb dX7_stampRow_26 (by decide) (fun c3 => ?_) (fun c3 => ?_)
      · subst e2
        unfold stampRowF
        rw [eκ]
        try rw [es]
        try rw [if_pos hT]
        try rw [if_neg c1]
        try rw [if_pos hT]
        exact tw_vret S hr hlocks hI dX7_stampRow_67
      · exact (by subst e2; exact absurd hT c3)
  · have hNum := th_num hT
    refine lv_aload_n hx hb dX7_stampRow_0 rfl (lv_at hl 0 rfl) ?_
    refine lv_iload_n hx hb dX7_stampRow_1 rfl (lv_at hl 1 rfl) ?_
    refine tw_callv (tw_rV (As := [.int (nI k)]) (rest := []) S hK hI kX7_138 (c_X7_stampLow l D ad _ _ _ _ (hR.1.1) hk) (t := 1000) (fs := mRoot _) rfl rfl rfl ⟨Nat.le_of_ble_eq_true rfl, Nat.le_of_ble_eq_true rfl⟩ ⟨Nat.le_of_ble_eq_true rfl, Nat.le_of_ble_eq_true rfl⟩ rfl hl.1 rfl (Nat.le_of_ble_eq_true rfl) dX7_stampRow_2) hI (fun H locs hI => ?_)
    have hR := rowOK_low hR hk
    refine lv_iconst (v := 0) hx hb dX7_stampRow_5 (by decide) ?_
    refine lv_istore_n (lv' := [(2, .int 0), (0, .ref (ad 1000)), (1, .int (nI k))]) hx hb dX7_stampRow_6 rfl hl (by decide) rfl (fun ls hl => ?_)
    refine ll_X7_stampRow S hK hk hz3 hNum hT z 0 _ _ _ _ (by omega) hR hI hl (fun H locs ls hR hI hl => ?_)
    refine lv_iload_n hx hb dX7_stampRow_7 rfl (lv_at hl 0 rfl) ?_
    refine lv_aload_n hx hb dX7_stampRow_8 rfl (lv_at hl 1 rfl) ?_
    refine gm_13 S hK hI dX7_stampRow_9 ?_
    refine lv_iload_n hx hb dX7_stampRow_12 rfl (lv_at hl 2 rfl) ?_
    refine ln_2 (j := k) S hK hI (by omega) dX7_stampRow_13 ?_
    refine lv_eqi (v := (nI z)) (hR.2.2) ?_
    refine lv_icmp_ge (tgt := 67) hx hb dX7_stampRow_14 (by decide) (fun c4 => ?_) (fun c4 => ?_)
    · unfold stampRowF
      rw [eκ]
      try rw [es]
      try rw [if_neg hT]
      exact tw_vret S hr hlocks hI dX7_stampRow_67
    · exact absurd (nI_le (Nat.le_refl z) (by omega)) c4

set_option maxHeartbeats 2000000 in
set_option maxRecDepth 100000 in
theorem lb_X7_stampAll {p : Program} {l : Launch} {e : Env} {s : State} {m : MethodId} {av : Array Value} {below : List Frame} {meth : Method} {c : Code} {H : Heap} {locs : List Loc} {Z : State → Prop} {ls : Array Slot} {D : tw_G} {A : Nat → Prop} {ad : Nat → Nat} {b : tw_W} {σ : Sg} {k z i : Nat} {κ : Int32} (S : CallFix p m c cX7_stampAll 3 s av tw_ws RX7) (hK : tw_K D s) (hI : tw_I D A ad (wM b σ) s.heap H locs) (hl : lv_has ls 3 [(2, .int (nI i)), (0, .ref (ad 1000)), (1, .int (nI k))]) (hk : k < 60) (hz3 : z ≤ 3) (hNum : isNumF κ = 0)  (hi : i < z) (hR : rowOK σ k z κ) (kk : ∀ (H1 : Heap) (locs1 : List Loc) (ls1 : Array Slot), tw_I D A ad (wM b (stepF stampRowF σ (3 * k + i))) s.heap H1 locs1 → lv_has ls1 3 [(2, .int (nI (i + 1))), (0, .ref (ad 1000)), (1, .int (nI k))] → W p l e (tw_R 4 0 0) s m av below meth c H1 locs1 0 0 Z (F0 m 19 ls1 [])) : W p l e (tw_R 4 0 0) s m av below meth c H locs 0 0 Z (F0 m 19 ls []) := by
  have hx := S.1
  have hb := S.2.1
  refine lv_iload_n hx hb dX7_stampAll_19 rfl (lv_at hl 0 rfl) ?_
  refine lv_aload_n hx hb dX7_stampAll_20 rfl (lv_at hl 1 rfl) ?_
  refine gm_13 S hK hI dX7_stampAll_21 ?_
  refine lv_iload_n hx hb dX7_stampAll_24 rfl (lv_at hl 2 rfl) ?_
  refine ln_2 (j := k) S hK hI (by omega) dX7_stampAll_25 ?_
  refine lv_eqi (v := (nI z)) (hR.2.2) ?_
  refine lv_icmp_ge (tgt := 67) hx hb dX7_stampAll_26 (by decide) (fun c1 => ?_) (fun c1 => ?_)
  · exact absurd c1 (nI_ge hi (by omega))
  · refine lv_aload_n hx hb dX7_stampAll_29 rfl (lv_at hl 1 rfl) ?_
    refine gm_19 S hK hI dX7_stampAll_30 ?_
    refine lv_iconst (v := 3) hx hb dX7_stampAll_33 (by decide) ?_
    refine lv_iload_n hx hb dX7_stampAll_34 rfl (lv_at hl 2 rfl) ?_
    refine lv_imul hx hb dX7_stampAll_35 ?_
    refine lv_eqi (v := (nI (3 * k))) (nM (a := 3) (b := k) (c := 3 * k) (by omega)) ?_
    refine lv_iload_n hx hb dX7_stampAll_36 rfl (lv_at hl 0 rfl) ?_
    refine lv_iadd hx hb dX7_stampAll_37 ?_
    refine lv_eqi (v := (nI (3 * k + i))) (nA (a := 3 * k) (b := i) (c := 3 * k + i) (by omega)) ?_
    refine ln_4 (j := 3 * k + i) S hK hI (by omega) dX7_stampAll_38 ?_
    refine lv_topl (fun x2 e2 => ?_)
    refine lv_ldc2 (own := RX7) (v := (-1)) hx hb S.2.2.2.1 (S.2.2.2.2 _ (tw_mem (by decide +kernel) rfl)) dX7_stampAll_39 ?_
    refine W.lcmp hx hb dX7_stampAll_42 ?_
    refine lv_topi (fun x3 e3 => ?_)
    refine lv_if_eq (tgt := 61) hx hb dX7_stampAll_43 (by decide) (fun c4 => ?_) (fun c4 => ?_)
    · refine lv_iinc (v := nI (i + 1)) (lv' := [(2, .int (nI (i + 1))), (0, .ref (ad 1000)), (1, .int (nI k))]) hx hb dX7_stampAll_61 hl (k := 0) rfl (nA (a := i) (b := 1) (c := i + 1) (by omega)) (by decide) rfl (fun ls hl => ?_)
      refine lv_goto (tgt := 19) hx hb dX7_stampAll_64 (by decide) ?_
      subst e3
      subst e2
      refine kk _ _ _ (by unfold stepF; rw [if_pos c4]; exact hI) hl
    · refine lv_aload_n hx hb dX7_stampAll_46 rfl (lv_at hl 1 rfl) ?_
      refine lv_aload_n hx hb dX7_stampAll_47 rfl (lv_at hl 1 rfl) ?_
      refine gm_19 S hK hI dX7_stampAll_48 ?_
      refine lv_iconst (v := 3) hx hb dX7_stampAll_51 (by decide) ?_
      refine lv_iload_n hx hb dX7_stampAll_52 rfl (lv_at hl 2 rfl) ?_
      refine lv_imul hx hb dX7_stampAll_53 ?_
      refine lv_eqi (v := (nI (3 * k))) (nM (a := 3) (b := k) (c := 3 * k) (by omega)) ?_
      refine lv_iload_n hx hb dX7_stampAll_54 rfl (lv_at hl 0 rfl) ?_
      refine lv_iadd hx hb dX7_stampAll_55 ?_
      refine lv_eqi (v := (nI (3 * k + i))) (nA (a := 3 * k) (b := i) (c := 3 * k + i) (by omega)) ?_
      refine ln_4 (j := 3 * k + i) S hK hI (by omega) dX7_stampAll_56 ?_
      refine lv_topl (fun x5 e5 => ?_)
      have hj5 : vp_in x5.toInt32 60 := by subst e5; subst e3; subst e2; exact cell_in hR hk hz3 hNum hi rfl c4
      refine lv_l2i hx hb dX7_stampAll_57 rfl ?_
      refine lv_eqi (v := nI (ix x5.toInt32)) (vp_nI hj5 (by decide)) ?_
      refine tw_callv (tw_rV (As := [.int (nI (ix x5.toInt32))]) (rest := []) S hK hI kX7_142 (c_X7_stampRow l D ad _ _ _ _ (hR.1) (vp_ix hj5)) (t := 1000) (fs := mRoot _) rfl rfl rfl ⟨Nat.le_of_ble_eq_true rfl, Nat.le_of_ble_eq_true rfl⟩ ⟨Nat.le_of_ble_eq_true rfl, Nat.le_of_ble_eq_true rfl⟩ rfl hl.1 rfl (Nat.le_of_ble_eq_true rfl) dX7_stampAll_58) hI (fun H locs hI => ?_)
      refine lv_iinc (v := nI (i + 1)) (lv' := [(2, .int (nI (i + 1))), (0, .ref (ad 1000)), (1, .int (nI k))]) hx hb dX7_stampAll_61 hl (k := 0) rfl (nA (a := i) (b := 1) (c := i + 1) (by omega)) (by decide) rfl (fun ls hl => ?_)
      refine lv_goto (tgt := 19) hx hb dX7_stampAll_64 (by decide) ?_
      subst e5
      subst e3
      subst e2
      refine kk _ _ _ (by unfold stepF; rw [if_neg c4]; exact hI) hl

set_option maxRecDepth 100000 in
theorem ll_X7_stampAll {p : Program} {l : Launch} {e : Env} {s : State} {m : MethodId} {av : Array Value} {below : List Frame} {meth : Method} {c : Code} {Z : State → Prop} {D : tw_G} {A : Nat → Prop} {ad : Nat → Nat} {b : tw_W} {k z : Nat} {κ : Int32} (S : CallFix p m c cX7_stampAll 3 s av tw_ws RX7) (hK : tw_K D s) (hk : k < 60) (hz3 : z ≤ 3) (hNum : isNumF κ = 0)  : ∀ (y i : Nat) (σ : Sg) (H : Heap) (locs : List Loc) (ls : Array Slot), i + y = z → rowOK σ k z κ → tw_I D A ad (wM b σ) s.heap H locs → lv_has ls 3 [(2, .int (nI i)), (0, .ref (ad 1000)), (1, .int (nI k))] → (∀ (H1 : Heap) (locs1 : List Loc) (ls1 : Array Slot), rowOK (eachF stampRowF k y i σ) k z κ → tw_I D A ad (wM b (eachF stampRowF k y i σ)) s.heap H1 locs1 → lv_has ls1 3 [(2, .int (nI z)), (0, .ref (ad 1000)), (1, .int (nI k))] → W p l e (tw_R 4 0 0) s m av below meth c H1 locs1 0 0 Z (F0 m 19 ls1 [])) → W p l e (tw_R 4 0 0) s m av below meth c H locs 0 0 Z (F0 m 19 ls [])
  | 0, i, σ, H, locs, ls, e, hR, hI, hl, kk => by
    have ei : i = z := by omega
    subst ei
    exact kk H locs ls hR hI hl
  | y + 1, i, σ, H, locs, ls, e, hR, hI, hl, kk =>
    lb_X7_stampAll S hK hI hl hk hz3 hNum  (by omega) hR (fun H1 locs1 ls1 hI1 hl1 => ll_X7_stampAll S hK hk hz3 hNum  y (i + 1) _ H1 locs1 ls1 (by omega) (step_ok (fun σ j a b => okA_row a b) row_I hk hz3 hNum (by omega) hR) hI1 hl1 kk)
set_option maxHeartbeats 2000000 in
set_option maxRecDepth 100000 in
theorem c_X7_stampAll (l : Launch) (D : tw_G) (ad : Nat → Nat) (b : tw_W) (σ : Sg) (sz : Nat) (k : Nat) (hA : okA σ) (hk : k < 60) : Met l yX7_stampAll (tw_w yX7_stampAll cX7_stampAll 3 none) (tw_R 4 0 0) (tw_Pc D ad (wM b σ) sz [.ref (ad 1000), .int (nI k)]) (tw_Q D ad (wM b (stampAllF σ k)) (tw_A ad (wM b σ) sz) none) 0 0 (tw_A ad (wM b σ) sz) := by
  refine tw_met (by decide) rfl (by simp [lg_sl, Value.category]) (fun p e s m below meth c ls S hK hr hlocks hnm hsz hI hl => ?_)
  have hx := S.1
  have hb := S.2.1
  have hl : lv_has ls 3 [(0, .ref (ad 1000)), (1, .int (nI k))] := hl
  obtain ⟨κ, eκ⟩ : ∃ κ : Int32, σ.1 1 k = κ := ⟨_, rfl⟩
  obtain ⟨z, hz3, ez⟩ := hA.1.2.1 k hk
  have hR : rowOK σ k z κ := ⟨hA, eκ, ez⟩
  have es : szS σ k = z := by unfold szS; rw [ez]; exact nI_clamp (by omega)
  by_cases hT : 11 ≤ κ
  · have hNum := alb_num hT
    refine lv_aload_n hx hb dX7_stampAll_0 rfl (lv_at hl 0 rfl) ?_
    refine gm_7 S hK hI dX7_stampAll_1 ?_
    refine lv_iload_n hx hb dX7_stampAll_4 rfl (lv_at hl 1 rfl) ?_
    refine ln_1 (j := k) S hK hI (by omega) dX7_stampAll_5 ?_
    refine lv_eqi (v := κ) (hR.2.1) ?_
    refine lv_bipush (v := 11) hx hb dX7_stampAll_6 (by decide) ?_
    refine lv_icmp_ge (tgt := 17) hx hb dX7_stampAll_8 (by decide) (fun c1 => ?_) (fun c1 => ?_)
    · refine lv_iconst (v := 0) hx hb dX7_stampAll_17 (by decide) ?_
      refine lv_istore_n (lv' := [(2, .int 0), (0, .ref (ad 1000)), (1, .int (nI k))]) hx hb dX7_stampAll_18 rfl hl (by decide) rfl (fun ls hl => ?_)
      refine ll_X7_stampAll S hK hk hz3 hNum  z 0 _ _ _ _ (by omega) hR hI hl (fun H locs ls hR hI hl => ?_)
      refine lv_iload_n hx hb dX7_stampAll_19 rfl (lv_at hl 0 rfl) ?_
      refine lv_aload_n hx hb dX7_stampAll_20 rfl (lv_at hl 1 rfl) ?_
      refine gm_13 S hK hI dX7_stampAll_21 ?_
      refine lv_iload_n hx hb dX7_stampAll_24 rfl (lv_at hl 2 rfl) ?_
      refine ln_2 (j := k) S hK hI (by omega) dX7_stampAll_25 ?_
      refine lv_eqi (v := (nI z)) (hR.2.2) ?_
      refine lv_icmp_ge (tgt := 67) hx hb dX7_stampAll_26 (by decide) (fun c2 => ?_) (fun c2 => ?_)
      · unfold stampAllF
        rw [eκ]
        try rw [es]
        try rw [if_pos hT]
        exact tw_vret S hr hlocks hI dX7_stampAll_67
      · exact absurd (nI_le (Nat.le_refl z) (by omega)) c2
    · exact absurd hT c1
  · refine lv_aload_n hx hb dX7_stampAll_0 rfl (lv_at hl 0 rfl) ?_
    refine gm_7 S hK hI dX7_stampAll_1 ?_
    refine lv_iload_n hx hb dX7_stampAll_4 rfl (lv_at hl 1 rfl) ?_
    refine ln_1 (j := k) S hK hI (by omega) dX7_stampAll_5 ?_
    refine lv_eqi (v := κ) (hR.2.1) ?_
    refine lv_bipush (v := 11) hx hb dX7_stampAll_6 (by decide) ?_
    refine lv_icmp_ge (tgt := 17) hx hb dX7_stampAll_8 (by decide) (fun c3 => ?_) (fun c3 => ?_)
    · exact absurd c3 hT
    · refine lv_aload_n hx hb dX7_stampAll_11 rfl (lv_at hl 0 rfl) ?_
      refine lv_iload_n hx hb dX7_stampAll_12 rfl (lv_at hl 1 rfl) ?_
      refine tw_callv (tw_rV (As := [.int (nI k)]) (rest := []) S hK hI kX7_142 (c_X7_stampRow l D ad _ _ _ _ (hR.1) hk) (t := 1000) (fs := mRoot _) rfl rfl rfl ⟨Nat.le_of_ble_eq_true rfl, Nat.le_of_ble_eq_true rfl⟩ ⟨Nat.le_of_ble_eq_true rfl, Nat.le_of_ble_eq_true rfl⟩ rfl hl.1 rfl (Nat.le_of_ble_eq_true rfl) dX7_stampAll_13) hI (fun H locs hI => ?_)
      unfold stampAllF
      rw [eκ]
      try rw [es]
      try rw [if_neg hT]
      exact tw_vret S hr hlocks hI dX7_stampAll_16
