/-! the class: make -/
theorem i_nle {a b : Int32} (h : ¬ a ≤ b) : b < a := by
  rw [Int32.le_iff_toInt_le] at h
  rw [Int32.lt_iff_toInt_lt]
  omega
theorem isIn_0 {v a b : Int32} (h : ¬ v < a → ¬ v ≤ b) : isInF v a b = 0 := by
  unfold isInF
  by_cases c : v < a
  · rw [if_pos c]
  · rw [if_neg c, if_pos (i_nle (h c))]
theorem isIn_1 {v a b : Int32} (h1 : ¬ v < a) (h2 : v ≤ b) : ¬ isInF v a b = 0 := by
  unfold isInF
  rw [if_neg h1, if_neg]
  · decide
  · intro c
    rw [Int32.le_iff_toInt_le] at h2
    rw [Int32.lt_iff_toInt_lt] at c
    omega
theorem mk_kind {σ : Sg} {n : Nat} {k z : Int32} (hv : ¬ k < 0 → ¬ k ≤ 12) : makeM σ n k z = (-2, refuseM σ (-2)) := by
  unfold makeM
  rw [if_pos (isIn_0 hv), refuse_acc]
theorem mk_size {σ : Sg} {n : Nat} {k z : Int32} (h0 : ¬ k < 0) (h12 : k ≤ 12) (hp : isPieceF k = 0) (hv : ¬ z < 0 → ¬ z ≤ 3) : makeM σ n k z = (-2, refuseM σ (-2)) := by
  unfold makeM
  rw [if_neg (isIn_1 h0 h12), if_pos (show isOneF k = 0 from hp), if_pos (isIn_0 hv), refuse_acc]
theorem mk_one {σ : Sg} {n : Nat} {k z : Int32} (h0 : ¬ k < 0) (h12 : k ≤ 12) (hp : ¬ isPieceF k = 0) : makeM σ n k z = makeB (acc σ) n k z := by
  unfold makeM
  rw [if_neg (isIn_1 h0 h12), if_neg (show ¬ isOneF k = 0 from hp)]
theorem mk_row {σ : Sg} {n z : Nat} {k : Int32} (h0 : ¬ k < 0) (h12 : k ≤ 12) (hp : isPieceF k = 0) (hz : z ≤ 3) : makeM σ n k (nI z) = makeB (acc σ) n k (nI z) := by
  unfold makeM
  rw [if_neg (isIn_1 h0 h12), if_pos (show isOneF k = 0 from hp), if_neg (isIn_1 (nI_pos (by omega)) (show nI z ≤ (3 : Int32) from nI_le (b := 3) hz (by decide)))]
theorem mkB_full {σ : Sg} {k z : Int32} : makeB (acc σ) 60 k z = (-3, refuseM σ (-3)) := by
  unfold makeB
  rw [if_pos (show nI 60 = 60 from rfl), refuse_acc]
theorem mkB_ok {σ : Sg} {n : Nat} {k z : Int32} (h60 : n < 60) : makeB (acc σ) n k z = (nI n, acc (mkS σ n k z)) := by
  unfold makeB
  rw [if_neg (show ¬ nI n = 60 from nI_neq (b := 60) h60 (by decide)), acc_mkS]
theorem pc_one {k : Int32} (h : ¬ isPieceF k = 0) : isNumK k = false ∧ isOneK k = true := by
  have h1 : ¬ k < 5 := fun c => h (by unfold isPieceF; rw [if_pos c])
  have h2 : ¬ 7 < k := fun c => h (by unfold isPieceF; rw [if_neg h1, if_pos c])
  have e5 : (5 : Int32).toInt = 5 := by decide
  have e7 : (7 : Int32).toInt = 7 := by decide
  have e3 : (3 : Int32).toInt = 3 := by decide
  rw [Int32.lt_iff_toInt_lt] at h1 h2
  unfold isNumK isOneK
  refine ⟨decide_eq_false ?_, ?_⟩
  · rw [Int32.le_iff_toInt_le]; omega
  · rw [Bool.and_eq_true]
    refine ⟨decide_eq_true ?_, decide_eq_true ?_⟩
    · rw [Int32.le_iff_toInt_le]; omega
    · rw [Int32.le_iff_toInt_le]; omega
theorem pc_row {k : Int32} (h : isPieceF k = 0) : isOneK k = false := by
  cases hO : isOneK k with
  | false => rfl
  | true =>
    have := oneF1 hO
    rw [show isOneF k = isPieceF k from rfl, h] at this
    exact absurd this (by decide)
theorem num_3 {k : Int32} (h : ¬ 3 < k) : isNumK k = true := by
  unfold isNumK
  refine decide_eq_true ?_
  rw [Int32.lt_iff_toInt_lt] at h
  rw [Int32.le_iff_toInt_le]
  omega
theorem num_4 {k : Int32} (h : 3 < k) : isNumK k = false := by
  unfold isNumK
  refine decide_eq_false ?_
  rw [Int32.lt_iff_toInt_lt] at h
  rw [Int32.le_iff_toInt_le]
  omega
theorem up_same {α : Type} (w : Nat → α) {t : Nat} {a : α} (h : w t = a) : va_up w t a = w := by
  funext u
  by_cases c : u = t
  · subst c; rw [va_up_self, h]
  · rw [va_up_ne _ _ c]
theorem wX_make1 {b : tw_W} {σ : Sg} {h : Int32} {Q : Nat → Int32} {n : Nat} {k z : Int32} {I : tw_T} (h60 : n < 60) (en : nS σ = n) (eI : xItem (mkS σ n k z) n = I) (eA : xArr (mkS σ n k z) n = none) : va_up (va_up (va_up (wX b σ h Q) (100 + n) (some I)) 1 (some (.inl (4, 60, .inr (.inr (.inr (.inr (va_up (fun i => if i < nS σ then some (100 + i) else none) n (some (100 + n)))))))))) 0 (some (.inr (5, (xRoot σ h).set 2 (.int (nI (n + 1)))))) = wX b (mkS σ n k z) h Q := by
  have e := wX_make (b := b) (h := h) (Q := Q) h60 en eI eA
  rw [up_same _ (wX_no2 h60 (by omega))] at e
  exact e
theorem z_4 (z : Int32) : (z < 0 ∨ nI 4 ≤ z) ∨ ∃ j : Nat, j < 4 ∧ z = nI j := by
  rcases pk_ix z (n := 4) (by decide) with h | h | ⟨j, hj, e⟩
  · exact Or.inl (Or.inl h)
  · exact Or.inl (Or.inr h)
  · exact Or.inr ⟨j, hj, e⟩
theorem cl_item {b : tw_W} {σ : Sg} {h : Int32} {Q : Nat → Int32} {B n : Nat} (hV : INV σ B) (hbk : b_ok b) (h60 : n < 60) (en : nS σ = n) : tw_cl (100 + n) (wX b σ h Q) ∧ tw_cl (200 + n) (wX b σ h Q) := by
  have hd : ∀ r : Nat, r < 8 → dcS σ r ≤ 4 := fun r hr => (okD hV.1 hr).1
  exact ⟨wX_cl hV hbk (by omega) (by omega) (by omega) (fun r d hr hd' => by have := hd r hr; omega) (fun i hi => by omega) (fun i hi => by omega), wX_cl hV hbk (by omega) (by omega) (by omega) (fun r d hr hd' => by have := hd r hr; omega) (fun i hi => by omega) (fun i hi => by omega)⟩

set_option maxHeartbeats 2000000 in
set_option maxRecDepth 100000 in
theorem c_X6_make_kind (l : Launch) (D : tw_G) (ad : Nat → Nat) (b : tw_W) (σ : Sg) (h : Int32) (Q : Nat → Int32) (sz : Nat) (n : Nat) (k z : Int32) (hv : ¬ k < 0 → ¬ k ≤ 12) : Met l yX6_make (tw_w yX6_make cX6_make 4 (some .int)) (tw_R 4 2 6) (tw_Pc D ad (wX b σ h Q) sz [.ref (ad 0), .int k, .int z]) (tw_Qn D ad (wX b σ h Q) (wX b (makeM σ n k z).2 h Q) (tw_A ad (wX b σ h Q) sz) (fun _ => some (.int (makeM σ n k z).1))) 2 6 (tw_A ad (wX b σ h Q) sz) := by
  refine tw_met (by decide) rfl (by simp [lg_sl, Value.category]) (fun p e s m below meth c ls S hK hr hlocks hnm hsz hI hl => ?_)
  have hx := S.1
  have hb := S.2.1
  have hl : lv_has ls 4 [(0, .ref (ad 0)), (1, .int k), (2, .int z)] := hl
  refine lv_iload_n hx hb dX6_make_0 rfl (lv_at hl 1 rfl) ?_
  refine lv_if_lt (tgt := 10) hx hb dX6_make_1 (by decide) (fun c1 => ?_) (fun c1 => ?_)
  · refine lv_aload_n hx hb dX6_make_10 rfl (lv_at hl 0 rfl) ?_
    refine lv_bipush (v := (-2)) hx hb dX6_make_11 (by decide) ?_
    refine tw_calli (tw_rV (As := [.int (-2)]) (rest := []) S hK hI kX6_50 (c_X6_refuse l D ad _ _ _ _ _ _) wX_0 rfl rfl ⟨Nat.le_of_ble_eq_true rfl, Nat.le_of_ble_eq_true rfl⟩ ⟨Nat.le_of_ble_eq_true rfl, Nat.le_of_ble_eq_true rfl⟩ rfl hl.1 rfl (Nat.le_of_ble_eq_true rfl) dX6_make_13) hI (fun H locs hI => ?_)
    refine lv_topi (fun x2 e2 => ?_)
    subst e2
    rw [mk_kind hv]
    refine W.widen (k := 2) (n := 6) (Nat.le_of_ble_eq_true rfl) (Nat.le_of_ble_eq_true rfl) ?_
    exact W.iret S.1 S.2.1 hr (fun t ht _ => tw_retN (r := fun _ => some (.int (-2))) hI (fun _ _ _ => rfl) ht) hI.2.2.1.2.2 dX6_make_16 hlocks
  · refine lv_iload_n hx hb dX6_make_4 rfl (lv_at hl 1 rfl) ?_
    refine lv_bipush (v := 12) hx hb dX6_make_5 (by decide) ?_
    refine lv_icmp_le (tgt := 17) hx hb dX6_make_7 (by decide) (fun c3 => ?_) (fun c3 => ?_)
    · exact absurd c3 (hv c1)
    · refine lv_aload_n hx hb dX6_make_10 rfl (lv_at hl 0 rfl) ?_
      refine lv_bipush (v := (-2)) hx hb dX6_make_11 (by decide) ?_
      refine tw_calli (tw_rV (As := [.int (-2)]) (rest := []) S hK hI kX6_50 (c_X6_refuse l D ad _ _ _ _ _ _) wX_0 rfl rfl ⟨Nat.le_of_ble_eq_true rfl, Nat.le_of_ble_eq_true rfl⟩ ⟨Nat.le_of_ble_eq_true rfl, Nat.le_of_ble_eq_true rfl⟩ rfl hl.1 rfl (Nat.le_of_ble_eq_true rfl) dX6_make_13) hI (fun H locs hI => ?_)
      refine lv_topi (fun x4 e4 => ?_)
      subst e4
      rw [mk_kind hv]
      refine W.widen (k := 2) (n := 6) (Nat.le_of_ble_eq_true rfl) (Nat.le_of_ble_eq_true rfl) ?_
      exact W.iret S.1 S.2.1 hr (fun t ht _ => tw_retN (r := fun _ => some (.int (-2))) hI (fun _ _ _ => rfl) ht) hI.2.2.1.2.2 dX6_make_16 hlocks

set_option maxHeartbeats 2000000 in
set_option maxRecDepth 100000 in
theorem c_X6_make_size (l : Launch) (D : tw_G) (ad : Nat → Nat) (b : tw_W) (σ : Sg) (h : Int32) (Q : Nat → Int32) (sz : Nat) (n : Nat) (k z : Int32) (h0 : ¬ k < 0) (h12 : k ≤ 12) (hp : isPieceF k = 0) (hv : ¬ z < 0 → ¬ z ≤ 3) : Met l yX6_make (tw_w yX6_make cX6_make 4 (some .int)) (tw_R 4 2 6) (tw_Pc D ad (wX b σ h Q) sz [.ref (ad 0), .int k, .int z]) (tw_Qn D ad (wX b σ h Q) (wX b (makeM σ n k z).2 h Q) (tw_A ad (wX b σ h Q) sz) (fun _ => some (.int (makeM σ n k z).1))) 2 6 (tw_A ad (wX b σ h Q) sz) := by
  refine tw_met (by decide) rfl (by simp [lg_sl, Value.category]) (fun p e s m below meth c ls S hK hr hlocks hnm hsz hI hl => ?_)
  have hx := S.1
  have hb := S.2.1
  have hl : lv_has ls 4 [(0, .ref (ad 0)), (1, .int k), (2, .int z)] := hl
  refine lv_iload_n hx hb dX6_make_0 rfl (lv_at hl 1 rfl) ?_
  refine lv_if_lt (tgt := 10) hx hb dX6_make_1 (by decide) (fun c1 => ?_) (fun c1 => ?_)
  · exact absurd c1 h0
  · refine lv_iload_n hx hb dX6_make_4 rfl (lv_at hl 1 rfl) ?_
    refine lv_bipush (v := 12) hx hb dX6_make_5 (by decide) ?_
    refine lv_icmp_le (tgt := 17) hx hb dX6_make_7 (by decide) (fun c2 => ?_) (fun c2 => ?_)
    · refine lv_iload_n hx hb dX6_make_17 rfl (lv_at hl 1 rfl) ?_
      refine tw_calli (tw_rS (As := [.int k]) (rest := []) S hK hI kX6_54 (c_X6_isPiece l D ad _ _ _) ⟨Nat.le_of_ble_eq_true rfl, Nat.le_of_ble_eq_true rfl⟩ ⟨Nat.le_of_ble_eq_true rfl, Nat.le_of_ble_eq_true rfl⟩ rfl hl.1 rfl (Nat.le_of_ble_eq_true rfl) dX6_make_18) hI (fun H locs hI => ?_)
      refine lv_topi (fun x3 e3 => ?_)
      refine lv_if_ne (tgt := 40) hx hb dX6_make_21 (by decide) (fun c4 => ?_) (fun c4 => ?_)
      · exact (by subst e3; exact absurd hp c4)
      · refine lv_iload_n hx hb dX6_make_24 rfl (lv_at hl 2 rfl) ?_
        refine lv_if_lt (tgt := 33) hx hb dX6_make_25 (by decide) (fun c5 => ?_) (fun c5 => ?_)
        · refine lv_aload_n hx hb dX6_make_33 rfl (lv_at hl 0 rfl) ?_
          refine lv_bipush (v := (-2)) hx hb dX6_make_34 (by decide) ?_
          refine tw_calli (tw_rV (As := [.int (-2)]) (rest := []) S hK hI kX6_50 (c_X6_refuse l D ad _ _ _ _ _ _) wX_0 rfl rfl ⟨Nat.le_of_ble_eq_true rfl, Nat.le_of_ble_eq_true rfl⟩ ⟨Nat.le_of_ble_eq_true rfl, Nat.le_of_ble_eq_true rfl⟩ rfl hl.1 rfl (Nat.le_of_ble_eq_true rfl) dX6_make_36) hI (fun H locs hI => ?_)
          refine lv_topi (fun x6 e6 => ?_)
          subst e6
          subst e3
          rw [mk_size h0 h12 hp hv]
          refine W.widen (k := 2) (n := 6) (Nat.le_of_ble_eq_true rfl) (Nat.le_of_ble_eq_true rfl) ?_
          exact W.iret S.1 S.2.1 hr (fun t ht _ => tw_retN (r := fun _ => some (.int (-2))) hI (fun _ _ _ => rfl) ht) hI.2.2.1.2.2 dX6_make_39 hlocks
        · refine lv_iload_n hx hb dX6_make_28 rfl (lv_at hl 2 rfl) ?_
          refine lv_iconst (v := 3) hx hb dX6_make_29 (by decide) ?_
          refine lv_icmp_le (tgt := 40) hx hb dX6_make_30 (by decide) (fun c7 => ?_) (fun c7 => ?_)
          · exact absurd c7 (hv c5)
          · refine lv_aload_n hx hb dX6_make_33 rfl (lv_at hl 0 rfl) ?_
            refine lv_bipush (v := (-2)) hx hb dX6_make_34 (by decide) ?_
            refine tw_calli (tw_rV (As := [.int (-2)]) (rest := []) S hK hI kX6_50 (c_X6_refuse l D ad _ _ _ _ _ _) wX_0 rfl rfl ⟨Nat.le_of_ble_eq_true rfl, Nat.le_of_ble_eq_true rfl⟩ ⟨Nat.le_of_ble_eq_true rfl, Nat.le_of_ble_eq_true rfl⟩ rfl hl.1 rfl (Nat.le_of_ble_eq_true rfl) dX6_make_36) hI (fun H locs hI => ?_)
            refine lv_topi (fun x8 e8 => ?_)
            subst e8
            subst e3
            rw [mk_size h0 h12 hp hv]
            refine W.widen (k := 2) (n := 6) (Nat.le_of_ble_eq_true rfl) (Nat.le_of_ble_eq_true rfl) ?_
            exact W.iret S.1 S.2.1 hr (fun t ht _ => tw_retN (r := fun _ => some (.int (-2))) hI (fun _ _ _ => rfl) ht) hI.2.2.1.2.2 dX6_make_39 hlocks
    · exact absurd h12 c2

set_option maxHeartbeats 2000000 in
set_option maxRecDepth 100000 in
theorem c_X6_make_full1 (l : Launch) (D : tw_G) (ad : Nat → Nat) (b : tw_W) (σ : Sg) (h : Int32) (Q : Nat → Int32) (sz : Nat) (k z : Int32) (h0 : ¬ k < 0) (h12 : k ≤ 12) (hp : ¬ isPieceF k = 0) (en : σ.1 0 0 = 60) : Met l yX6_make (tw_w yX6_make cX6_make 4 (some .int)) (tw_R 4 2 6) (tw_Pc D ad (wX b σ h Q) sz [.ref (ad 0), .int k, .int z]) (tw_Qn D ad (wX b σ h Q) (wX b (makeM σ 60 k z).2 h Q) (tw_A ad (wX b σ h Q) sz) (fun _ => some (.int (makeM σ 60 k z).1))) 2 6 (tw_A ad (wX b σ h Q) sz) := by
  refine tw_met (by decide) rfl (by simp [lg_sl, Value.category]) (fun p e s m below meth c ls S hK hr hlocks hnm hsz hI hl => ?_)
  have hx := S.1
  have hb := S.2.1
  have hl : lv_has ls 4 [(0, .ref (ad 0)), (1, .int k), (2, .int z)] := hl
  refine lv_iload_n hx hb dX6_make_0 rfl (lv_at hl 1 rfl) ?_
  refine lv_if_lt (tgt := 10) hx hb dX6_make_1 (by decide) (fun c1 => ?_) (fun c1 => ?_)
  · exact absurd c1 h0
  · refine lv_iload_n hx hb dX6_make_4 rfl (lv_at hl 1 rfl) ?_
    refine lv_bipush (v := 12) hx hb dX6_make_5 (by decide) ?_
    refine lv_icmp_le (tgt := 17) hx hb dX6_make_7 (by decide) (fun c2 => ?_) (fun c2 => ?_)
    · refine lv_iload_n hx hb dX6_make_17 rfl (lv_at hl 1 rfl) ?_
      refine tw_calli (tw_rS (As := [.int k]) (rest := []) S hK hI kX6_54 (c_X6_isPiece l D ad _ _ _) ⟨Nat.le_of_ble_eq_true rfl, Nat.le_of_ble_eq_true rfl⟩ ⟨Nat.le_of_ble_eq_true rfl, Nat.le_of_ble_eq_true rfl⟩ rfl hl.1 rfl (Nat.le_of_ble_eq_true rfl) dX6_make_18) hI (fun H locs hI => ?_)
      refine lv_topi (fun x3 e3 => ?_)
      refine lv_if_ne (tgt := 40) hx hb dX6_make_21 (by decide) (fun c4 => ?_) (fun c4 => ?_)
      · refine lv_aload_n hx hb dX6_make_40 rfl (lv_at hl 0 rfl) ?_
        refine gx_21 S hK hI dX6_make_41 ?_
        refine lv_eqi (v := 60) en ?_
        refine lv_bipush (v := 60) hx hb dX6_make_44 (by decide) ?_
        refine lv_icmp_lt (tgt := 56) hx hb dX6_make_46 (by decide) (fun c5 => ?_) (fun c5 => ?_)
        · exact absurd c5 (by decide)
        · refine lv_aload_n hx hb dX6_make_49 rfl (lv_at hl 0 rfl) ?_
          refine lv_bipush (v := (-3)) hx hb dX6_make_50 (by decide) ?_
          refine tw_calli (tw_rV (As := [.int (-3)]) (rest := []) S hK hI kX6_50 (c_X6_refuse l D ad _ _ _ _ _ _) wX_0 rfl rfl ⟨Nat.le_of_ble_eq_true rfl, Nat.le_of_ble_eq_true rfl⟩ ⟨Nat.le_of_ble_eq_true rfl, Nat.le_of_ble_eq_true rfl⟩ rfl hl.1 rfl (Nat.le_of_ble_eq_true rfl) dX6_make_52) hI (fun H locs hI => ?_)
          refine lv_topi (fun x6 e6 => ?_)
          subst e6
          subst e3
          rw [mk_one h0 h12 hp, mkB_full]
          refine W.widen (k := 2) (n := 6) (Nat.le_of_ble_eq_true rfl) (Nat.le_of_ble_eq_true rfl) ?_
          exact W.iret S.1 S.2.1 hr (fun t ht _ => tw_retN (r := fun _ => some (.int (-3))) hI (fun _ _ _ => rfl) ht) hI.2.2.1.2.2 dX6_make_55 hlocks
      · exact (by subst e3; exact absurd c4 hp)
    · exact absurd h12 c2

set_option maxHeartbeats 2000000 in
set_option maxRecDepth 100000 in
theorem c_X6_make_full (l : Launch) (D : tw_G) (ad : Nat → Nat) (b : tw_W) (σ : Sg) (h : Int32) (Q : Nat → Int32) (sz : Nat) (k : Int32) (z : Nat) (h0 : ¬ k < 0) (h12 : k ≤ 12) (hp : isPieceF k = 0) (hz : z ≤ 3) (en : σ.1 0 0 = 60) : Met l yX6_make (tw_w yX6_make cX6_make 4 (some .int)) (tw_R 4 2 6) (tw_Pc D ad (wX b σ h Q) sz [.ref (ad 0), .int k, .int (nI z)]) (tw_Qn D ad (wX b σ h Q) (wX b (makeM σ 60 k (nI z)).2 h Q) (tw_A ad (wX b σ h Q) sz) (fun _ => some (.int (makeM σ 60 k (nI z)).1))) 2 6 (tw_A ad (wX b σ h Q) sz) := by
  refine tw_met (by decide) rfl (by simp [lg_sl, Value.category]) (fun p e s m below meth c ls S hK hr hlocks hnm hsz hI hl => ?_)
  have hx := S.1
  have hb := S.2.1
  have hl : lv_has ls 4 [(0, .ref (ad 0)), (1, .int k), (2, .int (nI z))] := hl
  refine lv_iload_n hx hb dX6_make_0 rfl (lv_at hl 1 rfl) ?_
  refine lv_if_lt (tgt := 10) hx hb dX6_make_1 (by decide) (fun c1 => ?_) (fun c1 => ?_)
  · exact absurd c1 h0
  · refine lv_iload_n hx hb dX6_make_4 rfl (lv_at hl 1 rfl) ?_
    refine lv_bipush (v := 12) hx hb dX6_make_5 (by decide) ?_
    refine lv_icmp_le (tgt := 17) hx hb dX6_make_7 (by decide) (fun c2 => ?_) (fun c2 => ?_)
    · refine lv_iload_n hx hb dX6_make_17 rfl (lv_at hl 1 rfl) ?_
      refine tw_calli (tw_rS (As := [.int k]) (rest := []) S hK hI kX6_54 (c_X6_isPiece l D ad _ _ _) ⟨Nat.le_of_ble_eq_true rfl, Nat.le_of_ble_eq_true rfl⟩ ⟨Nat.le_of_ble_eq_true rfl, Nat.le_of_ble_eq_true rfl⟩ rfl hl.1 rfl (Nat.le_of_ble_eq_true rfl) dX6_make_18) hI (fun H locs hI => ?_)
      refine lv_topi (fun x3 e3 => ?_)
      refine lv_if_ne (tgt := 40) hx hb dX6_make_21 (by decide) (fun c4 => ?_) (fun c4 => ?_)
      · exact (by subst e3; exact absurd hp c4)
      · refine lv_iload_n hx hb dX6_make_24 rfl (lv_at hl 2 rfl) ?_
        refine lv_if_lt (tgt := 33) hx hb dX6_make_25 (by decide) (fun c5 => ?_) (fun c5 => ?_)
        · exact absurd c5 (nI_pos (by omega))
        · refine lv_iload_n hx hb dX6_make_28 rfl (lv_at hl 2 rfl) ?_
          refine lv_iconst (v := 3) hx hb dX6_make_29 (by decide) ?_
          refine lv_icmp_le (tgt := 40) hx hb dX6_make_30 (by decide) (fun c6 => ?_) (fun c6 => ?_)
          · refine lv_aload_n hx hb dX6_make_40 rfl (lv_at hl 0 rfl) ?_
            refine gx_21 S hK hI dX6_make_41 ?_
            refine lv_eqi (v := 60) en ?_
            refine lv_bipush (v := 60) hx hb dX6_make_44 (by decide) ?_
            refine lv_icmp_lt (tgt := 56) hx hb dX6_make_46 (by decide) (fun c7 => ?_) (fun c7 => ?_)
            · exact absurd c7 (by decide)
            · refine lv_aload_n hx hb dX6_make_49 rfl (lv_at hl 0 rfl) ?_
              refine lv_bipush (v := (-3)) hx hb dX6_make_50 (by decide) ?_
              refine tw_calli (tw_rV (As := [.int (-3)]) (rest := []) S hK hI kX6_50 (c_X6_refuse l D ad _ _ _ _ _ _) wX_0 rfl rfl ⟨Nat.le_of_ble_eq_true rfl, Nat.le_of_ble_eq_true rfl⟩ ⟨Nat.le_of_ble_eq_true rfl, Nat.le_of_ble_eq_true rfl⟩ rfl hl.1 rfl (Nat.le_of_ble_eq_true rfl) dX6_make_52) hI (fun H locs hI => ?_)
              refine lv_topi (fun x8 e8 => ?_)
              subst e8
              subst e3
              rw [mk_row h0 h12 hp hz, mkB_full]
              refine W.widen (k := 2) (n := 6) (Nat.le_of_ble_eq_true rfl) (Nat.le_of_ble_eq_true rfl) ?_
              exact W.iret S.1 S.2.1 hr (fun t ht _ => tw_retN (r := fun _ => some (.int (-3))) hI (fun _ _ _ => rfl) ht) hI.2.2.1.2.2 dX6_make_55 hlocks
          · exact absurd (nI_le (b := 3) hz (by decide)) c6
    · exact absurd h12 c2

set_option maxHeartbeats 2000000 in
set_option maxRecDepth 100000 in
theorem c_X6_make_one (l : Launch) (D : tw_G) (ad : Nat → Nat) (b : tw_W) (σ : Sg) (h : Int32) (Q : Nat → Int32) (sz : Nat) (n : Nat) (k z : Int32) (B : Nat) (hV : INV σ B) (hbk : b_ok b) (h0 : ¬ k < 0) (h12 : k ≤ 12) (hp : ¬ isPieceF k = 0) (en : σ.1 0 0 = nI n) (enS : nS σ = n) (h60 : n < 60) : Met l yX6_make (tw_w yX6_make cX6_make 4 (some .int)) (tw_R 4 2 6) (tw_Pc D ad (wX b σ h Q) sz [.ref (ad 0), .int k, .int z]) (tw_Qn D ad (wX b σ h Q) (wX b (makeM σ n k z).2 h Q) (tw_A ad (wX b σ h Q) sz) (fun _ => some (.int (makeM σ n k z).1))) 2 6 (tw_A ad (wX b σ h Q) sz) := by
  refine tw_met (by decide) rfl (by simp [lg_sl, Value.category]) (fun p e s m below meth c ls S hK hr hlocks hnm hsz hI hl => ?_)
  have hx := S.1
  have hb := S.2.1
  have hl : lv_has ls 4 [(0, .ref (ad 0)), (1, .int k), (2, .int z)] := hl
  refine lv_iload_n hx hb dX6_make_0 rfl (lv_at hl 1 rfl) ?_
  refine lv_if_lt (tgt := 10) hx hb dX6_make_1 (by decide) (fun c1 => ?_) (fun c1 => ?_)
  · exact absurd c1 h0
  · refine lv_iload_n hx hb dX6_make_4 rfl (lv_at hl 1 rfl) ?_
    refine lv_bipush (v := 12) hx hb dX6_make_5 (by decide) ?_
    refine lv_icmp_le (tgt := 17) hx hb dX6_make_7 (by decide) (fun c2 => ?_) (fun c2 => ?_)
    · refine lv_iload_n hx hb dX6_make_17 rfl (lv_at hl 1 rfl) ?_
      refine tw_calli (tw_rS (As := [.int k]) (rest := []) S hK hI kX6_54 (c_X6_isPiece l D ad _ _ _) ⟨Nat.le_of_ble_eq_true rfl, Nat.le_of_ble_eq_true rfl⟩ ⟨Nat.le_of_ble_eq_true rfl, Nat.le_of_ble_eq_true rfl⟩ rfl hl.1 rfl (Nat.le_of_ble_eq_true rfl) dX6_make_18) hI (fun H locs hI => ?_)
      refine lv_topi (fun x3 e3 => ?_)
      refine lv_if_ne (tgt := 40) hx hb dX6_make_21 (by decide) (fun c4 => ?_) (fun c4 => ?_)
      · refine lv_aload_n hx hb dX6_make_40 rfl (lv_at hl 0 rfl) ?_
        refine gx_21 S hK hI dX6_make_41 ?_
        refine lv_eqi (v := (nI n)) en ?_
        refine lv_bipush (v := 60) hx hb dX6_make_44 (by decide) ?_
        refine lv_icmp_lt (tgt := 56) hx hb dX6_make_46 (by decide) (fun c5 => ?_) (fun c5 => ?_)
        · refine lv_aload_n hx hb dX6_make_56 rfl (lv_at hl 0 rfl) ?_
          refine gx_21 S hK hI dX6_make_57 ?_
          refine lv_eqi (v := (nI n)) en ?_
          refine lv_istore_n (lv' := [(3, .int (nI n)), (0, .ref (ad 0)), (1, .int k), (2, .int z)]) hx hb dX6_make_60 rfl hl (by decide) rfl (fun ls hl => ?_)
          refine lv_aload_n hx hb dX6_make_61 rfl (lv_at hl 1 rfl) ?_
          refine gx_11 S hK hI dX6_make_62 ?_
          refine lv_iload_n hx hb dX6_make_65 rfl (lv_at hl 0 rfl) ?_
          refine lv_iload_n hx hb dX6_make_66 rfl (lv_at hl 0 rfl) ?_
          refine lv_iload_n hx hb dX6_make_67 rfl (lv_at hl 2 rfl) ?_
          refine lv_iload_n hx hb dX6_make_68 rfl (lv_at hl 3 rfl) ?_
          refine tw_callN (tw_rS (As := [.int (nI n), .int k, .int z]) (rest := [.int (nI n), .ref (ad 1)]) S hK hI kX6_58 (c_X6_newItem_one l D ad _ _ n k z hp (wX_no1 h60 (by omega)) (cl_item hV hbk h60 enS).1) ⟨Nat.le_of_ble_eq_true rfl, Nat.le_of_ble_eq_true rfl⟩ ⟨Nat.le_of_ble_eq_true rfl, Nat.le_of_ble_eq_true rfl⟩ rfl hl.1 rfl (Nat.le_of_ble_eq_true rfl) dX6_make_69) hI (fun ad H locs had hI => ?_)
          refine W_stk (st' := [.ref (ad (100 + n)), .int (nI n), .ref (ad 1)]) (by rw [had 1 _ wX_1]; rfl) ?_
          have hl : lv_has ls 4 [(3, .int (nI n)), (0, .ref (ad 0)), (1, .int k), (2, .int z)] := by rw [had 0 _ wX_0]; exact hl
          refine tw_aast S hK hI (t := 1) ((va_up_ne _ _ (show 1 ≠ 100 + n by omega)).trans wX_1) (k := 4) rfl (vp_in_nI h60 (by decide)) (some (100 + n)) rfl (fun y e => by cases e; exact tw_any hK hI (va_up_self _ _ _) rfl (Or.inl (tw_memN (by decide +kernel) rfl))) dX6_make_72 (fun H locs hI => ?_)
          rw [show (nI n).toNatClampNeg = n from nI_clamp (by omega)] at hI
          refine lv_aload_n hx hb dX6_make_73 rfl (lv_at hl 1 rfl) ?_
          refine lv_dup hx hb dX6_make_74 rfl ?_
          refine f6_21_6 S hK hI ((va_up_ne _ _ (show 0 ≠ 1 by decide)).trans ((va_up_ne _ _ (show 0 ≠ 100 + n by omega)).trans wX_0)) rfl (v' := .int (σ.1 0 0)) rfl dX6_make_75 ?_
          refine lv_eqi (v := nI n) en ?_
          refine lv_iconst (v := 1) hx hb dX6_make_78 (by decide) ?_
          refine lv_iadd hx hb dX6_make_79 ?_
          refine lv_eqi (v := (nI (n + 1))) (nA (a := n) (b := 1) (c := n + 1) (by omega)) ?_
          refine p6_21_6 S hK hI ((va_up_ne _ _ (show 0 ≠ 1 by decide)).trans ((va_up_ne _ _ (show 0 ≠ 100 + n by omega)).trans wX_0)) (v := .int (nI (n + 1))) rfl rfl rfl (Nat.le_of_ble_eq_true rfl) dX6_make_80 (fun H locs hI => ?_)
          rw [wX_make1 h60 enS (new_one (pc_one hp).1 (pc_one hp).2).1 (new_one (pc_one hp).1 (pc_one hp).2).2] at hI
          refine lv_aload_n hx hb dX6_make_83 rfl (lv_at hl 1 rfl) ?_
          refine lv_iload_n hx hb dX6_make_84 rfl (lv_at hl 0 rfl) ?_
          refine tw_calli (tw_rV (As := [.int (nI n)]) (rest := []) S hK hI kX6_62 (c_X6_accept l D ad _ _ _ _ _ _) wX_0 rfl rfl ⟨Nat.le_of_ble_eq_true rfl, Nat.le_of_ble_eq_true rfl⟩ ⟨Nat.le_of_ble_eq_true rfl, Nat.le_of_ble_eq_true rfl⟩ rfl hl.1 rfl (Nat.le_of_ble_eq_true rfl) dX6_make_85) hI (fun H locs hI => ?_)
          refine lv_topi (fun x6 e6 => ?_)
          subst e6
          subst e3
          rw [mk_one h0 h12 hp, mkB_ok h60]
          refine W.widen (k := 2) (n := 6) (Nat.le_of_ble_eq_true rfl) (Nat.le_of_ble_eq_true rfl) ?_
          exact W.iret S.1 S.2.1 hr (fun t ht _ => tw_retN (r := fun _ => some (.int (nI n))) hI (fun t ε h => had t ε h) ht) hI.2.2.1.2.2 dX6_make_88 hlocks
        · exact absurd (nI_lt h60 (by decide)) c5
      · exact (by subst e3; exact absurd c4 hp)
    · exact absurd h12 c2

set_option maxHeartbeats 2000000 in
set_option maxRecDepth 100000 in
theorem c_X6_make_num (l : Launch) (D : tw_G) (ad : Nat → Nat) (b : tw_W) (σ : Sg) (h : Int32) (Q : Nat → Int32) (sz : Nat) (n : Nat) (k : Int32) (z B : Nat) (hV : INV σ B) (hbk : b_ok b) (h0 : ¬ k < 0) (h12 : k ≤ 12) (hp : isPieceF k = 0) (hz : z ≤ 3) (h3 : ¬ 3 < k) (en : σ.1 0 0 = nI n) (enS : nS σ = n) (h60 : n < 60) : Met l yX6_make (tw_w yX6_make cX6_make 4 (some .int)) (tw_R 4 2 6) (tw_Pc D ad (wX b σ h Q) sz [.ref (ad 0), .int k, .int (nI z)]) (tw_Qn D ad (wX b σ h Q) (wX b (makeM σ n k (nI z)).2 h Q) (tw_A ad (wX b σ h Q) sz) (fun _ => some (.int (makeM σ n k (nI z)).1))) 2 6 (tw_A ad (wX b σ h Q) sz) := by
  refine tw_met (by decide) rfl (by simp [lg_sl, Value.category]) (fun p e s m below meth c ls S hK hr hlocks hnm hsz hI hl => ?_)
  have hx := S.1
  have hb := S.2.1
  have hl : lv_has ls 4 [(0, .ref (ad 0)), (1, .int k), (2, .int (nI z))] := hl
  refine lv_iload_n hx hb dX6_make_0 rfl (lv_at hl 1 rfl) ?_
  refine lv_if_lt (tgt := 10) hx hb dX6_make_1 (by decide) (fun c1 => ?_) (fun c1 => ?_)
  · exact absurd c1 h0
  · refine lv_iload_n hx hb dX6_make_4 rfl (lv_at hl 1 rfl) ?_
    refine lv_bipush (v := 12) hx hb dX6_make_5 (by decide) ?_
    refine lv_icmp_le (tgt := 17) hx hb dX6_make_7 (by decide) (fun c2 => ?_) (fun c2 => ?_)
    · refine lv_iload_n hx hb dX6_make_17 rfl (lv_at hl 1 rfl) ?_
      refine tw_calli (tw_rS (As := [.int k]) (rest := []) S hK hI kX6_54 (c_X6_isPiece l D ad _ _ _) ⟨Nat.le_of_ble_eq_true rfl, Nat.le_of_ble_eq_true rfl⟩ ⟨Nat.le_of_ble_eq_true rfl, Nat.le_of_ble_eq_true rfl⟩ rfl hl.1 rfl (Nat.le_of_ble_eq_true rfl) dX6_make_18) hI (fun H locs hI => ?_)
      refine lv_topi (fun x3 e3 => ?_)
      refine lv_if_ne (tgt := 40) hx hb dX6_make_21 (by decide) (fun c4 => ?_) (fun c4 => ?_)
      · exact (by subst e3; exact absurd hp c4)
      · refine lv_iload_n hx hb dX6_make_24 rfl (lv_at hl 2 rfl) ?_
        refine lv_if_lt (tgt := 33) hx hb dX6_make_25 (by decide) (fun c5 => ?_) (fun c5 => ?_)
        · exact absurd c5 (nI_pos (by omega))
        · refine lv_iload_n hx hb dX6_make_28 rfl (lv_at hl 2 rfl) ?_
          refine lv_iconst (v := 3) hx hb dX6_make_29 (by decide) ?_
          refine lv_icmp_le (tgt := 40) hx hb dX6_make_30 (by decide) (fun c6 => ?_) (fun c6 => ?_)
          · refine lv_aload_n hx hb dX6_make_40 rfl (lv_at hl 0 rfl) ?_
            refine gx_21 S hK hI dX6_make_41 ?_
            refine lv_eqi (v := (nI n)) en ?_
            refine lv_bipush (v := 60) hx hb dX6_make_44 (by decide) ?_
            refine lv_icmp_lt (tgt := 56) hx hb dX6_make_46 (by decide) (fun c7 => ?_) (fun c7 => ?_)
            · refine lv_aload_n hx hb dX6_make_56 rfl (lv_at hl 0 rfl) ?_
              refine gx_21 S hK hI dX6_make_57 ?_
              refine lv_eqi (v := (nI n)) en ?_
              refine lv_istore_n (lv' := [(3, .int (nI n)), (0, .ref (ad 0)), (1, .int k), (2, .int (nI z))]) hx hb dX6_make_60 rfl hl (by decide) rfl (fun ls hl => ?_)
              refine lv_aload_n hx hb dX6_make_61 rfl (lv_at hl 1 rfl) ?_
              refine gx_11 S hK hI dX6_make_62 ?_
              refine lv_iload_n hx hb dX6_make_65 rfl (lv_at hl 0 rfl) ?_
              refine lv_iload_n hx hb dX6_make_66 rfl (lv_at hl 0 rfl) ?_
              refine lv_iload_n hx hb dX6_make_67 rfl (lv_at hl 2 rfl) ?_
              refine lv_iload_n hx hb dX6_make_68 rfl (lv_at hl 3 rfl) ?_
              refine tw_callN (tw_rS (As := [.int (nI n), .int k, .int (nI z)]) (rest := [.int (nI n), .ref (ad 1)]) S hK hI kX6_58 (c_X6_newItem_num l D ad _ _ n z k hz hp h3 (wX_no1 h60 (by omega)) (wX_no2 h60 (by omega)) (cl_item hV hbk h60 enS).1 (cl_item hV hbk h60 enS).2) ⟨Nat.le_of_ble_eq_true rfl, Nat.le_of_ble_eq_true rfl⟩ ⟨Nat.le_of_ble_eq_true rfl, Nat.le_of_ble_eq_true rfl⟩ rfl hl.1 rfl (Nat.le_of_ble_eq_true rfl) dX6_make_69) hI (fun ad H locs had hI => ?_)
              refine W_stk (st' := [.ref (ad (100 + n)), .int (nI n), .ref (ad 1)]) (by rw [had 1 _ wX_1]; rfl) ?_
              have hl : lv_has ls 4 [(3, .int (nI n)), (0, .ref (ad 0)), (1, .int k), (2, .int (nI z))] := by rw [had 0 _ wX_0]; exact hl
              refine tw_aast S hK hI (t := 1) ((va_up_ne _ _ (show 1 ≠ 100 + n by omega)).trans ((va_up_ne _ _ (show 1 ≠ 200 + n by omega)).trans wX_1)) (k := 4) rfl (vp_in_nI h60 (by decide)) (some (100 + n)) rfl (fun y e => by cases e; exact tw_any hK hI (va_up_self _ _ _) rfl (Or.inl (tw_memN (by decide +kernel) rfl))) dX6_make_72 (fun H locs hI => ?_)
              rw [show (nI n).toNatClampNeg = n from nI_clamp (by omega)] at hI
              refine lv_aload_n hx hb dX6_make_73 rfl (lv_at hl 1 rfl) ?_
              refine lv_dup hx hb dX6_make_74 rfl ?_
              refine f6_21_6 S hK hI ((va_up_ne _ _ (show 0 ≠ 1 by decide)).trans ((va_up_ne _ _ (show 0 ≠ 100 + n by omega)).trans ((va_up_ne _ _ (show 0 ≠ 200 + n by omega)).trans wX_0))) rfl (v' := .int (σ.1 0 0)) rfl dX6_make_75 ?_
              refine lv_eqi (v := nI n) en ?_
              refine lv_iconst (v := 1) hx hb dX6_make_78 (by decide) ?_
              refine lv_iadd hx hb dX6_make_79 ?_
              refine lv_eqi (v := (nI (n + 1))) (nA (a := n) (b := 1) (c := n + 1) (by omega)) ?_
              refine p6_21_6 S hK hI ((va_up_ne _ _ (show 0 ≠ 1 by decide)).trans ((va_up_ne _ _ (show 0 ≠ 100 + n by omega)).trans ((va_up_ne _ _ (show 0 ≠ 200 + n by omega)).trans wX_0))) (v := .int (nI (n + 1))) rfl rfl rfl (Nat.le_of_ble_eq_true rfl) dX6_make_80 (fun H locs hI => ?_)
              rw [wX_make h60 enS (new_num hz (num_3 h3)).1 (new_num hz (num_3 h3)).2] at hI
              refine lv_aload_n hx hb dX6_make_83 rfl (lv_at hl 1 rfl) ?_
              refine lv_iload_n hx hb dX6_make_84 rfl (lv_at hl 0 rfl) ?_
              refine tw_calli (tw_rV (As := [.int (nI n)]) (rest := []) S hK hI kX6_62 (c_X6_accept l D ad _ _ _ _ _ _) wX_0 rfl rfl ⟨Nat.le_of_ble_eq_true rfl, Nat.le_of_ble_eq_true rfl⟩ ⟨Nat.le_of_ble_eq_true rfl, Nat.le_of_ble_eq_true rfl⟩ rfl hl.1 rfl (Nat.le_of_ble_eq_true rfl) dX6_make_85) hI (fun H locs hI => ?_)
              refine lv_topi (fun x8 e8 => ?_)
              subst e8
              subst e3
              rw [mk_row h0 h12 hp hz, mkB_ok h60]
              refine W.widen (k := 2) (n := 6) (Nat.le_of_ble_eq_true rfl) (Nat.le_of_ble_eq_true rfl) ?_
              exact W.iret S.1 S.2.1 hr (fun t ht _ => tw_retN (r := fun _ => some (.int (nI n))) hI (fun t ε h => had t ε h) ht) hI.2.2.1.2.2 dX6_make_88 hlocks
            · exact absurd (nI_lt h60 (by decide)) c7
          · exact absurd (nI_le (b := 3) hz (by decide)) c6
    · exact absurd h12 c2

set_option maxHeartbeats 2000000 in
set_option maxRecDepth 100000 in
theorem c_X6_make_th (l : Launch) (D : tw_G) (ad : Nat → Nat) (b : tw_W) (σ : Sg) (h : Int32) (Q : Nat → Int32) (sz : Nat) (n : Nat) (k : Int32) (z B : Nat) (hV : INV σ B) (hbk : b_ok b) (h0 : ¬ k < 0) (h12 : k ≤ 12) (hp : isPieceF k = 0) (hz : z ≤ 3) (h3 : 3 < k) (en : σ.1 0 0 = nI n) (enS : nS σ = n) (h60 : n < 60) : Met l yX6_make (tw_w yX6_make cX6_make 4 (some .int)) (tw_R 4 2 6) (tw_Pc D ad (wX b σ h Q) sz [.ref (ad 0), .int k, .int (nI z)]) (tw_Qn D ad (wX b σ h Q) (wX b (makeM σ n k (nI z)).2 h Q) (tw_A ad (wX b σ h Q) sz) (fun _ => some (.int (makeM σ n k (nI z)).1))) 2 6 (tw_A ad (wX b σ h Q) sz) := by
  refine tw_met (by decide) rfl (by simp [lg_sl, Value.category]) (fun p e s m below meth c ls S hK hr hlocks hnm hsz hI hl => ?_)
  have hx := S.1
  have hb := S.2.1
  have hl : lv_has ls 4 [(0, .ref (ad 0)), (1, .int k), (2, .int (nI z))] := hl
  refine lv_iload_n hx hb dX6_make_0 rfl (lv_at hl 1 rfl) ?_
  refine lv_if_lt (tgt := 10) hx hb dX6_make_1 (by decide) (fun c1 => ?_) (fun c1 => ?_)
  · exact absurd c1 h0
  · refine lv_iload_n hx hb dX6_make_4 rfl (lv_at hl 1 rfl) ?_
    refine lv_bipush (v := 12) hx hb dX6_make_5 (by decide) ?_
    refine lv_icmp_le (tgt := 17) hx hb dX6_make_7 (by decide) (fun c2 => ?_) (fun c2 => ?_)
    · refine lv_iload_n hx hb dX6_make_17 rfl (lv_at hl 1 rfl) ?_
      refine tw_calli (tw_rS (As := [.int k]) (rest := []) S hK hI kX6_54 (c_X6_isPiece l D ad _ _ _) ⟨Nat.le_of_ble_eq_true rfl, Nat.le_of_ble_eq_true rfl⟩ ⟨Nat.le_of_ble_eq_true rfl, Nat.le_of_ble_eq_true rfl⟩ rfl hl.1 rfl (Nat.le_of_ble_eq_true rfl) dX6_make_18) hI (fun H locs hI => ?_)
      refine lv_topi (fun x3 e3 => ?_)
      refine lv_if_ne (tgt := 40) hx hb dX6_make_21 (by decide) (fun c4 => ?_) (fun c4 => ?_)
      · exact (by subst e3; exact absurd hp c4)
      · refine lv_iload_n hx hb dX6_make_24 rfl (lv_at hl 2 rfl) ?_
        refine lv_if_lt (tgt := 33) hx hb dX6_make_25 (by decide) (fun c5 => ?_) (fun c5 => ?_)
        · exact absurd c5 (nI_pos (by omega))
        · refine lv_iload_n hx hb dX6_make_28 rfl (lv_at hl 2 rfl) ?_
          refine lv_iconst (v := 3) hx hb dX6_make_29 (by decide) ?_
          refine lv_icmp_le (tgt := 40) hx hb dX6_make_30 (by decide) (fun c6 => ?_) (fun c6 => ?_)
          · refine lv_aload_n hx hb dX6_make_40 rfl (lv_at hl 0 rfl) ?_
            refine gx_21 S hK hI dX6_make_41 ?_
            refine lv_eqi (v := (nI n)) en ?_
            refine lv_bipush (v := 60) hx hb dX6_make_44 (by decide) ?_
            refine lv_icmp_lt (tgt := 56) hx hb dX6_make_46 (by decide) (fun c7 => ?_) (fun c7 => ?_)
            · refine lv_aload_n hx hb dX6_make_56 rfl (lv_at hl 0 rfl) ?_
              refine gx_21 S hK hI dX6_make_57 ?_
              refine lv_eqi (v := (nI n)) en ?_
              refine lv_istore_n (lv' := [(3, .int (nI n)), (0, .ref (ad 0)), (1, .int k), (2, .int (nI z))]) hx hb dX6_make_60 rfl hl (by decide) rfl (fun ls hl => ?_)
              refine lv_aload_n hx hb dX6_make_61 rfl (lv_at hl 1 rfl) ?_
              refine gx_11 S hK hI dX6_make_62 ?_
              refine lv_iload_n hx hb dX6_make_65 rfl (lv_at hl 0 rfl) ?_
              refine lv_iload_n hx hb dX6_make_66 rfl (lv_at hl 0 rfl) ?_
              refine lv_iload_n hx hb dX6_make_67 rfl (lv_at hl 2 rfl) ?_
              refine lv_iload_n hx hb dX6_make_68 rfl (lv_at hl 3 rfl) ?_
              refine tw_callN (tw_rS (As := [.int (nI n), .int k, .int (nI z)]) (rest := [.int (nI n), .ref (ad 1)]) S hK hI kX6_58 (c_X6_newItem_th l D ad _ _ n z k hz hp h3 (wX_no1 h60 (by omega)) (wX_no2 h60 (by omega)) (cl_item hV hbk h60 enS).1 (cl_item hV hbk h60 enS).2) ⟨Nat.le_of_ble_eq_true rfl, Nat.le_of_ble_eq_true rfl⟩ ⟨Nat.le_of_ble_eq_true rfl, Nat.le_of_ble_eq_true rfl⟩ rfl hl.1 rfl (Nat.le_of_ble_eq_true rfl) dX6_make_69) hI (fun ad H locs had hI => ?_)
              refine W_stk (st' := [.ref (ad (100 + n)), .int (nI n), .ref (ad 1)]) (by rw [had 1 _ wX_1]; rfl) ?_
              have hl : lv_has ls 4 [(3, .int (nI n)), (0, .ref (ad 0)), (1, .int k), (2, .int (nI z))] := by rw [had 0 _ wX_0]; exact hl
              refine tw_aast S hK hI (t := 1) ((va_up_ne _ _ (show 1 ≠ 100 + n by omega)).trans ((va_up_ne _ _ (show 1 ≠ 200 + n by omega)).trans wX_1)) (k := 4) rfl (vp_in_nI h60 (by decide)) (some (100 + n)) rfl (fun y e => by cases e; exact tw_any hK hI (va_up_self _ _ _) rfl (Or.inl (tw_memN (by decide +kernel) rfl))) dX6_make_72 (fun H locs hI => ?_)
              rw [show (nI n).toNatClampNeg = n from nI_clamp (by omega)] at hI
              refine lv_aload_n hx hb dX6_make_73 rfl (lv_at hl 1 rfl) ?_
              refine lv_dup hx hb dX6_make_74 rfl ?_
              refine f6_21_6 S hK hI ((va_up_ne _ _ (show 0 ≠ 1 by decide)).trans ((va_up_ne _ _ (show 0 ≠ 100 + n by omega)).trans ((va_up_ne _ _ (show 0 ≠ 200 + n by omega)).trans wX_0))) rfl (v' := .int (σ.1 0 0)) rfl dX6_make_75 ?_
              refine lv_eqi (v := nI n) en ?_
              refine lv_iconst (v := 1) hx hb dX6_make_78 (by decide) ?_
              refine lv_iadd hx hb dX6_make_79 ?_
              refine lv_eqi (v := (nI (n + 1))) (nA (a := n) (b := 1) (c := n + 1) (by omega)) ?_
              refine p6_21_6 S hK hI ((va_up_ne _ _ (show 0 ≠ 1 by decide)).trans ((va_up_ne _ _ (show 0 ≠ 100 + n by omega)).trans ((va_up_ne _ _ (show 0 ≠ 200 + n by omega)).trans wX_0))) (v := .int (nI (n + 1))) rfl rfl rfl (Nat.le_of_ble_eq_true rfl) dX6_make_80 (fun H locs hI => ?_)
              rw [wX_make h60 enS (new_th hz (num_4 h3) (pc_row hp)).1 (new_th hz (num_4 h3) (pc_row hp)).2] at hI
              refine lv_aload_n hx hb dX6_make_83 rfl (lv_at hl 1 rfl) ?_
              refine lv_iload_n hx hb dX6_make_84 rfl (lv_at hl 0 rfl) ?_
              refine tw_calli (tw_rV (As := [.int (nI n)]) (rest := []) S hK hI kX6_62 (c_X6_accept l D ad _ _ _ _ _ _) wX_0 rfl rfl ⟨Nat.le_of_ble_eq_true rfl, Nat.le_of_ble_eq_true rfl⟩ ⟨Nat.le_of_ble_eq_true rfl, Nat.le_of_ble_eq_true rfl⟩ rfl hl.1 rfl (Nat.le_of_ble_eq_true rfl) dX6_make_85) hI (fun H locs hI => ?_)
              refine lv_topi (fun x8 e8 => ?_)
              subst e8
              subst e3
              rw [mk_row h0 h12 hp hz, mkB_ok h60]
              refine W.widen (k := 2) (n := 6) (Nat.le_of_ble_eq_true rfl) (Nat.le_of_ble_eq_true rfl) ?_
              exact W.iret S.1 S.2.1 hr (fun t ht _ => tw_retN (r := fun _ => some (.int (nI n))) hI (fun t ε h => had t ε h) ht) hI.2.2.1.2.2 dX6_make_88 hlocks
            · exact absurd (nI_lt h60 (by decide)) c7
          · exact absurd (nI_le (b := 3) hz (by decide)) c6
    · exact absurd h12 c2

theorem c_X6_make (l : Launch) (D : tw_G) (ad : Nat → Nat) (b : tw_W) (σ : Sg) (h : Int32) (Q : Nat → Int32) (sz : Nat) (k z : Int32) (B : Nat) (hV : INV σ B) (hbk : b_ok b) : Met l yX6_make (tw_w yX6_make cX6_make 4 (some .int)) (tw_R 4 2 6) (tw_Pc D ad (wX b σ h Q) sz [.ref (ad 0), .int k, .int z]) (tw_Qn D ad (wX b σ h Q) (wX b (makeM σ (nS σ) k z).2 h Q) (tw_A ad (wX b σ h Q) sz) (fun _ => some (.int (makeM σ (nS σ) k z).1))) 2 6 (tw_A ad (wX b σ h Q) sz) := by
  have hn := okN hV.1
  by_cases hk : k < 0 ∨ ¬ k ≤ 12
  · exact c_X6_make_kind l D ad b σ h Q sz (nS σ) k z (fun h1 => hk.elim (fun q => absurd q h1) id)
  · have h0 : ¬ k < 0 := fun q => hk (Or.inl q)
    have h12 : k ≤ 12 := Classical.byContradiction (fun q => hk (Or.inr q))
    by_cases hp : isPieceF k = 0
    · rcases z_4 z with hz | ⟨z, hz, rfl⟩
      · exact c_X6_make_size l D ad b σ h Q sz (nS σ) k z h0 h12 hp (fun h1 h2 => hz.elim (fun q => absurd q h1) (fun q => by
          rw [Int32.le_iff_toInt_le] at q h2
          have e1 : (nI 4 : Int32).toInt = 4 := by decide
          have e2 : (3 : Int32).toInt = 3 := by decide
          omega))
      · rcases Nat.lt_or_ge (nS σ) 60 with h60 | h60
        · by_cases h3 : 3 < k
          · exact c_X6_make_th l D ad b σ h Q sz (nS σ) k z B hV hbk h0 h12 hp (by omega) h3 hn.2 rfl h60
          · exact c_X6_make_num l D ad b σ h Q sz (nS σ) k z B hV hbk h0 h12 hp (by omega) h3 hn.2 rfl h60
        · have e60 : nS σ = 60 := by omega
          rw [e60]
          exact c_X6_make_full l D ad b σ h Q sz k z h0 h12 hp (by omega) (by rw [hn.2, e60]; rfl)
    · rcases Nat.lt_or_ge (nS σ) 60 with h60 | h60
      · exact c_X6_make_one l D ad b σ h Q sz (nS σ) k z B hV hbk h0 h12 hp hn.2 rfl h60
      · have e60 : nS σ = 60 := by omega
        rw [e60]
        exact c_X6_make_full1 l D ad b σ h Q sz k z h0 h12 hp (by rw [hn.2, e60]; rfl)