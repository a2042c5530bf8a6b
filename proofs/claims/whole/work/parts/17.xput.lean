/-! the class: put, get, at, is, stamps, count, out, refused -/
theorem and16 (v : Int64) : v &&& 65535 = lN (v.toBitVec.toNat % 65536) := by
  apply Int64.toBitVec_inj.mp
  apply BitVec.eq_of_toNat_eq
  rw [Int64.toBitVec_and, BitVec.toNat_and, show (65535 : Int64).toBitVec.toNat = 2 ^ 16 - 1 by decide, Nat.and_two_pow_sub_one_eq_mod]
  show _ = (BitVec.ofNat 64 _).toNat
  rw [BitVec.toNat_ofNat]
  have := Nat.mod_lt v.toBitVec.toNat (show 0 < 65536 by decide)
  rw [Nat.mod_eq_of_lt (show v.toBitVec.toNat % 65536 < 2 ^ 64 by omega)]
theorem char16 (v : Int64) : (v.toInt32.toUInt32 % 65536).toInt32.toInt64 = v &&& 65535 := by
  rw [pk_char, nI_l (Nat.lt_trans (Nat.mod_lt _ (by decide)) (by decide)), and16]
  congr 1
  have e : v.toInt32.toBitVec.toNat = v.toBitVec.toNat % 2 ^ 32 := by
    rw [Int64.toBitVec_toInt32]
    first
      | (rw [BitVec.signExtend_eq_setWidth_of_le _ (by decide), BitVec.toNat_setWidth]; done)
      | (unfold BitVec.signExtend; rw [BitVec.toNat_ofInt, BitVec.toInt_eq_toNat_cond]; have := v.toBitVec.isLt; split <;> omega)
  rw [e]
  omega
theorem fit_kept {a : Nat} (ha : a ≤ 3) (v : Int64) : fitX (nI a) v = keptF (nI a) v := by
  rcases (show a = 0 ∨ a = 1 ∨ a = 2 ∨ a = 3 by omega) with rfl | rfl | rfl | rfl
  · exact char16 v
  · rfl
  · rfl
  · rfl
def okKd (σ : Sg) : Prop := ∀ k : Nat, k < nS σ → ∃ a : Nat, a ≤ 12 ∧ σ.1 1 k = nI a
theorem fit_k {σ : Sg} (hkd : okKd σ) {k : Nat} (hn : k < nS σ) (hN : isNumK (σ.1 1 k) = true) (v : Int64) : fitX (σ.1 1 k) v = keptF (σ.1 1 k) v := by
  obtain ⟨a, ha, e⟩ := hkd k hn
  rw [e] at hN ⊢
  have h := numK hN
  rw [show (3 : Int32) = nI 3 from rfl, nI_ltI (by decide) (by omega)] at h
  exact fit_kept (by omega) v
def readX (v : Int64) : Int32 := (if (if 2147483647 < v then 2147483647 else v) < -2147483648 then -2147483648 else (if 2147483647 < v then 2147483647 else v)).toInt32
theorem read_get {v : Int64} (h : -2147483648 ≤ v.toInt) : readX v = getV v := by
  unfold readX getV
  have e1 : (2147483647 : Int64).toInt = 2147483647 := by decide
  have e2 : (-2147483648 : Int64).toInt = -2147483648 := by decide
  by_cases c : 2147483647 < v
  · rw [if_pos c, if_neg (by decide), if_neg]
    · decide
    · rw [lg_cmp_le, Int64.le_iff_toInt_le]
      rw [Int64.lt_iff_toInt_lt] at c
      omega
  · rw [if_neg c, if_neg, if_pos]
    · rw [lg_cmp_le, Int64.le_iff_toInt_le]
      rw [Int64.lt_iff_toInt_lt] at c
      omega
    · rw [Int64.lt_iff_toInt_lt]; omega
theorem isOf_goes : ∀ (a : Fin 13) (b : Fin 14), isOfX (nI a) (nI b) = goesF (nI a) (nI b) := by decide +kernel
theorem isOf_g {σ : Sg} (hkd : okKd σ) {k : Nat} (hn : k < nS σ) {f : Int32} (hf : ¬ isInF f 0 13 = 0) : isOfX (σ.1 1 k) f = goesF (σ.1 1 k) f := by
  obtain ⟨a, ha, e⟩ := hkd k hn
  obtain ⟨b, hb, rfl⟩ := vp_in_of (in_of_isIn (n := 14) (N := 14) hf (Nat.le_refl _) (by decide)) (by decide)
  rw [e]
  exact isOf_goes ⟨a, by omega⟩ ⟨b, hb⟩
theorem is_none {σ : Sg} {t f : Int32} (hok : okM σ) (h : noItem σ t) : isM σ t f = (-2, refuseM σ (-2)) := by
  unfold isM
  rw [if_pos (item_no (okM_acc hok) h), refuse_acc]
theorem is_bad {σ : Sg} {k : Nat} {f : Int32} (hok : okM σ) (h : k < nS σ) (hf : isFormF f = 0) : isM σ (nI k) f = (-2, refuseM σ (-2)) := by
  unfold isM
  rw [if_neg (item_yes (okM_acc hok) h), if_pos (show isInF f 0 13 = 0 from hf), refuse_acc]
theorem is_ok {σ : Sg} {k : Nat} {f : Int32} (hok : okM σ) (hkd : okKd σ) (h : k < nS σ) (h6 : k < 60) (hf : ¬ isFormF f = 0) : isM σ (nI k) f = if isOfX (σ.1 1 k) f = 0 then (0, acc σ) else (1, acc σ) := by
  unfold isM
  rw [if_neg (item_yes (okM_acc hok) h), if_neg (show ¬ isInF f 0 13 = 0 from hf), ixn (by omega), isOf_g hkd h hf]
  rfl
def okT (σ : Sg) : Prop := ∀ k : Nat, k < nS σ → isNumF (σ.1 1 k) = 0 → ∀ i : Nat, i < szS σ k → σ.2 (3 * k + i) = -1 ∨ ∃ q : Nat, q < nS σ ∧ σ.2 (3 * k + i) = lN q ∧ ¬ goesF (σ.1 1 q) (holdsF (σ.1 1 k)) = 0
theorem decL_lN {q : Nat} (h : q < 2 ^ 31) : decL (lN q) = some q := by
  unfold decL
  rw [lN_toInt h, if_neg (by omega)]
  rfl
theorem decL_m1 : decL (-1) = none := by decide
theorem dec_nI {q : Nat} (h : q < 2 ^ 31) : dec (nI q) = some q := by
  unfold dec
  rw [if_neg (nI_pos h), ixn h]
theorem dec_m1 : dec (-1) = none := by decide
theorem cell_or {σ : Sg} (hok : okM σ) (hT : okT σ) {k i : Nat} (hn : k < nS σ) (hN : isNumK (σ.1 1 k) = false) (hi : i < szS σ k) : (σ.2 (3 * k + i) = -1 ∧ decL (σ.2 (3 * k + i)) = none) ∨ ∃ q : Nat, q < nS σ ∧ q < 60 ∧ σ.2 (3 * k + i) = lN q ∧ decL (σ.2 (3 * k + i)) = some q := by
  have h6 := (okN hok).1
  rcases hT k hn (numF0 hN) i hi with e | ⟨q, hq, e, -⟩
  · exact Or.inl ⟨e, by rw [e]; exact decL_m1⟩
  · exact Or.inr ⟨q, hq, by omega, e, by rw [e]; exact decL_lN (by omega)⟩
def okL (σ : Sg) : Prop := ∀ k : Nat, k < nS σ → isNumK (σ.1 1 k) = true → ∀ i : Nat, i < szS σ k → -2147483648 ≤ (σ.2 (3 * k + i)).toInt

set_option maxHeartbeats 2000000 in
set_option maxRecDepth 100000 in
theorem c_X2_write (l : Launch) (D : tw_G) (ad : Nat → Nat) (b : tw_W) (σ : Sg) (h : Int32) (Q : Nat → Int32) (sz : Nat) (k i : Nat) (v : Int32) (hn : k < nS σ) (h6 : k < 60) (hN : isNumK (σ.1 1 k) = true) (hi : i < szS σ k) (hz : szS σ k ≤ 3) : Met l yX2_write (tw_w yX2_write cX2_write 3 none) (tw_R 1 0 0) (tw_Pc D ad (wX b σ h Q) sz [.ref (ad (100 + k)), .int (nI i), .int v]) (tw_Q D ad (wX b (sC σ (3 * k + i) (fitX (σ.1 1 k) v.toInt64)) h Q) (tw_A ad (wX b σ h Q) sz) none) 0 0 (tw_A ad (wX b σ h Q) sz) := by
  refine tw_met (by decide) rfl (by simp [lg_sl, Value.category]) (fun p e s m below meth c ls S hK hr hlocks hnm hsz hI hl => ?_)
  have hx := S.1
  have hb := S.2.1
  have hl : lv_has ls 3 [(0, .ref (ad (100 + k))), (1, .int (nI i)), (2, .int v)] := hl
  refine lv_aload_n hx hb dX2_write_0 rfl (lv_at hl 0 rfl) ?_
  refine f2_9_2 S hK hI (xI_num hn h6 hN) rfl (v' := .ref (ad (200 + k))) rfl dX2_write_1 ?_
  refine lv_iload_n hx hb dX2_write_4 rfl (lv_at hl 1 rfl) ?_
  refine lv_aload_n hx hb dX2_write_5 rfl (lv_at hl 0 rfl) ?_
  refine lv_iload_n hx hb dX2_write_6 rfl (lv_at hl 2 rfl) ?_
  refine lv_i2l hx hb dX2_write_7 rfl ?_
  refine lv_topl (fun x1 e1 => ?_)
  refine tw_calll (tw_rV (As := [.long x1]) (rest := [.int (nI i), .ref (ad (200 + k))]) S hK hI kX2_15 (c_X2_fit l D ad _ _ _ _ _ _ _ hn h6 hN) (xI_num hn h6 hN) rfl rfl ⟨Nat.le_of_ble_eq_true rfl, Nat.le_of_ble_eq_true rfl⟩ ⟨Nat.le_of_ble_eq_true rfl, Nat.le_of_ble_eq_true rfl⟩ rfl hl.1 rfl (Nat.le_of_ble_eq_true rfl) dX2_write_8) hI (fun H locs hI => ?_)
  refine lv_topl (fun x2 e2 => ?_)
  refine xs_num (k := k) (i := i) S hK hI hn h6 hN hi (by omega) (by omega) dX2_write_11 (fun H locs hI => ?_)
  subst e2
  subst e1
  exact tw_vret S hr hlocks hI dX2_write_12

set_option maxHeartbeats 2000000 in
set_option maxRecDepth 100000 in
theorem c_X2_read (l : Launch) (D : tw_G) (ad : Nat → Nat) (b : tw_W) (σ : Sg) (h : Int32) (Q : Nat → Int32) (sz : Nat) (k i : Nat) (hn : k < nS σ) (h6 : k < 60) (hN : isNumK (σ.1 1 k) = true) (hi : i < szS σ k) (hz : szS σ k ≤ 3) : Met l yX2_read (tw_w yX2_read cX2_read 2 (some .int)) (tw_R 1 0 0) (tw_Pc D ad (wX b σ h Q) sz [.ref (ad (100 + k)), .int (nI i)]) (tw_Q D ad (wX b (σ) h Q) (tw_A ad (wX b σ h Q) sz) (some (.int (readX (σ.2 (3 * k + i)))))) 0 0 (tw_A ad (wX b σ h Q) sz) := by
  refine tw_met (by decide) rfl (by simp [lg_sl, Value.category]) (fun p e s m below meth c ls S hK hr hlocks hnm hsz hI hl => ?_)
  have hx := S.1
  have hb := S.2.1
  have hl : lv_has ls 2 [(0, .ref (ad (100 + k))), (1, .int (nI i))] := hl
  refine lv_ldc2 (own := RX2) (v := (-2147483648)) hx hb S.2.2.2.1 (S.2.2.2.2 _ (tw_mem (by decide +kernel) rfl)) dX2_read_0 ?_
  refine lv_aload_n hx hb dX2_read_3 rfl (lv_at hl 0 rfl) ?_
  refine f2_9_2 S hK hI (xI_num hn h6 hN) rfl (v' := .ref (ad (200 + k))) rfl dX2_read_4 ?_
  refine lv_iload_n hx hb dX2_read_7 rfl (lv_at hl 1 rfl) ?_
  refine xl_num (k := k) (i := i) S hK hI hn h6 hN hi (by omega) (by omega) dX2_read_8 ?_
  refine lv_topl (fun x1 e1 => ?_)
  refine lv_ldc2 (own := RX2) (v := 2147483647) hx hb S.2.2.2.1 (S.2.2.2.2 _ (tw_mem (by decide +kernel) rfl)) dX2_read_9 ?_
  refine va_mmin_long hx hb (by rw [S.2.2.1]; exact hl.1.symm) S.2.2.2.1 (S.2.2.2.2 _ (tw_mem (by decide +kernel) rfl)) (S.2.2.2.2 _ (tw_mem (by decide +kernel) rfl)) (S.2.2.2.2 _ (tw_mem (by decide +kernel) rfl)) (S.2.2.2.2 _ (tw_mem (by decide +kernel) rfl)) (by decide) (by decide) (by decide) (by decide) dX2_read_12 ?_
  refine lv_topl (fun x2 e2 => ?_)
  refine va_mmax_long hx hb (by rw [S.2.2.1]; exact hl.1.symm) S.2.2.2.1 (S.2.2.2.2 _ (tw_mem (by decide +kernel) rfl)) (S.2.2.2.2 _ (tw_mem (by decide +kernel) rfl)) (S.2.2.2.2 _ (tw_mem (by decide +kernel) rfl)) (S.2.2.2.2 _ (tw_mem (by decide +kernel) rfl)) (by decide) (by decide) (by decide) (by decide) dX2_read_15 ?_
  refine lv_topl (fun x3 e3 => ?_)
  refine lv_l2i hx hb dX2_read_18 rfl ?_
  refine lv_topi (fun x4 e4 => ?_)
  subst e4
  subst e3
  subst e2
  subst e1
  unfold readX
  exact tw_iret S hr hlocks hI dX2_read_19

set_option maxHeartbeats 2000000 in
set_option maxRecDepth 100000 in
theorem c_X6_put_none (l : Launch) (D : tw_G) (ad : Nat → Nat) (b : tw_W) (σ : Sg) (h : Int32) (Q : Nat → Int32) (sz : Nat) (t i : Int32) (v : Int32) (hok : okM σ) (hkd : okKd σ) (hv : noItem σ t) : Met l yX6_put (tw_w yX6_put cX6_put 5 (some .int)) (tw_R 4 0 0) (tw_Pc D ad (wX b σ h Q) sz [.ref (ad 0), .int t, .int i, .int v]) (tw_Q D ad (wX b ((putM σ t i v).2) h Q) (tw_A ad (wX b σ h Q) sz) (some (.int (putM σ t i v).1))) 0 0 (tw_A ad (wX b σ h Q) sz) := by
  refine tw_met (by decide) rfl (by simp [lg_sl, Value.category]) (fun p e s m below meth c ls S hK hr hlocks hnm hsz hI hl => ?_)
  have hx := S.1
  have hb := S.2.1
  have hl : lv_has ls 5 [(0, .ref (ad 0)), (1, .int t), (2, .int i), (3, .int v)] := hl
  refine lv_aload_n hx hb dX6_put_0 rfl (lv_at hl 0 rfl) ?_
  refine lv_iload_n hx hb dX6_put_1 rfl (lv_at hl 1 rfl) ?_
  refine lv_iload_n hx hb dX6_put_2 rfl (lv_at hl 2 rfl) ?_
  refine tw_calla (tw_rV (As := [.int t, .int i]) (rest := []) S hK hI kX6_65 (c_X6_numberRow_none l D ad _ _ _ _ _ _ _ hok hv) wX_0 rfl rfl ⟨Nat.le_of_ble_eq_true rfl, Nat.le_of_ble_eq_true rfl⟩ ⟨Nat.le_of_ble_eq_true rfl, Nat.le_of_ble_eq_true rfl⟩ rfl hl.1 rfl (Nat.le_of_ble_eq_true rfl) dX6_put_3) hI (fun H locs hI => ?_)
  refine lv_astoreN (lv' := [(4, .null), (0, .ref (ad 0)), (1, .int t), (2, .int i), (3, .int v)]) hx hb dX6_put_6 hl (by decide) rfl (fun ls hl => ?_)
  refine lv_aloadN hx hb dX6_put_8 (lv_at hl 0 rfl) ?_
  refine lv_ifnonnullN hx hb dX6_put_10 ?_
  refine lv_aload_n hx hb dX6_put_13 rfl (lv_at hl 1 rfl) ?_
  refine gx_34 S hK hI dX6_put_14 ?_
  refine lv_topi (fun x1 e1 => ?_)
  subst e1
  rw [put_none hok hv]
  exact tw_iret S hr hlocks hI dX6_put_17

set_option maxHeartbeats 2000000 in
set_option maxRecDepth 100000 in
theorem c_X6_get_none (l : Launch) (D : tw_G) (ad : Nat → Nat) (b : tw_W) (σ : Sg) (h : Int32) (Q : Nat → Int32) (sz : Nat) (t i : Int32) (hok : okM σ) (hL : okL σ) (hv : noItem σ t) : Met l yX6_get (tw_w yX6_get cX6_get 4 (some .int)) (tw_R 4 0 0) (tw_Pc D ad (wX b σ h Q) sz [.ref (ad 0), .int t, .int i]) (tw_Q D ad (wX b ((getM σ t i).2) h Q) (tw_A ad (wX b σ h Q) sz) (some (.int (getM σ t i).1))) 0 0 (tw_A ad (wX b σ h Q) sz) := by
  refine tw_met (by decide) rfl (by simp [lg_sl, Value.category]) (fun p e s m below meth c ls S hK hr hlocks hnm hsz hI hl => ?_)
  have hx := S.1
  have hb := S.2.1
  have hl : lv_has ls 4 [(0, .ref (ad 0)), (1, .int t), (2, .int i)] := hl
  refine lv_aload_n hx hb dX6_get_0 rfl (lv_at hl 0 rfl) ?_
  refine lv_iload_n hx hb dX6_get_1 rfl (lv_at hl 1 rfl) ?_
  refine lv_iload_n hx hb dX6_get_2 rfl (lv_at hl 2 rfl) ?_
  refine tw_calla (tw_rV (As := [.int t, .int i]) (rest := []) S hK hI kX6_65 (c_X6_numberRow_none l D ad _ _ _ _ _ _ _ hok hv) wX_0 rfl rfl ⟨Nat.le_of_ble_eq_true rfl, Nat.le_of_ble_eq_true rfl⟩ ⟨Nat.le_of_ble_eq_true rfl, Nat.le_of_ble_eq_true rfl⟩ rfl hl.1 rfl (Nat.le_of_ble_eq_true rfl) dX6_get_3) hI (fun H locs hI => ?_)
  refine lv_astore_nN (lv' := [(3, .null), (0, .ref (ad 0)), (1, .int t), (2, .int i)]) hx hb dX6_get_6 rfl hl (by decide) rfl (fun ls hl => ?_)
  refine lv_aload_nN hx hb dX6_get_7 rfl (lv_at hl 0 rfl) ?_
  refine lv_ifnonnullN hx hb dX6_get_8 ?_
  refine lv_iconst (v := 0) hx hb dX6_get_11 (by decide) ?_
  refine lv_goto (tgt := 24) hx hb dX6_get_12 (by decide) ?_
  rw [get_none hok hv]
  exact tw_iret S hr hlocks hI dX6_get_24

set_option maxHeartbeats 2000000 in
set_option maxRecDepth 100000 in
theorem c_X6_put_one (l : Launch) (D : tw_G) (ad : Nat → Nat) (b : tw_W) (σ : Sg) (h : Int32) (Q : Nat → Int32) (sz : Nat) (k : Nat) (i : Int32) (v : Int32) (hok : okM σ) (hkd : okKd σ) (hn : k < nS σ) (h6 : k < 60) (hN : isNumK (σ.1 1 k) = false) (hO : isOneK (σ.1 1 k) = true) : Met l yX6_put (tw_w yX6_put cX6_put 5 (some .int)) (tw_R 4 0 0) (tw_Pc D ad (wX b σ h Q) sz [.ref (ad 0), .int (nI k), .int i, .int v]) (tw_Q D ad (wX b ((putM σ (nI k) i v).2) h Q) (tw_A ad (wX b σ h Q) sz) (some (.int (putM σ (nI k) i v).1))) 0 0 (tw_A ad (wX b σ h Q) sz) := by
  refine tw_met (by decide) rfl (by simp [lg_sl, Value.category]) (fun p e s m below meth c ls S hK hr hlocks hnm hsz hI hl => ?_)
  have hx := S.1
  have hb := S.2.1
  have hl : lv_has ls 5 [(0, .ref (ad 0)), (1, .int (nI k)), (2, .int i), (3, .int v)] := hl
  refine lv_aload_n hx hb dX6_put_0 rfl (lv_at hl 0 rfl) ?_
  refine lv_iload_n hx hb dX6_put_1 rfl (lv_at hl 1 rfl) ?_
  refine lv_iload_n hx hb dX6_put_2 rfl (lv_at hl 2 rfl) ?_
  refine tw_calla (tw_rV (As := [.int (nI k), .int i]) (rest := []) S hK hI kX6_65 (c_X6_numberRow_one l D ad _ _ _ _ _ _ _ hn h6 hN hO) wX_0 rfl rfl ⟨Nat.le_of_ble_eq_true rfl, Nat.le_of_ble_eq_true rfl⟩ ⟨Nat.le_of_ble_eq_true rfl, Nat.le_of_ble_eq_true rfl⟩ rfl hl.1 rfl (Nat.le_of_ble_eq_true rfl) dX6_put_3) hI (fun H locs hI => ?_)
  refine lv_astoreN (lv' := [(4, .null), (0, .ref (ad 0)), (1, .int (nI k)), (2, .int i), (3, .int v)]) hx hb dX6_put_6 hl (by decide) rfl (fun ls hl => ?_)
  refine lv_aloadN hx hb dX6_put_8 (lv_at hl 0 rfl) ?_
  refine lv_ifnonnullN hx hb dX6_put_10 ?_
  refine lv_aload_n hx hb dX6_put_13 rfl (lv_at hl 1 rfl) ?_
  refine gx_34 S hK hI dX6_put_14 ?_
  refine lv_topi (fun x1 e1 => ?_)
  subst e1
  rw [put_cast hok hn h6 hN]
  exact tw_iret S hr hlocks hI dX6_put_17

set_option maxHeartbeats 2000000 in
set_option maxRecDepth 100000 in
theorem c_X6_get_one (l : Launch) (D : tw_G) (ad : Nat → Nat) (b : tw_W) (σ : Sg) (h : Int32) (Q : Nat → Int32) (sz : Nat) (k : Nat) (i : Int32) (hok : okM σ) (hL : okL σ) (hn : k < nS σ) (h6 : k < 60) (hN : isNumK (σ.1 1 k) = false) (hO : isOneK (σ.1 1 k) = true) : Met l yX6_get (tw_w yX6_get cX6_get 4 (some .int)) (tw_R 4 0 0) (tw_Pc D ad (wX b σ h Q) sz [.ref (ad 0), .int (nI k), .int i]) (tw_Q D ad (wX b ((getM σ (nI k) i).2) h Q) (tw_A ad (wX b σ h Q) sz) (some (.int (getM σ (nI k) i).1))) 0 0 (tw_A ad (wX b σ h Q) sz) := by
  refine tw_met (by decide) rfl (by simp [lg_sl, Value.category]) (fun p e s m below meth c ls S hK hr hlocks hnm hsz hI hl => ?_)
  have hx := S.1
  have hb := S.2.1
  have hl : lv_has ls 4 [(0, .ref (ad 0)), (1, .int (nI k)), (2, .int i)] := hl
  refine lv_aload_n hx hb dX6_get_0 rfl (lv_at hl 0 rfl) ?_
  refine lv_iload_n hx hb dX6_get_1 rfl (lv_at hl 1 rfl) ?_
  refine lv_iload_n hx hb dX6_get_2 rfl (lv_at hl 2 rfl) ?_
  refine tw_calla (tw_rV (As := [.int (nI k), .int i]) (rest := []) S hK hI kX6_65 (c_X6_numberRow_one l D ad _ _ _ _ _ _ _ hn h6 hN hO) wX_0 rfl rfl ⟨Nat.le_of_ble_eq_true rfl, Nat.le_of_ble_eq_true rfl⟩ ⟨Nat.le_of_ble_eq_true rfl, Nat.le_of_ble_eq_true rfl⟩ rfl hl.1 rfl (Nat.le_of_ble_eq_true rfl) dX6_get_3) hI (fun H locs hI => ?_)
  refine lv_astore_nN (lv' := [(3, .null), (0, .ref (ad 0)), (1, .int (nI k)), (2, .int i)]) hx hb dX6_get_6 rfl hl (by decide) rfl (fun ls hl => ?_)
  refine lv_aload_nN hx hb dX6_get_7 rfl (lv_at hl 0 rfl) ?_
  refine lv_ifnonnullN hx hb dX6_get_8 ?_
  refine lv_iconst (v := 0) hx hb dX6_get_11 (by decide) ?_
  refine lv_goto (tgt := 24) hx hb dX6_get_12 (by decide) ?_
  rw [get_cast hok hn h6 hN]
  exact tw_iret S hr hlocks hI dX6_get_24

set_option maxHeartbeats 2000000 in
set_option maxRecDepth 100000 in
theorem c_X6_put_th (l : Launch) (D : tw_G) (ad : Nat → Nat) (b : tw_W) (σ : Sg) (h : Int32) (Q : Nat → Int32) (sz : Nat) (k : Nat) (i : Int32) (v : Int32) (hok : okM σ) (hkd : okKd σ) (hn : k < nS σ) (h6 : k < 60) (hN : isNumK (σ.1 1 k) = false) (hO : isOneK (σ.1 1 k) = false) : Met l yX6_put (tw_w yX6_put cX6_put 5 (some .int)) (tw_R 4 0 0) (tw_Pc D ad (wX b σ h Q) sz [.ref (ad 0), .int (nI k), .int i, .int v]) (tw_Q D ad (wX b ((putM σ (nI k) i v).2) h Q) (tw_A ad (wX b σ h Q) sz) (some (.int (putM σ (nI k) i v).1))) 0 0 (tw_A ad (wX b σ h Q) sz) := by
  refine tw_met (by decide) rfl (by simp [lg_sl, Value.category]) (fun p e s m below meth c ls S hK hr hlocks hnm hsz hI hl => ?_)
  have hx := S.1
  have hb := S.2.1
  have hl : lv_has ls 5 [(0, .ref (ad 0)), (1, .int (nI k)), (2, .int i), (3, .int v)] := hl
  refine lv_aload_n hx hb dX6_put_0 rfl (lv_at hl 0 rfl) ?_
  refine lv_iload_n hx hb dX6_put_1 rfl (lv_at hl 1 rfl) ?_
  refine lv_iload_n hx hb dX6_put_2 rfl (lv_at hl 2 rfl) ?_
  refine tw_calla (tw_rV (As := [.int (nI k), .int i]) (rest := []) S hK hI kX6_65 (c_X6_numberRow_th l D ad _ _ _ _ _ _ _ hn h6 hN hO) wX_0 rfl rfl ⟨Nat.le_of_ble_eq_true rfl, Nat.le_of_ble_eq_true rfl⟩ ⟨Nat.le_of_ble_eq_true rfl, Nat.le_of_ble_eq_true rfl⟩ rfl hl.1 rfl (Nat.le_of_ble_eq_true rfl) dX6_put_3) hI (fun H locs hI => ?_)
  refine lv_astoreN (lv' := [(4, .null), (0, .ref (ad 0)), (1, .int (nI k)), (2, .int i), (3, .int v)]) hx hb dX6_put_6 hl (by decide) rfl (fun ls hl => ?_)
  refine lv_aloadN hx hb dX6_put_8 (lv_at hl 0 rfl) ?_
  refine lv_ifnonnullN hx hb dX6_put_10 ?_
  refine lv_aload_n hx hb dX6_put_13 rfl (lv_at hl 1 rfl) ?_
  refine gx_34 S hK hI dX6_put_14 ?_
  refine lv_topi (fun x1 e1 => ?_)
  subst e1
  rw [put_cast hok hn h6 hN]
  exact tw_iret S hr hlocks hI dX6_put_17

set_option maxHeartbeats 2000000 in
set_option maxRecDepth 100000 in
theorem c_X6_get_th (l : Launch) (D : tw_G) (ad : Nat → Nat) (b : tw_W) (σ : Sg) (h : Int32) (Q : Nat → Int32) (sz : Nat) (k : Nat) (i : Int32) (hok : okM σ) (hL : okL σ) (hn : k < nS σ) (h6 : k < 60) (hN : isNumK (σ.1 1 k) = false) (hO : isOneK (σ.1 1 k) = false) : Met l yX6_get (tw_w yX6_get cX6_get 4 (some .int)) (tw_R 4 0 0) (tw_Pc D ad (wX b σ h Q) sz [.ref (ad 0), .int (nI k), .int i]) (tw_Q D ad (wX b ((getM σ (nI k) i).2) h Q) (tw_A ad (wX b σ h Q) sz) (some (.int (getM σ (nI k) i).1))) 0 0 (tw_A ad (wX b σ h Q) sz) := by
  refine tw_met (by decide) rfl (by simp [lg_sl, Value.category]) (fun p e s m below meth c ls S hK hr hlocks hnm hsz hI hl => ?_)
  have hx := S.1
  have hb := S.2.1
  have hl : lv_has ls 4 [(0, .ref (ad 0)), (1, .int (nI k)), (2, .int i)] := hl
  refine lv_aload_n hx hb dX6_get_0 rfl (lv_at hl 0 rfl) ?_
  refine lv_iload_n hx hb dX6_get_1 rfl (lv_at hl 1 rfl) ?_
  refine lv_iload_n hx hb dX6_get_2 rfl (lv_at hl 2 rfl) ?_
  refine tw_calla (tw_rV (As := [.int (nI k), .int i]) (rest := []) S hK hI kX6_65 (c_X6_numberRow_th l D ad _ _ _ _ _ _ _ hn h6 hN hO) wX_0 rfl rfl ⟨Nat.le_of_ble_eq_true rfl, Nat.le_of_ble_eq_true rfl⟩ ⟨Nat.le_of_ble_eq_true rfl, Nat.le_of_ble_eq_true rfl⟩ rfl hl.1 rfl (Nat.le_of_ble_eq_true rfl) dX6_get_3) hI (fun H locs hI => ?_)
  refine lv_astore_nN (lv' := [(3, .null), (0, .ref (ad 0)), (1, .int (nI k)), (2, .int i)]) hx hb dX6_get_6 rfl hl (by decide) rfl (fun ls hl => ?_)
  refine lv_aload_nN hx hb dX6_get_7 rfl (lv_at hl 0 rfl) ?_
  refine lv_ifnonnullN hx hb dX6_get_8 ?_
  refine lv_iconst (v := 0) hx hb dX6_get_11 (by decide) ?_
  refine lv_goto (tgt := 24) hx hb dX6_get_12 (by decide) ?_
  rw [get_cast hok hn h6 hN]
  exact tw_iret S hr hlocks hI dX6_get_24

set_option maxHeartbeats 2000000 in
set_option maxRecDepth 100000 in
theorem c_X6_put_out (l : Launch) (D : tw_G) (ad : Nat → Nat) (b : tw_W) (σ : Sg) (h : Int32) (Q : Nat → Int32) (sz : Nat) (k : Nat) (i : Int32) (v : Int32) (hok : okM σ) (hkd : okKd σ) (hn : k < nS σ) (h6 : k < 60) (hN : isNumK (σ.1 1 k) = true) (hi : i < 0 ∨ nI (szS σ k) ≤ i) : Met l yX6_put (tw_w yX6_put cX6_put 5 (some .int)) (tw_R 4 0 0) (tw_Pc D ad (wX b σ h Q) sz [.ref (ad 0), .int (nI k), .int i, .int v]) (tw_Q D ad (wX b ((putM σ (nI k) i v).2) h Q) (tw_A ad (wX b σ h Q) sz) (some (.int (putM σ (nI k) i v).1))) 0 0 (tw_A ad (wX b σ h Q) sz) := by
  refine tw_met (by decide) rfl (by simp [lg_sl, Value.category]) (fun p e s m below meth c ls S hK hr hlocks hnm hsz hI hl => ?_)
  have hx := S.1
  have hb := S.2.1
  have hl : lv_has ls 5 [(0, .ref (ad 0)), (1, .int (nI k)), (2, .int i), (3, .int v)] := hl
  refine lv_aload_n hx hb dX6_put_0 rfl (lv_at hl 0 rfl) ?_
  refine lv_iload_n hx hb dX6_put_1 rfl (lv_at hl 1 rfl) ?_
  refine lv_iload_n hx hb dX6_put_2 rfl (lv_at hl 2 rfl) ?_
  refine tw_calla (tw_rV (As := [.int (nI k), .int i]) (rest := []) S hK hI kX6_65 (c_X6_numberRow_out l D ad _ _ _ _ _ _ _ hn h6 hN hi) wX_0 rfl rfl ⟨Nat.le_of_ble_eq_true rfl, Nat.le_of_ble_eq_true rfl⟩ ⟨Nat.le_of_ble_eq_true rfl, Nat.le_of_ble_eq_true rfl⟩ rfl hl.1 rfl (Nat.le_of_ble_eq_true rfl) dX6_put_3) hI (fun H locs hI => ?_)
  refine lv_astoreN (lv' := [(4, .null), (0, .ref (ad 0)), (1, .int (nI k)), (2, .int i), (3, .int v)]) hx hb dX6_put_6 hl (by decide) rfl (fun ls hl => ?_)
  refine lv_aloadN hx hb dX6_put_8 (lv_at hl 0 rfl) ?_
  refine lv_ifnonnullN hx hb dX6_put_10 ?_
  refine lv_aload_n hx hb dX6_put_13 rfl (lv_at hl 1 rfl) ?_
  refine gx_34 S hK hI dX6_put_14 ?_
  refine lv_topi (fun x1 e1 => ?_)
  subst e1
  rw [put_index hok hn h6 hN hi]
  exact tw_iret S hr hlocks hI dX6_put_17

set_option maxHeartbeats 2000000 in
set_option maxRecDepth 100000 in
theorem c_X6_get_out (l : Launch) (D : tw_G) (ad : Nat → Nat) (b : tw_W) (σ : Sg) (h : Int32) (Q : Nat → Int32) (sz : Nat) (k : Nat) (i : Int32) (hok : okM σ) (hL : okL σ) (hn : k < nS σ) (h6 : k < 60) (hN : isNumK (σ.1 1 k) = true) (hi : i < 0 ∨ nI (szS σ k) ≤ i) : Met l yX6_get (tw_w yX6_get cX6_get 4 (some .int)) (tw_R 4 0 0) (tw_Pc D ad (wX b σ h Q) sz [.ref (ad 0), .int (nI k), .int i]) (tw_Q D ad (wX b ((getM σ (nI k) i).2) h Q) (tw_A ad (wX b σ h Q) sz) (some (.int (getM σ (nI k) i).1))) 0 0 (tw_A ad (wX b σ h Q) sz) := by
  refine tw_met (by decide) rfl (by simp [lg_sl, Value.category]) (fun p e s m below meth c ls S hK hr hlocks hnm hsz hI hl => ?_)
  have hx := S.1
  have hb := S.2.1
  have hl : lv_has ls 4 [(0, .ref (ad 0)), (1, .int (nI k)), (2, .int i)] := hl
  refine lv_aload_n hx hb dX6_get_0 rfl (lv_at hl 0 rfl) ?_
  refine lv_iload_n hx hb dX6_get_1 rfl (lv_at hl 1 rfl) ?_
  refine lv_iload_n hx hb dX6_get_2 rfl (lv_at hl 2 rfl) ?_
  refine tw_calla (tw_rV (As := [.int (nI k), .int i]) (rest := []) S hK hI kX6_65 (c_X6_numberRow_out l D ad _ _ _ _ _ _ _ hn h6 hN hi) wX_0 rfl rfl ⟨Nat.le_of_ble_eq_true rfl, Nat.le_of_ble_eq_true rfl⟩ ⟨Nat.le_of_ble_eq_true rfl, Nat.le_of_ble_eq_true rfl⟩ rfl hl.1 rfl (Nat.le_of_ble_eq_true rfl) dX6_get_3) hI (fun H locs hI => ?_)
  refine lv_astore_nN (lv' := [(3, .null), (0, .ref (ad 0)), (1, .int (nI k)), (2, .int i)]) hx hb dX6_get_6 rfl hl (by decide) rfl (fun ls hl => ?_)
  refine lv_aload_nN hx hb dX6_get_7 rfl (lv_at hl 0 rfl) ?_
  refine lv_ifnonnullN hx hb dX6_get_8 ?_
  refine lv_iconst (v := 0) hx hb dX6_get_11 (by decide) ?_
  refine lv_goto (tgt := 24) hx hb dX6_get_12 (by decide) ?_
  rw [get_index hok hn h6 hN hi]
  exact tw_iret S hr hlocks hI dX6_get_24

set_option maxHeartbeats 2000000 in
set_option maxRecDepth 100000 in
theorem c_X6_put_in (l : Launch) (D : tw_G) (ad : Nat → Nat) (b : tw_W) (σ : Sg) (h : Int32) (Q : Nat → Int32) (sz : Nat) (k i : Nat) (v : Int32) (hok : okM σ) (hkd : okKd σ) (hn : k < nS σ) (h6 : k < 60) (hN : isNumK (σ.1 1 k) = true) (hi : i < szS σ k) (hz : szS σ k ≤ 3) : Met l yX6_put (tw_w yX6_put cX6_put 5 (some .int)) (tw_R 4 0 0) (tw_Pc D ad (wX b σ h Q) sz [.ref (ad 0), .int (nI k), .int (nI i), .int v]) (tw_Q D ad (wX b ((putM σ (nI k) (nI i) v).2) h Q) (tw_A ad (wX b σ h Q) sz) (some (.int (putM σ (nI k) (nI i) v).1))) 0 0 (tw_A ad (wX b σ h Q) sz) := by
  refine tw_met (by decide) rfl (by simp [lg_sl, Value.category]) (fun p e s m below meth c ls S hK hr hlocks hnm hsz hI hl => ?_)
  have hx := S.1
  have hb := S.2.1
  have hl : lv_has ls 5 [(0, .ref (ad 0)), (1, .int (nI k)), (2, .int (nI i)), (3, .int v)] := hl
  refine lv_aload_n hx hb dX6_put_0 rfl (lv_at hl 0 rfl) ?_
  refine lv_iload_n hx hb dX6_put_1 rfl (lv_at hl 1 rfl) ?_
  refine lv_iload_n hx hb dX6_put_2 rfl (lv_at hl 2 rfl) ?_
  refine tw_calla (tw_rV (As := [.int (nI k), .int (nI i)]) (rest := []) S hK hI kX6_65 (c_X6_numberRow_in l D ad _ _ _ _ _ _ _ hn h6 hN hi hz) wX_0 rfl rfl ⟨Nat.le_of_ble_eq_true rfl, Nat.le_of_ble_eq_true rfl⟩ ⟨Nat.le_of_ble_eq_true rfl, Nat.le_of_ble_eq_true rfl⟩ rfl hl.1 rfl (Nat.le_of_ble_eq_true rfl) dX6_put_3) hI (fun H locs hI => ?_)
  refine lv_astore (lv' := [(4, .ref (ad (100 + k))), (0, .ref (ad 0)), (1, .int (nI k)), (2, .int (nI i)), (3, .int v)]) hx hb dX6_put_6 hl (by decide) rfl (fun ls hl => ?_)
  refine lv_aload hx hb dX6_put_8 (lv_at hl 0 rfl) ?_
  refine lv_ifnonnull (tgt := 18) hx hb dX6_put_10 (by decide) ?_
  refine lv_aload hx hb dX6_put_18 (lv_at hl 0 rfl) ?_
  refine lv_iload_n hx hb dX6_put_20 rfl (lv_at hl 3 rfl) ?_
  refine lv_iload_n hx hb dX6_put_21 rfl (lv_at hl 4 rfl) ?_
  refine tw_callv (tw_rV (As := [.int (nI i), .int v]) (rest := []) S hK hI kX6_69 (c_X2_write l D ad _ _ _ _ _ _ _ _ hn h6 hN hi hz) (xI_num hn h6 hN) rfl rfl ⟨Nat.le_of_ble_eq_true rfl, Nat.le_of_ble_eq_true rfl⟩ ⟨Nat.le_of_ble_eq_true rfl, Nat.le_of_ble_eq_true rfl⟩ rfl hl.1 rfl (Nat.le_of_ble_eq_true rfl) dX6_put_22) hI (fun H locs hI => ?_)
  refine lv_aload_n hx hb dX6_put_25 rfl (lv_at hl 1 rfl) ?_
  refine lv_iconst (v := 1) hx hb dX6_put_26 (by decide) ?_
  refine tw_calli (tw_rV (As := [.int 1]) (rest := []) S hK hI kX6_62 (c_X6_accept l D ad _ _ _ _ _ _) wX_0 rfl rfl ⟨Nat.le_of_ble_eq_true rfl, Nat.le_of_ble_eq_true rfl⟩ ⟨Nat.le_of_ble_eq_true rfl, Nat.le_of_ble_eq_true rfl⟩ rfl hl.1 rfl (Nat.le_of_ble_eq_true rfl) dX6_put_27) hI (fun H locs hI => ?_)
  refine lv_topi (fun x1 e1 => ?_)
  subst e1
  rw [put_ok hok hn h6 hN hi]
  rw [← fit_k hkd hn hN]
  exact tw_iret S hr hlocks hI dX6_put_30

set_option maxHeartbeats 2000000 in
set_option maxRecDepth 100000 in
theorem c_X6_get_in (l : Launch) (D : tw_G) (ad : Nat → Nat) (b : tw_W) (σ : Sg) (h : Int32) (Q : Nat → Int32) (sz : Nat) (k i : Nat) (hok : okM σ) (hL : okL σ) (hn : k < nS σ) (h6 : k < 60) (hN : isNumK (σ.1 1 k) = true) (hi : i < szS σ k) (hz : szS σ k ≤ 3) : Met l yX6_get (tw_w yX6_get cX6_get 4 (some .int)) (tw_R 4 0 0) (tw_Pc D ad (wX b σ h Q) sz [.ref (ad 0), .int (nI k), .int (nI i)]) (tw_Q D ad (wX b ((getM σ (nI k) (nI i)).2) h Q) (tw_A ad (wX b σ h Q) sz) (some (.int (getM σ (nI k) (nI i)).1))) 0 0 (tw_A ad (wX b σ h Q) sz) := by
  refine tw_met (by decide) rfl (by simp [lg_sl, Value.category]) (fun p e s m below meth c ls S hK hr hlocks hnm hsz hI hl => ?_)
  have hx := S.1
  have hb := S.2.1
  have hl : lv_has ls 4 [(0, .ref (ad 0)), (1, .int (nI k)), (2, .int (nI i))] := hl
  refine lv_aload_n hx hb dX6_get_0 rfl (lv_at hl 0 rfl) ?_
  refine lv_iload_n hx hb dX6_get_1 rfl (lv_at hl 1 rfl) ?_
  refine lv_iload_n hx hb dX6_get_2 rfl (lv_at hl 2 rfl) ?_
  refine tw_calla (tw_rV (As := [.int (nI k), .int (nI i)]) (rest := []) S hK hI kX6_65 (c_X6_numberRow_in l D ad _ _ _ _ _ _ _ hn h6 hN hi hz) wX_0 rfl rfl ⟨Nat.le_of_ble_eq_true rfl, Nat.le_of_ble_eq_true rfl⟩ ⟨Nat.le_of_ble_eq_true rfl, Nat.le_of_ble_eq_true rfl⟩ rfl hl.1 rfl (Nat.le_of_ble_eq_true rfl) dX6_get_3) hI (fun H locs hI => ?_)
  refine lv_astore_n (lv' := [(3, .ref (ad (100 + k))), (0, .ref (ad 0)), (1, .int (nI k)), (2, .int (nI i))]) hx hb dX6_get_6 rfl hl (by decide) rfl (fun ls hl => ?_)
  refine lv_aload_n hx hb dX6_get_7 rfl (lv_at hl 0 rfl) ?_
  refine lv_ifnonnull (tgt := 15) hx hb dX6_get_8 (by decide) ?_
  refine lv_aload_n hx hb dX6_get_15 rfl (lv_at hl 1 rfl) ?_
  refine lv_aload_n hx hb dX6_get_16 rfl (lv_at hl 0 rfl) ?_
  refine lv_iload_n hx hb dX6_get_17 rfl (lv_at hl 3 rfl) ?_
  refine tw_calli (tw_rV (As := [.int (nI i)]) (rest := [.ref (ad 0)]) S hK hI kX6_75 (c_X2_read l D ad _ _ _ _ _ _ _ hn h6 hN hi hz) (xI_num hn h6 hN) rfl rfl ⟨Nat.le_of_ble_eq_true rfl, Nat.le_of_ble_eq_true rfl⟩ ⟨Nat.le_of_ble_eq_true rfl, Nat.le_of_ble_eq_true rfl⟩ rfl hl.1 rfl (Nat.le_of_ble_eq_true rfl) dX6_get_18) hI (fun H locs hI => ?_)
  refine lv_topi (fun x1 e1 => ?_)
  refine tw_calli (tw_rV (As := [.int x1]) (rest := []) S hK hI kX6_62 (c_X6_accept l D ad _ _ _ _ _ _) wX_0 rfl rfl ⟨Nat.le_of_ble_eq_true rfl, Nat.le_of_ble_eq_true rfl⟩ ⟨Nat.le_of_ble_eq_true rfl, Nat.le_of_ble_eq_true rfl⟩ rfl hl.1 rfl (Nat.le_of_ble_eq_true rfl) dX6_get_21) hI (fun H locs hI => ?_)
  refine lv_topi (fun x2 e2 => ?_)
  subst e2
  subst e1
  rw [get_ok hok hn h6 hN hi]
  rw [← read_get (hL k hn hN i hi)]
  exact tw_iret S hr hlocks hI dX6_get_24

theorem c_X6_put (l : Launch) (D : tw_G) (ad : Nat → Nat) (b : tw_W) (σ : Sg) (h : Int32) (Q : Nat → Int32) (sz : Nat) (t i v : Int32) (hok : okM σ) (hkd : okKd σ) : Met l yX6_put (tw_w yX6_put cX6_put 5 (some .int)) (tw_R 4 0 0) (tw_Pc D ad (wX b σ h Q) sz [.ref (ad 0), .int t, .int i, .int v]) (tw_Q D ad (wX b (putM σ t i v).2 h Q) (tw_A ad (wX b σ h Q) sz) (some (.int (putM σ t i v).1))) 0 0 (tw_A ad (wX b σ h Q) sz) := by
  rcases item_or σ t (okN hok).1 with hv | ⟨k, hn, h6, rfl⟩
  · exact c_X6_put_none l D ad b σ h Q sz t i v hok hkd hv
  · cases hN : isNumK (σ.1 1 k) with
    | false =>
      cases hO : isOneK (σ.1 1 k) with
      | true => exact c_X6_put_one l D ad b σ h Q sz k i v hok hkd hn h6 hN hO
      | false => exact c_X6_put_th l D ad b σ h Q sz k i v hok hkd hn h6 hN hO
    | true =>
      rcases place_or (szS σ k) i (okZ hok h6).1 with hi | ⟨j, hj, rfl⟩
      · exact c_X6_put_out l D ad b σ h Q sz k i v hok hkd hn h6 hN hi
      · exact c_X6_put_in l D ad b σ h Q sz k j v hok hkd hn h6 hN hj (okZ hok h6).1
theorem c_X6_get (l : Launch) (D : tw_G) (ad : Nat → Nat) (b : tw_W) (σ : Sg) (h : Int32) (Q : Nat → Int32) (sz : Nat) (t i : Int32) (hok : okM σ) (hL : okL σ) : Met l yX6_get (tw_w yX6_get cX6_get 4 (some .int)) (tw_R 4 0 0) (tw_Pc D ad (wX b σ h Q) sz [.ref (ad 0), .int t, .int i]) (tw_Q D ad (wX b (getM σ t i).2 h Q) (tw_A ad (wX b σ h Q) sz) (some (.int (getM σ t i).1))) 0 0 (tw_A ad (wX b σ h Q) sz) := by
  rcases item_or σ t (okN hok).1 with hv | ⟨k, hn, h6, rfl⟩
  · exact c_X6_get_none l D ad b σ h Q sz t i hok hL hv
  · cases hN : isNumK (σ.1 1 k) with
    | false =>
      cases hO : isOneK (σ.1 1 k) with
      | true => exact c_X6_get_one l D ad b σ h Q sz k i hok hL hn h6 hN hO
      | false => exact c_X6_get_th l D ad b σ h Q sz k i hok hL hn h6 hN hO
    | true =>
      rcases place_or (szS σ k) i (okZ hok h6).1 with hi | ⟨j, hj, rfl⟩
      · exact c_X6_get_out l D ad b σ h Q sz k i hok hL hn h6 hN hi
      · exact c_X6_get_in l D ad b σ h Q sz k j hok hL hn h6 hN hj (okZ hok h6).1