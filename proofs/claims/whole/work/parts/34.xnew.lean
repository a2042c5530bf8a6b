/-! the class: newItem, make -/
theorem nrI {t c : Nat} {a k : Int32} : tw_nr t (.inr (c, [.int a, .int k, .null])) := nr_o (by intro v hv; simp only [List.mem_cons, List.not_mem_nil, or_false] at hv; rcases hv with rfl | rfl | rfl <;> intro e <;> cases e)

set_option maxHeartbeats 2000000 in
set_option maxRecDepth 100000 in
theorem c_X6_newItem_one (l : Launch) (D : tw_G) (ad : Nat → Nat) (w : tw_W) (sz : Nat) (n : Nat) (k z : Int32) (hp : ¬ isPieceF k = 0) (hn1 : w (100 + n) = none) (hc1 : tw_cl (100 + n) w) : Met l yX6_newItem (tw_w yX6_newItem cX6_newItem 3 (some (.object "MailRooms$Item"))) (tw_R 3 2 6) (tw_Pc D ad w sz [.int (nI n), .int k, .int z]) (tw_Qn D ad w (va_up w (100 + n) (some (.inr (2, [.int (nI n), .int k, .int 0])))) (tw_A ad w sz) (fun ad => some (.ref (ad (100 + n))))) 2 6 (tw_A ad w sz) := by
  have hx1 : ∀ (t : Nat) (ε : tw_T), w t = some ε → t ≠ 100 + n := fun t ε h e => by subst e; rw [hn1] at h; cases h
  refine tw_met (by decide) rfl (by simp [lg_sl, Value.category]) (fun p e s m below meth c ls S hK hr hlocks hnm hsz hI hl => ?_)
  have hx := S.1
  have hb := S.2.1
  have hl : lv_has ls 3 [(0, .int (nI n)), (1, .int k), (2, .int z)] := hl
  refine lv_iload_n hx hb dX6_newItem_0 rfl (lv_at hl 1 rfl) ?_
  refine tw_calli (tw_rS (As := [.int k]) (rest := []) S hK hI kX6_54 (c_X6_isPiece l D ad _ _ _) ⟨Nat.le_of_ble_eq_true rfl, Nat.le_of_ble_eq_true rfl⟩ ⟨Nat.le_of_ble_eq_true rfl, Nat.le_of_ble_eq_true rfl⟩ rfl hl.1 rfl (Nat.le_of_ble_eq_true rfl) dX6_newItem_1) hI (fun H locs hI => ?_)
  refine lv_topi (fun x1 e1 => ?_)
  refine lv_if_eq (tgt := 17) hx hb dX6_newItem_4 (by decide) (fun c2 => ?_) (fun c2 => ?_)
  · exact (by subst e1; exact absurd c2 hp)
  · refine tw_new S hK hI iT3 tyX3 tyX3_ok (tw_mem (by decide +kernel) rfl) (tw_mem (by decide +kernel) rfl) (tw_mem (by decide +kernel) rfl) (ci := 2) rfl (fs := [.int 0, .int 0, .int 0]) (fun j hj => by rcases (show j = 0 ∨ j = 1 ∨ j = 2 by omega) with rfl | rfl | rfl <;> rfl) (fun _ => rfl) ((100 + n)) hn1 hc1 ((Nat.le_of_ble_eq_true rfl)) ((Nat.le_of_ble_eq_true rfl)) dX6_newItem_7 (fun ad H had1 hI => ?_)
    refine lv_dup hx hb dX6_newItem_10 rfl ?_
    refine lv_iload_n hx hb dX6_newItem_11 rfl (lv_at hl 0 rfl) ?_
    refine lv_iload_n hx hb dX6_newItem_12 rfl (lv_at hl 1 rfl) ?_
    refine tw_callv (tw_rI (As := [.int (nI n), .int k]) (rest := [.ref (ad (100 + n))]) S hK hI kX6_166 (c_X3_init l D ad _ _ _ _ _ (va_up_self _ _ _)) ⟨Nat.le_of_ble_eq_true rfl, Nat.le_of_ble_eq_true rfl⟩ ⟨Nat.le_of_ble_eq_true rfl, Nat.le_of_ble_eq_true rfl⟩ rfl hl.1 rfl (Nat.le_of_ble_eq_true rfl) dX6_newItem_13) hI (fun H locs hI => ?_)
    subst e1
    rw [up_up] at hI
    refine W.widen (k := 2) (n := 6) (Nat.le_of_ble_eq_true rfl) (Nat.le_of_ble_eq_true rfl) ?_
    exact W.aret S.1 S.2.1 hr (Or.inl ⟨_, rfl⟩) (Or.inr ⟨_, rfl⟩) (fun t ht _ => tw_retN (r := fun ad => some (.ref (ad (100 + n)))) hI (fun t ε h => had1 t (hx1 t ε h)) ht) hI.2.2.1.2.2 dX6_newItem_16 hlocks

set_option maxHeartbeats 2000000 in
set_option maxRecDepth 100000 in
theorem c_X6_newItem_num (l : Launch) (D : tw_G) (ad : Nat → Nat) (w : tw_W) (sz : Nat) (n z : Nat) (k : Int32) (hz : z ≤ 3) (hp : isPieceF k = 0) (h3 : ¬ 3 < k) (hn1 : w (100 + n) = none) (hn2 : w (200 + n) = none) (hc1 : tw_cl (100 + n) w) (hc2 : tw_cl (200 + n) w) : Met l yX6_newItem (tw_w yX6_newItem cX6_newItem 3 (some (.object "MailRooms$Item"))) (tw_R 3 2 6) (tw_Pc D ad w sz [.int (nI n), .int k, .int (nI z)]) (tw_Qn D ad w (va_up (va_up w (200 + n) (some (.inl (1, z, .inr (.inl (fun _ => 0)))))) (100 + n) (some (.inr (1, [.int (nI n), .int k, .ref (200 + n)])))) (tw_A ad w sz) (fun ad => some (.ref (ad (100 + n))))) 2 6 (tw_A ad w sz) := by
  have hx1 : ∀ (t : Nat) (ε : tw_T), w t = some ε → t ≠ 100 + n := fun t ε h e => by subst e; rw [hn1] at h; cases h
  refine tw_met (by decide) rfl (by simp [lg_sl, Value.category]) (fun p e s m below meth c ls S hK hr hlocks hnm hsz hI hl => ?_)
  have hx := S.1
  have hb := S.2.1
  have hl : lv_has ls 3 [(0, .int (nI n)), (1, .int k), (2, .int (nI z))] := hl
  refine lv_iload_n hx hb dX6_newItem_0 rfl (lv_at hl 1 rfl) ?_
  refine tw_calli (tw_rS (As := [.int k]) (rest := []) S hK hI kX6_54 (c_X6_isPiece l D ad _ _ _) ⟨Nat.le_of_ble_eq_true rfl, Nat.le_of_ble_eq_true rfl⟩ ⟨Nat.le_of_ble_eq_true rfl, Nat.le_of_ble_eq_true rfl⟩ rfl hl.1 rfl (Nat.le_of_ble_eq_true rfl) dX6_newItem_1) hI (fun H locs hI => ?_)
  refine lv_topi (fun x1 e1 => ?_)
  refine lv_if_eq (tgt := 17) hx hb dX6_newItem_4 (by decide) (fun c2 => ?_) (fun c2 => ?_)
  · refine lv_iload_n hx hb dX6_newItem_17 rfl (lv_at hl 1 rfl) ?_
    refine lv_iconst (v := 3) hx hb dX6_newItem_18 (by decide) ?_
    refine lv_icmp_gt (tgt := 35) hx hb dX6_newItem_19 (by decide) (fun c3 => ?_) (fun c3 => ?_)
    · exact absurd c3 h3
    · refine tw_new S hK hI iT2 tyX2 tyX2_ok (tw_mem (by decide +kernel) rfl) (tw_mem (by decide +kernel) rfl) (tw_mem (by decide +kernel) rfl) (ci := 1) rfl (fs := [.int 0, .int 0, .null]) (fun j hj => by rcases (show j = 0 ∨ j = 1 ∨ j = 2 by omega) with rfl | rfl | rfl <;> rfl) (fun _ => rfl) ((100 + n)) hn1 hc1 ((Nat.le_of_ble_eq_true rfl)) ((Nat.le_of_ble_eq_true rfl)) dX6_newItem_22 (fun ad H had1 hI => ?_)
      refine lv_dup hx hb dX6_newItem_25 rfl ?_
      refine lv_iload_n hx hb dX6_newItem_26 rfl (lv_at hl 0 rfl) ?_
      refine lv_iload_n hx hb dX6_newItem_27 rfl (lv_at hl 1 rfl) ?_
      refine lv_iload_n hx hb dX6_newItem_28 rfl (lv_at hl 2 rfl) ?_
      refine tw_callN (tw_rI (t := 100 + n) (As := [.int (nI n), .int k, .int (nI z)]) (rest := [.ref (ad (100 + n))]) S hK hI kX6_168 (c_X2_init l D ad _ _ (100 + n) (200 + n) z _ _ hz (va_up_self _ _ _) ((va_up_ne _ _ (by omega)).trans hn2) (by omega) (cl_up hc2 nrI)) ⟨Nat.le_of_ble_eq_true rfl, Nat.le_of_ble_eq_true rfl⟩ ⟨Nat.le_of_ble_eq_true rfl, Nat.le_of_ble_eq_true rfl⟩ rfl hl.1 rfl (Nat.le_of_ble_eq_true rfl) dX6_newItem_29) hI (fun ad H locs had2 hI => ?_)
      refine W_stk (st' := [.ref (ad (100 + n))]) (by rw [had2 (100 + n) _ (va_up_self _ _ _)]; rfl) ?_
      rw [up_3 _ (by omega)] at hI
      refine lv_goto (tgt := 45) hx hb dX6_newItem_32 (by decide) ?_
      subst e1
      refine W.widen (k := 2) (n := 6) (Nat.le_of_ble_eq_true rfl) (Nat.le_of_ble_eq_true rfl) ?_
      exact W.aret S.1 S.2.1 hr (Or.inl ⟨_, rfl⟩) (Or.inr ⟨_, rfl⟩) (fun t ht _ => tw_retN (r := fun ad => some (.ref (ad (100 + n)))) hI (fun t ε h => (had2 t ε ((va_up_ne _ _ (hx1 t ε h)).trans h)).trans (had1 t (hx1 t ε h))) ht) hI.2.2.1.2.2 dX6_newItem_45 hlocks
  · exact (by subst e1; exact absurd hp c2)

set_option maxHeartbeats 2000000 in
set_option maxRecDepth 100000 in
theorem c_X6_newItem_th (l : Launch) (D : tw_G) (ad : Nat → Nat) (w : tw_W) (sz : Nat) (n z : Nat) (k : Int32) (hz : z ≤ 3) (hp : isPieceF k = 0) (h3 : 3 < k) (hn1 : w (100 + n) = none) (hn2 : w (200 + n) = none) (hc1 : tw_cl (100 + n) w) (hc2 : tw_cl (200 + n) w) : Met l yX6_newItem (tw_w yX6_newItem cX6_newItem 3 (some (.object "MailRooms$Item"))) (tw_R 3 2 6) (tw_Pc D ad w sz [.int (nI n), .int k, .int (nI z)]) (tw_Qn D ad w (va_up (va_up w (200 + n) (some (.inl (4, z, .inr (.inr (.inr (.inr (fun _ => none)))))))) (100 + n) (some (.inr (4, [.int (nI n), .int k, .ref (200 + n)])))) (tw_A ad w sz) (fun ad => some (.ref (ad (100 + n))))) 2 6 (tw_A ad w sz) := by
  have hx1 : ∀ (t : Nat) (ε : tw_T), w t = some ε → t ≠ 100 + n := fun t ε h e => by subst e; rw [hn1] at h; cases h
  refine tw_met (by decide) rfl (by simp [lg_sl, Value.category]) (fun p e s m below meth c ls S hK hr hlocks hnm hsz hI hl => ?_)
  have hx := S.1
  have hb := S.2.1
  have hl : lv_has ls 3 [(0, .int (nI n)), (1, .int k), (2, .int (nI z))] := hl
  refine lv_iload_n hx hb dX6_newItem_0 rfl (lv_at hl 1 rfl) ?_
  refine tw_calli (tw_rS (As := [.int k]) (rest := []) S hK hI kX6_54 (c_X6_isPiece l D ad _ _ _) ⟨Nat.le_of_ble_eq_true rfl, Nat.le_of_ble_eq_true rfl⟩ ⟨Nat.le_of_ble_eq_true rfl, Nat.le_of_ble_eq_true rfl⟩ rfl hl.1 rfl (Nat.le_of_ble_eq_true rfl) dX6_newItem_1) hI (fun H locs hI => ?_)
  refine lv_topi (fun x1 e1 => ?_)
  refine lv_if_eq (tgt := 17) hx hb dX6_newItem_4 (by decide) (fun c2 => ?_) (fun c2 => ?_)
  · refine lv_iload_n hx hb dX6_newItem_17 rfl (lv_at hl 1 rfl) ?_
    refine lv_iconst (v := 3) hx hb dX6_newItem_18 (by decide) ?_
    refine lv_icmp_gt (tgt := 35) hx hb dX6_newItem_19 (by decide) (fun c3 => ?_) (fun c3 => ?_)
    · refine tw_new S hK hI iT5 tyX5 tyX5_ok (tw_mem (by decide +kernel) rfl) (tw_mem (by decide +kernel) rfl) (tw_mem (by decide +kernel) rfl) (ci := 4) rfl (fs := [.int 0, .int 0, .null]) (fun j hj => by rcases (show j = 0 ∨ j = 1 ∨ j = 2 by omega) with rfl | rfl | rfl <;> rfl) (fun _ => rfl) ((100 + n)) hn1 hc1 ((Nat.le_of_ble_eq_true rfl)) ((Nat.le_of_ble_eq_true rfl)) dX6_newItem_35 (fun ad H had1 hI => ?_)
      refine lv_dup hx hb dX6_newItem_38 rfl ?_
      refine lv_iload_n hx hb dX6_newItem_39 rfl (lv_at hl 0 rfl) ?_
      refine lv_iload_n hx hb dX6_newItem_40 rfl (lv_at hl 1 rfl) ?_
      refine lv_iload_n hx hb dX6_newItem_41 rfl (lv_at hl 2 rfl) ?_
      refine tw_callN (tw_rI (t := 100 + n) (As := [.int (nI n), .int k, .int (nI z)]) (rest := [.ref (ad (100 + n))]) S hK hI kX6_171 (c_X5_init l D ad _ _ (100 + n) (200 + n) z _ _ hz (va_up_self _ _ _) ((va_up_ne _ _ (by omega)).trans hn2) (by omega) (cl_up hc2 nrI)) ⟨Nat.le_of_ble_eq_true rfl, Nat.le_of_ble_eq_true rfl⟩ ⟨Nat.le_of_ble_eq_true rfl, Nat.le_of_ble_eq_true rfl⟩ rfl hl.1 rfl (Nat.le_of_ble_eq_true rfl) dX6_newItem_42) hI (fun ad H locs had2 hI => ?_)
      refine W_stk (st' := [.ref (ad (100 + n))]) (by rw [had2 (100 + n) _ (va_up_self _ _ _)]; rfl) ?_
      rw [up_3 _ (by omega)] at hI
      subst e1
      refine W.widen (k := 2) (n := 6) (Nat.le_of_ble_eq_true rfl) (Nat.le_of_ble_eq_true rfl) ?_
      exact W.aret S.1 S.2.1 hr (Or.inl ⟨_, rfl⟩) (Or.inr ⟨_, rfl⟩) (fun t ht _ => tw_retN (r := fun ad => some (.ref (ad (100 + n)))) hI (fun t ε h => (had2 t ε ((va_up_ne _ _ (hx1 t ε h)).trans h)).trans (had1 t (hx1 t ε h))) ht) hI.2.2.1.2.2 dX6_newItem_45 hlocks
    · exact absurd h3 c3
  · exact (by subst e1; exact absurd hp c2)

def b_ok (b : tw_W) : Prop := ∀ (t : Nat) (e : tw_T), 1000 ≤ t → b t = some e → ∀ τ : Nat, τ < 1000 → tw_nr τ e
theorem rf_ne {σ : Sg} {o : Option Nat} {τ : Nat} (h : ∀ q : Nat, o = some q → τ ≠ 100 + q) : va_rf (tI o) ≠ .ref τ := by
  cases o with
  | none => intro e; cases e
  | some q => intro e; exact h q rfl (by cases e; rfl)
theorem wX_cl {b : tw_W} {σ : Sg} {h : Int32} {Q : Nat → Int32} {B τ : Nat} (hV : INV σ B) (hb : b_ok b) (hτ : τ < 1000) (h2 : 2 < τ) (h28 : ¬ (10 ≤ τ ∧ τ < 28)) (h3 : ∀ r d : Nat, r < 8 → d < dcS σ r → τ ≠ 30 + (4 * r + d)) (h4 : ∀ i : Nat, i < nS σ → τ ≠ 100 + i) (h5 : ∀ i : Nat, i < nS σ → τ ≠ 200 + i) : tw_cl τ (wX b σ h Q) := by
  intro t e he
  have hn6 := (okN hV.1).1
  unfold wX at he
  by_cases c0 : 1000 ≤ t
  · rw [if_pos c0] at he
    exact hb t e c0 he τ hτ
  rw [if_neg c0] at he
  by_cases c1 : t = 0
  · rw [if_pos c1] at he
    cases he
    refine nr_o (fun v hv => ?_)
    unfold xRoot at hv
    simp only [List.mem_cons, List.not_mem_nil, or_false] at hv
    rcases hv with rfl | rfl | rfl | rfl | rfl | rfl | rfl | rfl | rfl | rfl | rfl <;> intro e <;> first | (cases e; omega) | (injection e with e; omega) | cases e
  rw [if_neg c1] at he
  by_cases c2 : t = 1
  · rw [if_pos c2] at he
    cases he
    refine nr_q (fun j => ?_)
    by_cases hj : j < nS σ
    · rw [if_pos hj]; intro e; injection e with e; exact h4 j hj e.symm
    · rw [if_neg hj]; intro e; cases e
  rw [if_neg c2] at he
  by_cases c3 : t = 2
  · rw [if_pos c3] at he
    cases he
    refine nr_q (fun j => ?_)
    by_cases hj : j < 8
    · rw [if_pos hj]; intro e; injection e with e; omega
    · rw [if_neg hj]; intro e; cases e
  rw [if_neg c3] at he
  by_cases c4 : 10 ≤ t ∧ t < 18
  · rw [if_pos c4] at he
    cases he
    refine nr_o (fun v hv => ?_)
    simp only [List.mem_cons, List.not_mem_nil, or_false] at hv
    rcases hv with rfl | rfl <;> intro e
    · injection e with e
      have e2 : 20 + (t - 10) = τ := e
      omega
    · cases e
  rw [if_neg c4] at he
  by_cases c5 : 20 ≤ t ∧ t < 28
  · rw [if_pos c5] at he
    cases he
    refine nr_q (fun j => ?_)
    by_cases hj : j < dcS σ (t - 20)
    · rw [if_pos hj]; intro e; injection e with e; exact h3 (t - 20) j (by omega) hj e.symm
    · rw [if_neg hj]; intro e; cases e
  rw [if_neg c5] at he
  by_cases c6 : 30 ≤ t ∧ t < 62 ∧ (t - 30) % 4 < dcS σ ((t - 30) / 4)
  · rw [if_pos c6] at he
    cases he
    have hH := hV.2.2.2.1 ((t - 30) / 4) ((t - 30) % 4) (by omega) c6.2.2
    rw [show 4 * ((t - 30) / 4) + (t - 30) % 4 = t - 30 by omega] at hH
    have r1 : ∀ x : Int32, (x = -1 ∨ ∃ q : Nat, q < nS σ ∧ x = nI q) → va_rf (tI (dec x)) ≠ .ref τ := by
      intro x hx
      refine rf_ne (σ := σ) (fun q eq => ?_)
      rcases hx with rfl | ⟨q', hq', rfl⟩
      · rw [dec_m1] at eq; cases eq
      · rw [dec_nI (by omega)] at eq; cases eq; exact h4 q hq'
    refine nr_o (fun v hv => ?_)
    unfold xDesk at hv
    simp only [List.mem_cons, List.not_mem_nil, or_false] at hv
    rcases hv with rfl | rfl | rfl | rfl | rfl | rfl | rfl | rfl | rfl
    · intro e; cases e
    · intro e; cases e
    · intro e; cases e
    · intro e; cases e
    · intro e; cases e
    · exact r1 _ hH.1
    · intro e; cases e
    · exact r1 _ hH.2.1
    · intro e; cases e
  rw [if_neg c6] at he
  by_cases c7 : 100 ≤ t ∧ t < 160 ∧ t - 100 < nS σ
  · rw [if_pos c7] at he
    cases he
    unfold xItem
    by_cases cN : isNumK (σ.1 1 (t - 100)) = true
    · rw [if_pos cN]
      refine nr_o (fun v hv => ?_)
      simp only [List.mem_cons, List.not_mem_nil, or_false] at hv
      rcases hv with rfl | rfl | rfl <;> intro e
      · cases e
      · cases e
      · injection e with e; exact h5 (t - 100) c7.2.2 e.symm
    · rw [if_neg cN]
      by_cases cO : isOneK (σ.1 1 (t - 100)) = true
      · rw [if_pos cO]
        refine nr_o (fun v hv => ?_)
        simp only [List.mem_cons, List.not_mem_nil, or_false] at hv
        rcases hv with rfl | rfl | rfl <;> intro e <;> cases e
      · rw [if_neg cO]
        refine nr_o (fun v hv => ?_)
        simp only [List.mem_cons, List.not_mem_nil, or_false] at hv
        rcases hv with rfl | rfl | rfl <;> intro e
        · cases e
        · cases e
        · injection e with e; exact h5 (t - 100) c7.2.2 e.symm
  rw [if_neg c7] at he
  by_cases c8 : 200 ≤ t ∧ t < 260 ∧ t - 200 < nS σ
  · rw [if_pos c8] at he
    unfold xArr at he
    by_cases cN : isNumK (σ.1 1 (t - 200)) = true
    · rw [if_pos cN] at he
      cases he
      exact nr_l
    · rw [if_neg cN] at he
      by_cases cO : isOneK (σ.1 1 (t - 200)) = true
      · rw [if_pos cO] at he; cases he
      · rw [if_neg cO] at he
        cases he
        refine nr_q (fun j => ?_)
        have hT := thF2 (eq_false_of_ne_true cN) (eq_false_of_ne_true cO)
        by_cases hj : j < 3
        · rw [if_pos hj]
          by_cases hs : j < szS σ (t - 200)
          · rcases cell_or hV.1 hV.2.2.1 c8.2.2 (eq_false_of_ne_true cN) hs with ⟨-, e2⟩ | ⟨q, hq, -, -, e2⟩
            · rw [e2]; intro e; cases e
            · rw [e2]; intro e; injection e with e; exact h4 q hq e.symm
          · rw [hV.2.2.2.2.2.2.2.2.2 (t - 200) c8.2.2 (by rw [hT]; decide) j hj (by omega), decL_m1]
            intro e; cases e
        · rw [if_neg hj]; intro e; cases e
  rw [if_neg c8] at he
  cases he
theorem wX_no1 {b : tw_W} {σ : Sg} {h : Int32} {Q : Nat → Int32} {n : Nat} (hn : n < 60) (e : nS σ ≤ n) : wX b σ h Q (100 + n) = none := by
  unfold wX
  rw [if_neg (by omega), if_neg (by omega), if_neg (by omega), if_neg (by omega), if_neg (by omega), if_neg (by omega), if_neg (by omega), if_neg (by omega), if_neg (by omega)]
theorem wX_no2 {b : tw_W} {σ : Sg} {h : Int32} {Q : Nat → Int32} {n : Nat} (hn : n < 60) (e : nS σ ≤ n) : wX b σ h Q (200 + n) = none := by
  unfold wX
  rw [if_neg (by omega), if_neg (by omega), if_neg (by omega), if_neg (by omega), if_neg (by omega), if_neg (by omega), if_neg (by omega), if_neg (by omega), if_neg (by omega)]
theorem g_make {b : tw_W} {root root' : List Value} {n : Nat} {dc : Nat → Nat} {cnt : Nat → Int32} {desk : Nat → List Value} {item : Nat → tw_T} {arr : Nat → Option tw_T} (h60 : n < 60) (I : tw_T) (Ao : Option tw_T) : va_up (va_up (va_up (va_up (wXg b root n dc cnt desk item arr) (200 + n) Ao) (100 + n) (some I)) 1 (some (.inl (4, 60, .inr (.inr (.inr (.inr (va_up (fun i => if i < n then some (100 + i) else none) n (some (100 + n)))))))))) 0 (some (.inr (5, root'))) = wXg b root' (n + 1) dc cnt desk (va_up item n I) (va_up arr n Ao) := by
  funext t
  by_cases c0 : t = 0
  · subst c0; rw [va_up_self]; rfl
  rw [va_up_ne _ _ c0]
  by_cases c1 : t = 1
  · subst c1
    rw [va_up_self]
    have e : (va_up (fun i => if i < n then some (100 + i) else none) n (some (100 + n))) = fun i => if i < n + 1 then some (100 + i) else none := by
      funext i
      by_cases hi : i = n
      · subst hi; rw [va_up_self, if_pos (by omega)]
      · rw [va_up_ne _ _ hi]
        by_cases h1 : i < n
        · rw [if_pos h1, if_pos (by omega)]
        · rw [if_neg h1, if_neg (by omega)]
    rw [e]
    rfl
  rw [va_up_ne _ _ c1]
  by_cases c2 : t = 100 + n
  · subst c2
    rw [va_up_self]
    unfold wXg
    rw [if_neg (by omega), if_neg (by omega), if_neg (by omega), if_neg (by omega), if_neg (by omega), if_neg (by omega), if_neg (by omega), if_pos ⟨by omega, by omega, by omega⟩, show 100 + n - 100 = n by omega, va_up_self]
  rw [va_up_ne _ _ c2]
  by_cases c3 : t = 200 + n
  · subst c3
    rw [va_up_self]
    unfold wXg
    rw [if_neg (by omega), if_neg (by omega), if_neg (by omega), if_neg (by omega), if_neg (by omega), if_neg (by omega), if_neg (by omega), if_neg (by omega), if_pos ⟨by omega, by omega, by omega⟩, show 200 + n - 200 = n by omega, va_up_self]
  rw [va_up_ne _ _ c3]
  unfold wXg
  rw [if_neg c0, if_neg c1, if_neg c0, if_neg c1]
  by_cases d1 : 100 ≤ t ∧ t < 160 ∧ t - 100 < n
  · rw [if_pos d1, if_pos (show 100 ≤ t ∧ t < 160 ∧ t - 100 < n + 1 by omega), va_up_ne item _ (show t - 100 ≠ n by omega)]
  · rw [if_neg d1, if_neg (show ¬ (100 ≤ t ∧ t < 160 ∧ t - 100 < n + 1) by omega)]
    by_cases d2 : 200 ≤ t ∧ t < 260 ∧ t - 200 < n
    · rw [if_pos d2, if_pos (show 200 ≤ t ∧ t < 260 ∧ t - 200 < n + 1 by omega), va_up_ne arr _ (show t - 200 ≠ n by omega)]
    · rw [if_neg d2, if_neg (show ¬ (200 ≤ t ∧ t < 260 ∧ t - 200 < n + 1) by omega)]
section MK
variable {σ : Sg} {n : Nat} {k z : Int32}
theorem mkS_ne {f : Nat} (h : f ∉ [0, 1, 2, 3]) : (mkS σ n k z).1 f = σ.1 f := by
  unfold mkS mkC
  rw [sI_ne _ _ _ (fun e => h (by rw [e]; decide))]
  show (sI (sI (sI σ 1 n k) 2 n _) 3 n 0).1 f = _
  rw [sI_ne _ _ _ (fun e => h (by rw [e]; decide)), sI_ne _ _ _ (fun e => h (by rw [e]; decide)), sI_ne _ _ _ (fun e => h (by rw [e]; decide))]
theorem mkS_1 (i : Nat) : (mkS σ n k z).1 1 i = if i = n then k else σ.1 1 i := by
  show (sI σ 1 n k).1 1 i = _
  by_cases h : i = n
  · subst h; rw [sI_at, if_pos rfl]
  · rw [sI_off _ _ _ h, if_neg h]
theorem mkS_2 (i : Nat) : (mkS σ n k z).1 2 i = if i = n then (if isOneF k = 0 then z else 0) else σ.1 2 i := by
  show (sI (sI σ 1 n k) 2 n (if isOneF k = 0 then z else 0)).1 2 i = _
  by_cases h : i = n
  · subst h; rw [sI_at, if_pos rfl]
  · rw [sI_off _ _ _ h, if_neg h]; rfl
theorem mkS_3 (i : Nat) : (mkS σ n k z).1 3 i = if i = n then 0 else σ.1 3 i := by
  show (sI (sI (sI σ 1 n k) 2 n (if isOneF k = 0 then z else 0)) 3 n 0).1 3 i = _
  by_cases h : i = n
  · subst h; rw [sI_at, if_pos rfl]
  · rw [sI_off _ _ _ h, if_neg h]; rfl
theorem mkS_0 : (mkS σ n k z).1 0 0 = nI (n + 1) := sI_at _ _ _ _
theorem mkS_n (h : n < 60) : nS (mkS σ n k z) = n + 1 := by
  unfold nS
  rw [mkS_0]
  exact ixn (by omega)
theorem mkS_C (i j : Nat) (hj : j < 3) : (mkS σ n k z).2 (3 * i + j) = if i = n then (if isThF k = 0 then 0 else -1) else σ.2 (3 * i + j) := by
  show va_up (va_up (va_up σ.2 (3 * n) _) (3 * n + 1) _) (3 * n + 2) _ (3 * i + j) = _
  by_cases h : i = n
  · subst h
    rw [if_pos rfl]
    rcases (show j = 0 ∨ j = 1 ∨ j = 2 by omega) with rfl | rfl | rfl
    · rw [va_up_ne _ _ (by omega), va_up_ne _ _ (by omega)]; exact va_up_self _ _ _
    · rw [va_up_ne _ _ (by omega), va_up_self]
    · rw [va_up_self]
  · rw [if_neg h, va_up_ne _ _ (by omega), va_up_ne _ _ (by omega), va_up_ne _ _ (by omega)]
theorem acc_mkS : acc (mkS σ n k z) = mkS (acc σ) n k z := by
  unfold mkS acc
  rw [sI_comm _ (show 0 ≠ 15 by decide)]
  show sI (mkC (sI (sI (sI (sI σ 1 n k) 2 n _) 3 n 0) 15 0 0) n _) 0 0 _ = _
  rw [sI_comm _ (show 3 ≠ 15 by decide), sI_comm _ (show 2 ≠ 15 by decide), sI_comm _ (show 1 ≠ 15 by decide)]
end MK
theorem wX_make {b : tw_W} {σ : Sg} {h : Int32} {Q : Nat → Int32} {n : Nat} {k z : Int32} {I : tw_T} {Ao : Option tw_T} (h60 : n < 60) (en : nS σ = n) (eI : xItem (mkS σ n k z) n = I) (eA : xArr (mkS σ n k z) n = Ao) : va_up (va_up (va_up (va_up (wX b σ h Q) (200 + n) Ao) (100 + n) (some I)) 1 (some (.inl (4, 60, .inr (.inr (.inr (.inr (va_up (fun i => if i < nS σ then some (100 + i) else none) n (some (100 + n)))))))))) 0 (some (.inr (5, (xRoot σ h).set 2 (.int (nI (n + 1)))))) = wX b (mkS σ n k z) h Q := by
  subst eI; subst eA
  rw [wX_g, en, g_make h60, wX_g, mkS_n h60, up_eq (g := xItem (mkS σ n k z)) (fun i hi => by unfold xItem; rw [mkS_1, if_neg hi, mkS_3, if_neg hi]), up_eq (g := xArr (mkS σ n k z)) (fun i hi => by
    unfold xArr szS
    rw [mkS_1, if_neg hi, mkS_2, if_neg hi]
    have e : ∀ j : Nat, j < 3 → (mkS σ n k z).2 (3 * i + j) = σ.2 (3 * i + j) := fun j hj => by rw [mkS_C i j hj, if_neg hi]
    have e1 : (fun j => if j < 3 then (mkS σ n k z).2 (3 * i + j) else 0) = fun j => if j < 3 then σ.2 (3 * i + j) else 0 := by
      funext j
      by_cases hj : j < 3
      · rw [if_pos hj, if_pos hj, e j hj]
      · rw [if_neg hj, if_neg hj]
    have e2 : (fun j => if j < 3 then tI (decL ((mkS σ n k z).2 (3 * i + j))) else none) = fun j => if j < 3 then tI (decL (σ.2 (3 * i + j))) else none := by
      funext j
      by_cases hj : j < 3
      · rw [if_pos hj, if_pos hj, e j hj]
      · rw [if_neg hj, if_neg hj]
    rw [e1, e2])]
  rfl
theorem new_num {σ : Sg} {n z : Nat} {k : Int32} (hz : z ≤ 3) (hN : isNumK k = true) : xItem (mkS σ n k (nI z)) n = .inr (1, [.int (nI n), .int k, .ref (200 + n)]) ∧ xArr (mkS σ n k (nI z)) n = some (.inl (1, z, .inr (.inl (fun _ => 0)))) := by
  have e1 : (mkS σ n k (nI z)).1 1 n = k := by rw [mkS_1, if_pos rfl]
  have e2 : (mkS σ n k (nI z)).1 2 n = nI z := by rw [mkS_2, if_pos rfl, oneF0 (oneF_num hN), if_pos rfl]
  have e : (fun j => if j < 3 then (mkS σ n k (nI z)).2 (3 * n + j) else 0) = fun _ => (0 : Int64) := by
    funext j
    by_cases hj : j < 3
    · rw [if_pos hj, mkS_C n j hj, if_pos rfl, thF0 hN, if_pos rfl]
    · rw [if_neg hj]
  unfold xItem xArr szS
  rw [e1, e2, e, hN, show ix (nI z) = z from ixn (by omega)]
  exact ⟨if_pos rfl, if_pos rfl⟩
theorem new_th {σ : Sg} {n z : Nat} {k : Int32} (hz : z ≤ 3) (hN : isNumK k = false) (hO : isOneK k = false) : xItem (mkS σ n k (nI z)) n = .inr (4, [.int (nI n), .int k, .ref (200 + n)]) ∧ xArr (mkS σ n k (nI z)) n = some (.inl (4, z, .inr (.inr (.inr (.inr (fun _ => none)))))) := by
  have e1 : (mkS σ n k (nI z)).1 1 n = k := by rw [mkS_1, if_pos rfl]
  have e2 : (mkS σ n k (nI z)).1 2 n = nI z := by rw [mkS_2, if_pos rfl, oneF0 hO, if_pos rfl]
  have e : (fun j => if j < 3 then tI (decL ((mkS σ n k (nI z)).2 (3 * n + j))) else none) = fun _ => none := by
    funext j
    by_cases hj : j < 3
    · rw [if_pos hj, mkS_C n j hj, if_pos rfl, thF2 hN hO, if_neg (by decide), decL_m1]; rfl
    · rw [if_neg hj]
  unfold xItem xArr szS
  rw [e1, e2, e, hN, hO, show ix (nI z) = z from ixn (by omega)]
  exact ⟨rfl, rfl⟩
theorem new_one {σ : Sg} {n : Nat} {k z : Int32} (hN : isNumK k = false) (hO : isOneK k = true) : xItem (mkS σ n k z) n = .inr (2, [.int (nI n), .int k, .int 0]) ∧ xArr (mkS σ n k z) n = none := by
  have e1 : (mkS σ n k z).1 1 n = k := by rw [mkS_1, if_pos rfl]
  have e3 : (mkS σ n k z).1 3 n = 0 := by rw [mkS_3, if_pos rfl]
  unfold xItem xArr
  rw [e1, e3, hN, hO]
  exact ⟨rfl, rfl⟩
