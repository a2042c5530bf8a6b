/-! the class: giveBack, exchange, split -/
def rfv (ad : Nat → Nat) (o : Option Nat) : Value := va_rf ((tI o).map ad)
theorem rfv_cat {ad : Nat → Nat} {o : Option Nat} : (rfv ad o).category = 1 := by cases o <;> rfl
theorem rfv_or {ad : Nat → Nat} {o : Option Nat} : rfv ad o = .null ∨ ∃ a, rfv ad o = .ref a := by
  cases o with
  | none => exact Or.inl rfl
  | some t => exact Or.inr ⟨_, rfl⟩
theorem lv_aloadR {p : Program} {l : Launch} {e : Env} {R : Room} {s : State} {m : MethodId} {args : Array Value} {below : List Frame} {meth : Method} {c : Code} {H : Heap} {locs : List Loc} {cells slots : Nat} {Q : State → Prop} {cc : ByteArray} {pc : Nat} {ls : Array Slot} {rest : List Value} {ad : Nat → Nat} {o : Option Nat} (hexec : p.tables.exec = Jvm.exec) (hb : c.code = cc) {i : Nat} (hdg : decode cc pc = .ok (.aload i, 2)) (hl : ls[i]? = some (.val (rfv ad o))) (k : W p l e R s m args below meth c H locs cells slots Q (F0 m (pc + 2) ls (rfv ad o :: rest))) : W p l e R s m args below meth c H locs cells slots Q (F0 m pc ls rest) := by
  cases o with
  | none => exact lv_aloadN hexec hb hdg hl k
  | some t => exact lv_aload hexec hb hdg hl k
theorem lv_astoreR {p : Program} {l : Launch} {e : Env} {R : Room} {s : State} {m : MethodId} {args : Array Value} {below : List Frame} {meth : Method} {c : Code} {H : Heap} {locs : List Loc} {cells slots : Nat} {Q : State → Prop} {cc : ByteArray} {pc : Nat} {ls : Array Slot} {rest : List Value} {ad : Nat → Nat} {o : Option Nat} (hexec : p.tables.exec = Jvm.exec) (hb : c.code = cc) {i nL : Nat} {lv lv' : List (Nat × Value)} (hdg : decode cc pc = .ok (.astore i, 2)) (h : lv_has ls nL lv) (hn : i < nL) (hl : (i, rfv ad o) :: lv.filter (fun q => !(q.1 == i) && !(q.1 + 1 == i && q.2.category == 2)) = lv') (kk : ∀ ls' : Array Slot, lv_has ls' nL lv' → W p l e R s m args below meth c H locs cells slots Q (F0 m (pc + 2) ls' rest)) : W p l e R s m args below meth c H locs cells slots Q (F0 m pc ls (rfv ad o :: rest)) := by
  cases o with
  | none => exact lv_astoreN hexec hb hdg h hn hl kk
  | some t => exact lv_astore hexec hb hdg h hn hl kk
theorem tw_lvl {k K maxL : Nat} (h : k + 1 ≤ K) (h2 : maxL ≤ 21) : k + 1 ≤ (tw_R K 0 0).frames ∧ 8 + (maxL + 11) + 40 * k ≤ (tw_R K 0 0).locals := ⟨h, by show _ ≤ 40 * K; omega⟩

set_option maxHeartbeats 2000000 in
set_option maxRecDepth 100000 in
theorem c_X0_giveBack (l : Launch) (D : tw_G) (ad : Nat → Nat) (b : tw_W) (σ : Sg) (h : Int32) (Q : Nat → Int32) (sz : Nat) (r d k : Nat) (hr8 : r < 8) (hd4 : d < 4) (hc : d < dcS σ r) (h6 : k < 60) : Met l yX0_giveBack (tw_w yX0_giveBack cX0_giveBack 3 none) (tw_R 0 0 0) (tw_Pc D ad (wX b σ h Q) sz [.ref (ad (30 + (4 * r + d))), .ref (ad (100 + k)), .int h]) (tw_Q D ad (wX b (sI (sI (sI σ 12 (4 * r + d) (σ.1 12 (4 * r + d) + 1)) 13 (4 * r + d) (nI k)) 14 (4 * r + d) 1) h Q) (tw_A ad (wX b σ h Q) sz) none) 0 0 (tw_A ad (wX b σ h Q) sz) := by
  refine tw_met (by decide) rfl (by simp [lg_sl, Value.category]) (fun p e s m below meth c ls S hK hr hlocks hnm hsz hI hl => ?_)
  have hx := S.1
  have hb := S.2.1
  have hl : lv_has ls 3 [(0, .ref (ad (30 + (4 * r + d)))), (1, .ref (ad (100 + k))), (2, .int h)] := hl
  refine lv_aload_n hx hb dX0_giveBack_0 rfl (lv_at hl 0 rfl) ?_
  refine lv_dup hx hb dX0_giveBack_1 rfl ?_
  refine f0_20_0 S hK hI (wX_desk hr8 hd4 hc) rfl (v' := .int (σ.1 12 (4 * r + d))) rfl dX0_giveBack_2 ?_
  refine lv_topi (fun x1 e1 => ?_)
  refine lv_iconst (v := 1) hx hb dX0_giveBack_5 (by decide) ?_
  refine lv_iadd hx hb dX0_giveBack_6 ?_
  refine lv_topi (fun x2 e2 => ?_)
  refine pd_20 (d := 4 * r + d) S hK hI (by omega) (deskC hd4 hc) dX0_giveBack_7 (fun H locs hI => ?_)
  refine lv_aload_n hx hb dX0_giveBack_10 rfl (lv_at hl 0 rfl) ?_
  refine lv_aload_n hx hb dX0_giveBack_11 rfl (lv_at hl 1 rfl) ?_
  refine pd_23 (d := 4 * r + d) S hK hI (by omega) (deskC hd4 hc) h6 dX0_giveBack_12 (fun H locs hI => ?_)
  refine lv_aload_n hx hb dX0_giveBack_15 rfl (lv_at hl 0 rfl) ?_
  refine lv_iload_n hx hb dX0_giveBack_16 rfl (lv_at hl 2 rfl) ?_
  refine pd_26 (d := 4 * r + d) S hK hI (by omega) (deskC hd4 hc) dX0_giveBack_17 (fun H locs hI => ?_)
  subst e2
  subst e1
  exact tw_vret S hr hlocks hI dX0_giveBack_20

set_option maxHeartbeats 2000000 in
set_option maxRecDepth 100000 in
theorem c_X0_exchange (l : Launch) (D : tw_G) (ad : Nat → Nat) (b : tw_W) (σ : Sg) (h : Int32) (Q : Nat → Int32) (sz : Nat) (r d k : Nat) (hr8 : r < 8) (hd4 : d < 4) (hc : d < dcS σ r) (h6 : k < 60) : Met l yX0_exchange (tw_w yX0_exchange cX0_exchange 3 (some (.object "MailRooms$Item"))) (tw_R 0 0 0) (tw_Pc D ad (wX b σ h Q) sz [.ref (ad (30 + (4 * r + d))), .ref (ad (100 + k))]) (tw_Q D ad (wX b (sI σ 10 (4 * r + d) (nI k)) h Q) (tw_A ad (wX b σ h Q) sz) (some (rfv ad (dec (σ.1 10 (4 * r + d)))))) 0 0 (tw_A ad (wX b σ h Q) sz) := by
  refine tw_met (by decide) rfl (by simp [lg_sl, Value.category]) (fun p e s m below meth c ls S hK hr hlocks hnm hsz hI hl => ?_)
  have hx := S.1
  have hb := S.2.1
  have hl : lv_has ls 3 [(0, .ref (ad (30 + (4 * r + d)))), (1, .ref (ad (100 + k)))] := hl
  refine lv_aload_n hx hb dX0_exchange_0 rfl (lv_at hl 0 rfl) ?_
  refine f0_16_0 S hK hI (wX_desk hr8 hd4 hc) (v := va_rf (tI (dec (σ.1 10 (4 * r + d))))) rfl (v' := rfv ad (dec (σ.1 10 (4 * r + d)))) (tw_v_rf ad _) dX0_exchange_1 ?_
  obtain ⟨w9, ew9⟩ : ∃ w9 : Option Nat, dec (σ.1 10 (4 * r + d)) = w9 := ⟨_, rfl⟩
  rw [ew9]
  cases w9 with
  | none =>
    refine lv_astore_nN (lv' := [(2, .null), (0, .ref (ad (30 + (4 * r + d)))), (1, .ref (ad (100 + k)))]) hx hb dX0_exchange_4 rfl hl (by decide) rfl (fun ls hl => ?_)
    refine lv_aload_n hx hb dX0_exchange_5 rfl (lv_at hl 1 rfl) ?_
    refine lv_aload_n hx hb dX0_exchange_6 rfl (lv_at hl 2 rfl) ?_
    refine pd_16 (d := 4 * r + d) S hK hI (by omega) (deskC hd4 hc) h6 dX0_exchange_7 (fun H locs hI => ?_)
    refine lv_aload_nN hx hb dX0_exchange_10 rfl (lv_at hl 0 rfl) ?_
    exact tw_aret S hr (Or.inl rfl) hlocks hI dX0_exchange_11
  | some w9 =>
    refine lv_astore_n (lv' := [(2, .ref (ad (100 + w9))), (0, .ref (ad (30 + (4 * r + d)))), (1, .ref (ad (100 + k)))]) hx hb dX0_exchange_4 rfl hl (by decide) rfl (fun ls hl => ?_)
    refine lv_aload_n hx hb dX0_exchange_5 rfl (lv_at hl 1 rfl) ?_
    refine lv_aload_n hx hb dX0_exchange_6 rfl (lv_at hl 2 rfl) ?_
    refine pd_16 (d := 4 * r + d) S hK hI (by omega) (deskC hd4 hc) h6 dX0_exchange_7 (fun H locs hI => ?_)
    refine lv_aload_n hx hb dX0_exchange_10 rfl (lv_at hl 0 rfl) ?_
    exact tw_aret S hr (Or.inr ⟨_, rfl⟩) hlocks hI dX0_exchange_11

def passC (l : Launch) (D : tw_G) (ad : Nat → Nat) (b : tw_W) (h : Int32) (Q : Nat → Int32) (n r : Nat) : Prop := ∀ (σ : Sg) (sz B t : Nat), INV σ B → B + cN n < 2 ^ 62 → t < nS σ → Met l yX6_pass (tw_w yX6_pass cX6_pass 7 (some (.object "MailRooms$Item"))) (tw_R (4 * n + 3) 0 0) (tw_Pc D ad (wX b σ h Q) sz [.ref (ad 0), .ref (ad (100 + t)), .int (nI r)]) (tw_Q D ad (wX b (passF n r σ t).2 h Q) (tw_A ad (wX b σ h Q) sz) (some (rfv ad (passF n r σ t).1))) 0 0 (tw_A ad (wX b σ h Q) sz)
def spF (n r : Nat) (σ : Sg) (q : Nat) : Sg := (passF n r σ q).2
theorem spF_Sp {n r : Nat} (e : r + n = 8) : Sp (cN n) (spF n r) := Sp_pass e

set_option maxHeartbeats 2000000 in
set_option maxRecDepth 100000 in
theorem lb_X6_split {p : Program} {l : Launch} {e : Env} {s : State} {m : MethodId} {av : Array Value} {below : List Frame} {meth : Method} {c : Code} {H : Heap} {locs : List Loc} {Z : State → Prop} {ls : Array Slot} {D : tw_G} {A : Nat → Prop} {ad : Nat → Nat} {b : tw_W} {σ : Sg} {h : Int32} {Q : Nat → Int32} {n r k i B : Nat} (S : CallFix p m c cX6_split 6 s av tw_ws RX6) (hK : tw_K D s) (hP : passC l D ad b h Q n r) (hI : tw_I D A ad (wX b σ h Q) s.heap H locs) (hl : lv_has ls 6 [(4, .int (nI i)), (3, .ref (ad (100 + k))), (0, .ref (ad 0)), (1, .ref (ad (100 + k))), (2, .int (nI r))]) (hV : INV σ B) (hB : B + cN n < 2 ^ 62) (hn : k < nS σ) (h6 : k < 60) (hN : isNumK (σ.1 1 k) = false) (hO : isOneK (σ.1 1 k) = false) (hz : szS σ k ≤ 3) (hi : i < szS σ k) (kk : ∀ (H1 : Heap) (locs1 : List Loc) (ls1 : Array Slot), tw_I D A ad (wX b (stepF (spF n r) σ (3 * k + i)) h Q) s.heap H1 locs1 → lv_has ls1 6 [(4, .int (nI (i + 1))), (3, .ref (ad (100 + k))), (0, .ref (ad 0)), (1, .ref (ad (100 + k))), (2, .int (nI r))] → W p l e (tw_R (4 * n + 4) 0 0) s m av below meth c H1 locs1 0 0 Z (F0 m 15 ls1 [])) : W p l e (tw_R (4 * n + 4) 0 0) s m av below meth c H locs 0 0 Z (F0 m 15 ls []) := by
  have hx := S.1
  have hb := S.2.1
  rcases cell_or hV.1 hV.2.2.1 hn hN hi with ⟨e1, e2⟩ | ⟨q, hq, hq6, e1, e2⟩
  · refine lv_iload hx hb dX6_split_15 (lv_at hl 0 rfl) ?_
    refine lv_aload_n hx hb dX6_split_17 rfl (lv_at hl 1 rfl) ?_
    refine f6_94_5 S hK hI (xI_th hn h6 hN hO) rfl (v' := .ref (ad (200 + k))) rfl dX6_split_18 ?_
    refine tw_alen S hK hI (t := 200 + k) (xA_th hn h6 hN hO) rfl (v := nI (szS σ k)) rfl dX6_split_21 ?_
    refine lv_icmp_ge (tgt := 53) hx hb dX6_split_22 (by decide) (fun c1 => ?_) (fun c1 => ?_)
    · exact absurd c1 (nI_ge hi (by omega))
    · refine lv_aload_n hx hb dX6_split_25 rfl (lv_at hl 1 rfl) ?_
      refine f6_94_5 S hK hI (xI_th hn h6 hN hO) rfl (v' := .ref (ad (200 + k))) rfl dX6_split_26 ?_
      refine lv_iload hx hb dX6_split_29 (lv_at hl 0 rfl) ?_
      refine xl_th (k := k) (i := i) (v := .null) S hK hI hn h6 hN hO hi (by omega) (by omega) (by rw [e2]; rfl) dX6_split_31 ?_
      refine lv_astoreN (lv' := [(5, .null), (4, .int (nI i)), (3, .ref (ad (100 + k))), (0, .ref (ad 0)), (1, .ref (ad (100 + k))), (2, .int (nI r))]) hx hb dX6_split_32 hl (by decide) rfl (fun ls hl => ?_)
      refine lv_aloadN hx hb dX6_split_34 (lv_at hl 0 rfl) ?_
      refine lv_ifnullN (tgt := 47) hx hb dX6_split_36 (by decide) ?_
      refine lv_iinc (v := nI (i + 1)) (lv' := [(4, .int (nI (i + 1))), (5, .null), (3, .ref (ad (100 + k))), (0, .ref (ad 0)), (1, .ref (ad (100 + k))), (2, .int (nI r))]) hx hb dX6_split_47 hl (k := 1) rfl (nA (a := i) (b := 1) (c := i + 1) (by omega)) (by decide) rfl (fun ls hl => ?_)
      refine lv_goto (tgt := 15) hx hb dX6_split_50 (by decide) ?_
      refine kk _ _ _ (by rw [step_nil e1]; exact hI) (lv_sub hl [0, 2, 3, 4, 5] rfl)
  · refine lv_iload hx hb dX6_split_15 (lv_at hl 0 rfl) ?_
    refine lv_aload_n hx hb dX6_split_17 rfl (lv_at hl 1 rfl) ?_
    refine f6_94_5 S hK hI (xI_th hn h6 hN hO) rfl (v' := .ref (ad (200 + k))) rfl dX6_split_18 ?_
    refine tw_alen S hK hI (t := 200 + k) (xA_th hn h6 hN hO) rfl (v := nI (szS σ k)) rfl dX6_split_21 ?_
    refine lv_icmp_ge (tgt := 53) hx hb dX6_split_22 (by decide) (fun c2 => ?_) (fun c2 => ?_)
    · exact absurd c2 (nI_ge hi (by omega))
    · refine lv_aload_n hx hb dX6_split_25 rfl (lv_at hl 1 rfl) ?_
      refine f6_94_5 S hK hI (xI_th hn h6 hN hO) rfl (v' := .ref (ad (200 + k))) rfl dX6_split_26 ?_
      refine lv_iload hx hb dX6_split_29 (lv_at hl 0 rfl) ?_
      refine xl_th (k := k) (i := i) (v := .ref (ad (100 + q))) S hK hI hn h6 hN hO hi (by omega) (by omega) (by rw [e2]; rfl) dX6_split_31 ?_
      refine lv_astore (lv' := [(5, .ref (ad (100 + q))), (4, .int (nI i)), (3, .ref (ad (100 + k))), (0, .ref (ad 0)), (1, .ref (ad (100 + k))), (2, .int (nI r))]) hx hb dX6_split_32 hl (by decide) rfl (fun ls hl => ?_)
      refine lv_aload hx hb dX6_split_34 (lv_at hl 0 rfl) ?_
      refine lv_ifnull hx hb dX6_split_36 ?_
      refine lv_aload_n hx hb dX6_split_39 rfl (lv_at hl 3 rfl) ?_
      refine lv_aload hx hb dX6_split_40 (lv_at hl 0 rfl) ?_
      refine lv_iload_n hx hb dX6_split_42 rfl (lv_at hl 5 rfl) ?_
      refine tw_calla (tw_rV (As := [.ref (ad (100 + q)), .int (nI r)]) (rest := []) S hK hI kX6_145 (hP _ _ _ _ hV hB hq) wX_0 rfl rfl (tw_lvl (by omega) (by decide)) ⟨Nat.le_of_ble_eq_true rfl, Nat.le_of_ble_eq_true rfl⟩ rfl hl.1 rfl (Nat.le_of_ble_eq_true rfl) dX6_split_43) hI (fun H locs hI => ?_)
      refine lv_pop hx hb dX6_split_46 rfv_cat ?_
      refine lv_iinc (v := nI (i + 1)) (lv' := [(4, .int (nI (i + 1))), (5, .ref (ad (100 + q))), (3, .ref (ad (100 + k))), (0, .ref (ad 0)), (1, .ref (ad (100 + k))), (2, .int (nI r))]) hx hb dX6_split_47 hl (k := 1) rfl (nA (a := i) (b := 1) (c := i + 1) (by omega)) (by decide) rfl (fun ls hl => ?_)
      refine lv_goto (tgt := 15) hx hb dX6_split_50 (by decide) ?_
      refine kk _ _ _ (by rw [step_q (by omega) e1]; exact hI) (lv_sub hl [0, 2, 3, 4, 5] rfl)

set_option maxRecDepth 100000 in
theorem ll_X6_split {p : Program} {l : Launch} {e : Env} {s : State} {m : MethodId} {av : Array Value} {below : List Frame} {meth : Method} {c : Code} {Z : State → Prop} {D : tw_G} {A : Nat → Prop} {ad : Nat → Nat} {b : tw_W} {h : Int32} {Q : Nat → Int32} {n r k : Nat} (S : CallFix p m c cX6_split 6 s av tw_ws RX6) (hK : tw_K D s) (hP : passC l D ad b h Q n r) (er : r + n = 8) (h6 : k < 60) : ∀ (y i : Nat) (σ : Sg) (B : Nat) (H : Heap) (locs : List Loc) (ls : Array Slot), INV σ B → B + y * cN n < 2 ^ 62 → i + y = szS σ k → k < nS σ → isNumK (σ.1 1 k) = false → isOneK (σ.1 1 k) = false → tw_I D A ad (wX b σ h Q) s.heap H locs → lv_has ls 6 [(4, .int (nI i)), (3, .ref (ad (100 + k))), (0, .ref (ad 0)), (1, .ref (ad (100 + k))), (2, .int (nI r))] → (∀ (H1 : Heap) (locs1 : List Loc) (ls1 : Array Slot), Kp σ (B + y * cN n) (eachF (spF n r) k y i σ) → tw_I D A ad (wX b (eachF (spF n r) k y i σ) h Q) s.heap H1 locs1 → lv_has ls1 6 [(4, .int (nI (szS σ k))), (3, .ref (ad (100 + k))), (0, .ref (ad 0)), (1, .ref (ad (100 + k))), (2, .int (nI r))] → W p l e (tw_R (4 * n + 4) 0 0) s m av below meth c H1 locs1 0 0 Z (F0 m 15 ls1 [])) → W p l e (tw_R (4 * n + 4) 0 0) s m av below meth c H locs 0 0 Z (F0 m 15 ls [])
  | 0, i, σ, B, H, locs, ls, hV, hB, e, hn, hN, hO, hI, hl, kk => by
    have ei : i = szS σ k := by omega
    subst ei
    exact kk H locs ls (by rw [Nat.zero_mul]; exact Kp.refl hV) hI hl
  | y + 1, i, σ, B, H, locs, ls, hV, hB, e, hn, hN, hO, hI, hl, kk => by
    rw [Nat.succ_mul y (cN n)] at hB kk
    have h1 := step_Kp (f := spF n r) (s := cN n) (k := k) (i := i) (spF_Sp er) hV (by omega) hn hN (by omega)
    have e0 : eachF (spF n r) k (y + 1) i σ = eachF (spF n r) k y (i + 1) (stepF (spF n r) σ (3 * k + i)) := rfl
    rw [e0] at kk
    refine lb_X6_split S hK hP hI hl hV (by omega) hn h6 hN hO (okZ hV.1 h6).1 (by omega) (fun H1 locs1 ls1 hI1 hl1 => ?_)
    generalize stepF (spF n r) σ (3 * k + i) = τ at h1 hI1 kk
    refine ll_X6_split S hK hP er h6 y (i + 1) τ (B + cN n) H1 locs1 ls1 h1.1 (by omega) ?_ ?_ ?_ ?_ hI1 hl1 (fun H2 locs2 ls2 k2 hI2 hl2 => ?_)
    · rw [h1.sz]; omega
    · rw [h1.n]; exact hn
    · rw [h1.2 1 (by decide)]; exact hN
    · rw [h1.2 1 (by decide)]; exact hO
    · rw [h1.sz] at hl2
      exact kk H2 locs2 ls2 ((h1.trans k2).mono (by omega)) hI2 hl2
set_option maxHeartbeats 2000000 in
set_option maxRecDepth 100000 in
theorem c_X6_split_num (l : Launch) (D : tw_G) (ad : Nat → Nat) (b : tw_W) (σ : Sg) (h : Int32) (Q : Nat → Int32) (sz : Nat) (n r k B : Nat) (hP : passC l D ad b h Q n r) (er : r + n = 8) (hV : INV σ B) (hB : B + 3 * cN n < 2 ^ 62) (hn : k < nS σ) (h6 : k < 60) (hN : isNumK (σ.1 1 k) = true) : Met l yX6_split (tw_w yX6_split cX6_split 6 none) (tw_R (4 * n + 4) 0 0) (tw_Pc D ad (wX b σ h Q) sz [.ref (ad 0), .ref (ad (100 + k)), .int (nI r)]) (tw_Q D ad (wX b ((if isThF (σ.1 1 k) = 0 then σ else eachF (spF n r) k (szS σ k) 0 σ)) h Q) (tw_A ad (wX b σ h Q) sz) none) 0 0 (tw_A ad (wX b σ h Q) sz) := by
  refine tw_met (by decide) rfl (by simp [lg_sl, Value.category]) (fun p e s m below meth c ls S hK hr hlocks hnm hsz hI hl => ?_)
  have hx := S.1
  have hb := S.2.1
  have hl : lv_has ls 6 [(0, .ref (ad 0)), (1, .ref (ad (100 + k))), (2, .int (nI r))] := hl
  refine lv_aload_n hx hb dX6_split_0 rfl (lv_at hl 1 rfl) ?_
  refine tw_inst0 (nm := RX5) S hK hI (tw_mem (by decide +kernel) rfl) (xI_num hn h6 hN) rfl (by decide) dX6_split_1 ?_
  refine lv_if_eq (tgt := 53) hx hb dX6_split_4 (by decide) (fun c1 => ?_) (fun c1 => ?_)
  · rw [thF0 hN, if_pos rfl]
    try rw [if_pos (show (0 : Int32) = 0 from by decide)]
    exact tw_vret S hr hlocks hI dX6_split_53
  · exact absurd c1 (by decide)

set_option maxHeartbeats 2000000 in
set_option maxRecDepth 100000 in
theorem c_X6_split_one (l : Launch) (D : tw_G) (ad : Nat → Nat) (b : tw_W) (σ : Sg) (h : Int32) (Q : Nat → Int32) (sz : Nat) (n r k B : Nat) (hP : passC l D ad b h Q n r) (er : r + n = 8) (hV : INV σ B) (hB : B + 3 * cN n < 2 ^ 62) (hn : k < nS σ) (h6 : k < 60) (hN : isNumK (σ.1 1 k) = false) (hO : isOneK (σ.1 1 k) = true) : Met l yX6_split (tw_w yX6_split cX6_split 6 none) (tw_R (4 * n + 4) 0 0) (tw_Pc D ad (wX b σ h Q) sz [.ref (ad 0), .ref (ad (100 + k)), .int (nI r)]) (tw_Q D ad (wX b ((if isThF (σ.1 1 k) = 0 then σ else eachF (spF n r) k (szS σ k) 0 σ)) h Q) (tw_A ad (wX b σ h Q) sz) none) 0 0 (tw_A ad (wX b σ h Q) sz) := by
  refine tw_met (by decide) rfl (by simp [lg_sl, Value.category]) (fun p e s m below meth c ls S hK hr hlocks hnm hsz hI hl => ?_)
  have hx := S.1
  have hb := S.2.1
  have hl : lv_has ls 6 [(0, .ref (ad 0)), (1, .ref (ad (100 + k))), (2, .int (nI r))] := hl
  refine lv_aload_n hx hb dX6_split_0 rfl (lv_at hl 1 rfl) ?_
  refine tw_inst0 (nm := RX5) S hK hI (tw_mem (by decide +kernel) rfl) (xI_one hn h6 hN hO) rfl (by decide) dX6_split_1 ?_
  refine lv_if_eq (tgt := 53) hx hb dX6_split_4 (by decide) (fun c1 => ?_) (fun c1 => ?_)
  · rw [thF1 hO, if_pos rfl]
    try rw [if_pos (show (0 : Int32) = 0 from by decide)]
    exact tw_vret S hr hlocks hI dX6_split_53
  · exact absurd c1 (by decide)

set_option maxHeartbeats 2000000 in
set_option maxRecDepth 100000 in
theorem c_X6_split_th (l : Launch) (D : tw_G) (ad : Nat → Nat) (b : tw_W) (σ : Sg) (h : Int32) (Q : Nat → Int32) (sz : Nat) (n r k B : Nat) (hP : passC l D ad b h Q n r) (er : r + n = 8) (hV : INV σ B) (hB : B + 3 * cN n < 2 ^ 62) (hn : k < nS σ) (h6 : k < 60) (hN : isNumK (σ.1 1 k) = false) (hO : isOneK (σ.1 1 k) = false) : Met l yX6_split (tw_w yX6_split cX6_split 6 none) (tw_R (4 * n + 4) 0 0) (tw_Pc D ad (wX b σ h Q) sz [.ref (ad 0), .ref (ad (100 + k)), .int (nI r)]) (tw_Q D ad (wX b ((if isThF (σ.1 1 k) = 0 then σ else eachF (spF n r) k (szS σ k) 0 σ)) h Q) (tw_A ad (wX b σ h Q) sz) none) 0 0 (tw_A ad (wX b σ h Q) sz) := by
  have hz := (okZ hV.1 h6).1
  have hm : szS σ k * cN n ≤ 3 * cN n := Nat.mul_le_mul_right _ hz
  refine tw_met (by decide) rfl (by simp [lg_sl, Value.category]) (fun p e s m below meth c ls S hK hr hlocks hnm hsz hI hl => ?_)
  have hx := S.1
  have hb := S.2.1
  have hl : lv_has ls 6 [(0, .ref (ad 0)), (1, .ref (ad (100 + k))), (2, .int (nI r))] := hl
  refine lv_aload_n hx hb dX6_split_0 rfl (lv_at hl 1 rfl) ?_
  refine tw_inst1 (nm := RX5) S hK hI (tw_mem (by decide +kernel) rfl) (xI_th hn h6 hN hO) rfl (tw_memN (by decide +kernel) rfl) dX6_split_1 ?_
  refine lv_if_eq (tgt := 53) hx hb dX6_split_4 (by decide) (fun c1 => ?_) (fun c1 => ?_)
  · exact absurd c1 (by decide)
  · refine lv_aload_n hx hb dX6_split_7 rfl (lv_at hl 1 rfl) ?_
    refine tw_cast (nm := RX5) S hK hI (tw_mem (by decide +kernel) rfl) (xI_th hn h6 hN hO) rfl (tw_memN (by decide +kernel) rfl) dX6_split_8 ?_
    refine lv_astore_n (lv' := [(3, .ref (ad (100 + k))), (0, .ref (ad 0)), (1, .ref (ad (100 + k))), (2, .int (nI r))]) hx hb dX6_split_11 rfl hl (by decide) rfl (fun ls hl => ?_)
    refine lv_iconst (v := 0) hx hb dX6_split_12 (by decide) ?_
    refine lv_istore (lv' := [(4, .int 0), (3, .ref (ad (100 + k))), (0, .ref (ad 0)), (1, .ref (ad (100 + k))), (2, .int (nI r))]) hx hb dX6_split_13 hl (by decide) rfl (fun ls hl => ?_)
    refine ll_X6_split S hK hP er h6 (szS σ k) 0 σ B _ _ _ hV (by omega) (by omega) hn hN hO hI (lv_sub hl [0, 1, 2, 3, 4] rfl) (fun H locs ls hk2 hI hl => ?_)
    obtain ⟨τ, eτ⟩ : ∃ τ : Sg, eachF (spF n r) k (szS σ k) 0 σ = τ := ⟨_, rfl⟩
    rw [eτ] at hk2 hI
    have hn' : k < nS τ := by rw [hk2.n]; exact hn
    have hN' : isNumK (τ.1 1 k) = false := by rw [hk2.2 1 (by decide)]; exact hN
    have hO' : isOneK (τ.1 1 k) = false := by rw [hk2.2 1 (by decide)]; exact hO
    refine lv_iload hx hb dX6_split_15 (lv_at hl 0 rfl) ?_
    refine lv_aload_n hx hb dX6_split_17 rfl (lv_at hl 1 rfl) ?_
    refine f6_94_5 S hK hI (xI_th hn' h6 hN' hO') rfl (v' := .ref (ad (200 + k))) rfl dX6_split_18 ?_
    refine tw_alen S hK hI (t := 200 + k) (xA_th hn' h6 hN' hO') rfl (v := nI (szS σ k)) (congrArg nI (hk2.sz k)) dX6_split_21 ?_
    refine lv_icmp_ge (tgt := 53) hx hb dX6_split_22 (by decide) (fun c2 => ?_) (fun c2 => ?_)
    · rw [thF2 hN hO, if_neg (show ¬ (1 : Int32) = 0 by decide), eτ]
      try rw [if_neg (show ¬ (1 : Int32) = 0 from by decide)]
      exact tw_vret S hr hlocks hI dX6_split_53
    · exact absurd (nI_le (Nat.le_refl (szS σ k)) (by omega)) c2

theorem c_X6_split (l : Launch) (D : tw_G) (ad : Nat → Nat) (b : tw_W) (σ : Sg) (h : Int32) (Q : Nat → Int32) (sz : Nat) (n r k B : Nat) (hP : passC l D ad b h Q n r) (er : r + n = 8) (hV : INV σ B) (hB : B + 3 * cN n < 2 ^ 62) (hn : k < nS σ) (h6 : k < 60) : Met l yX6_split (tw_w yX6_split cX6_split 6 none) (tw_R (4 * n + 4) 0 0) (tw_Pc D ad (wX b σ h Q) sz [.ref (ad 0), .ref (ad (100 + k)), .int (nI r)]) (tw_Q D ad (wX b (if isThF (σ.1 1 k) = 0 then σ else eachF (spF n r) k (szS σ k) 0 σ) h Q) (tw_A ad (wX b σ h Q) sz) none) 0 0 (tw_A ad (wX b σ h Q) sz) := by
  cases hN : isNumK (σ.1 1 k) with
  | true => exact c_X6_split_num l D ad b σ h Q sz n r k B hP er hV hB hn h6 hN
  | false =>
    cases hO : isOneK (σ.1 1 k) with
    | true => exact c_X6_split_one l D ad b σ h Q sz n r k B hP er hV hB hn h6 hN hO
    | false => exact c_X6_split_th l D ad b σ h Q sz n r k B hP er hV hB hn h6 hN hO