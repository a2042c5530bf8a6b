/-! the class: grow -/
theorem step_Kp {f : Sg → Nat → Sg} {s k i : Nat} (hf : ∀ (σ : Sg) (B q : Nat), INV σ B → B + s < 2 ^ 62 → q < nS σ → Kp σ (B + s) (f σ q)) {σ : Sg} {B : Nat} (h : INV σ B) (hB : B + s < 2 ^ 62) (hk : k < nS σ) (hN : isNumK (σ.1 1 k) = false) (hi : i < szS σ k) : Kp σ (B + s) (stepF f σ (3 * k + i)) := by
  rcases cell_or h.1 h.2.2.1 hk hN hi with ⟨e, -⟩ | ⟨q, hq, hq6, e, -⟩
  · rw [step_nil e]; exact (Kp.refl h).mono (by omega)
  · rw [step_q (by omega) e]; exact hf σ B q h hB hq
theorem c_X2_grow (l : Launch) (D : tw_G) (ad : Nat → Nat) (b : tw_W) (σ : Sg) (h : Int32) (Q : Nat → Int32) (sz : Nat) (k : Nat) (v : Int32) (hok : okM σ) (hkd : okKd σ) (hn : k < nS σ) (h6 : k < 60) (hN : isNumK (σ.1 1 k) = true) : Met l yX2_grow (tw_w yX2_grow cX2_grow 3 none) (tw_R 1 0 0) (tw_Pc D ad (wX b σ h Q) sz [.ref (ad (100 + k)), .int v]) (tw_Q D ad (wX b (stampLowF σ k) h Q) (tw_A ad (wX b σ h Q) sz) none) 0 0 (tw_A ad (wX b σ h Q) sz) := by
  have hz := okZ hok h6
  by_cases h3 : σ.1 1 k = 3
  · rcases z_or _ hz.1 with e | e | e | e
    · exact c_X2_grow_0s l D ad b σ h Q sz k v hkd hn h6 hN e (by rw [hz.2, e]; rfl) h3
    · exact c_X2_grow_1s l D ad b σ h Q sz k v hkd hn h6 hN e (by rw [hz.2, e]; rfl) h3
    · exact c_X2_grow_2s l D ad b σ h Q sz k v hkd hn h6 hN e (by rw [hz.2, e]; rfl) h3
    · exact c_X2_grow_3s l D ad b σ h Q sz k v hkd hn h6 hN e (by rw [hz.2, e]; rfl) h3
  · rcases z_or _ hz.1 with e | e | e | e
    · exact c_X2_grow_0n l D ad b σ h Q sz k v hkd hn h6 hN e (by rw [hz.2, e]; rfl) h3
    · exact c_X2_grow_1n l D ad b σ h Q sz k v hkd hn h6 hN e (by rw [hz.2, e]; rfl) h3
    · exact c_X2_grow_2n l D ad b σ h Q sz k v hkd hn h6 hN e (by rw [hz.2, e]; rfl) h3
    · exact c_X2_grow_3n l D ad b σ h Q sz k v hkd hn h6 hN e (by rw [hz.2, e]; rfl) h3
theorem wX_set3 {b : tw_W} {σ : Sg} {h : Int32} {Q : Nat → Int32} {k : Nat} {v : Int32} (hn : k < nS σ) (h6 : k < 60) (hN : isNumK (σ.1 1 k) = false) (hO : isOneK (σ.1 1 k) = true) : va_up (wX b σ h Q) (100 + k) (some (.inr (2, [.int (nI k), .int (σ.1 1 k), .int v]))) = wX b (sI σ 3 k v) h Q := by
  have e : xItem (sI σ 3 k v) k = .inr (2, [.int (nI k), .int (σ.1 1 k), .int v]) := by
    unfold xItem
    rw [show (sI σ 3 k v).1 1 k = σ.1 1 k from rfl, hN, hO, sI_at]
    rfl
  rw [← e, wX_g, g_item hn h6, up_eq (g := xItem (sI σ 3 k v)) (fun i hi => by
    unfold xItem
    rw [sI_off _ _ _ hi]
    rfl)]
  rfl
theorem pp_9 {p : Program} {l : Launch} {e : Env} {R : Room} {s : State} {m : MethodId} {args : Array Value} {below : List Frame} {meth : Method} {c : Code} {H : Heap} {locs : List Loc} {cells slots : Nat} {Z : State → Prop} {cc : ByteArray} {pc nL : Nat} {ls : Array Slot} {rest : List Value} {D : tw_G} {A : Nat → Prop} {ad : Nat → Nat} {b : tw_W} {σ : Sg} {h : Int32} {Q : Nat → Int32} {k : Nat} {v : Int32} (S : CallFix p m c cc nL s args tw_ws RX3) (hK : tw_K D s) (hI : tw_I D A ad (wX b σ h Q) s.heap H locs) (hn : k < nS σ) (h6 : k < 60) (hN : isNumK (σ.1 1 k) = false) (hO : isOneK (σ.1 1 k) = true) (hdg : decode cc pc = .ok (.putfield 9, 3)) (kk : ∀ (H1 : Heap) (locs1 : List Loc), tw_I D A ad (wX b (sI σ 3 k v) h Q) s.heap H1 locs1 → W p l e R s m args below meth c H1 locs1 cells slots Z (F0 m (pc + 3) ls rest)) : W p l e R s m args below meth c H locs cells slots Z (F0 m pc ls (.int v :: .ref (ad (100 + k)) :: rest)) :=
  p3_9_3 S hK hI (xI_one hn h6 hN hO) (v := .int v) rfl rfl rfl (Nat.le_of_ble_eq_true rfl) hdg (fun H1 locs1 h1 => kk H1 locs1 (by
    rw [← wX_set3 hn h6 hN hO]
    exact h1))
set_option maxHeartbeats 2000000 in
set_option maxRecDepth 100000 in
theorem c_X3_grow (l : Launch) (D : tw_G) (ad : Nat → Nat) (b : tw_W) (σ : Sg) (h : Int32) (Q : Nat → Int32) (sz : Nat) (k : Nat) (v : Int32) (hn : k < nS σ) (h6 : k < 60) (hN : isNumK (σ.1 1 k) = false) (hO : isOneK (σ.1 1 k) = true) : Met l yX3_grow (tw_w yX3_grow cX3_grow 2 none) (tw_R 0 0 0) (tw_Pc D ad (wX b σ h Q) sz [.ref (ad (100 + k)), .int v]) (tw_Q D ad (wX b (stampLowF σ k) h Q) (tw_A ad (wX b σ h Q) sz) none) 0 0 (tw_A ad (wX b σ h Q) sz) := by
  refine tw_met (by decide) rfl (by simp [lg_sl, Value.category]) (fun p e s m below meth c ls S hK hr hlocks hnm hsz hI hl => ?_)
  have hx := S.1
  have hb := S.2.1
  have hl : lv_has ls 2 [(0, .ref (ad (100 + k))), (1, .int v)] := hl
  refine lv_aload_n hx hb dX3_grow_0 rfl (lv_at hl 0 rfl) ?_
  refine lv_dup hx hb dX3_grow_1 rfl ?_
  refine f3_9_3 S hK hI (xI_one hn h6 hN hO) rfl (v' := .int (σ.1 3 k)) rfl dX3_grow_2 ?_
  refine lv_topi (fun x1 e1 => ?_)
  refine lv_aload_n hx hb dX3_grow_5 rfl (lv_at hl 0 rfl) ?_
  refine f3_15_3 S hK hI (xI_one hn h6 hN hO) rfl (v' := .int (σ.1 1 k)) rfl dX3_grow_6 ?_
  refine lv_topi (fun x2 e2 => ?_)
  refine lv_bipush (v := 6) hx hb dX3_grow_9 (by decide) ?_
  refine lv_icmp_ne (tgt := 18) hx hb dX3_grow_11 (by decide) (fun c3 => ?_) (fun c3 => ?_)
  · refine lv_iconst (v := 1) hx hb dX3_grow_18 (by decide) ?_
    refine lv_iadd hx hb dX3_grow_19 ?_
    refine lv_topi (fun x4 e4 => ?_)
    refine pp_9 S hK hI hn h6 hN hO dX3_grow_20 (fun H locs hI => ?_)
    subst e4
    subst e2
    subst e1
    rw [low_one hN hO]
    try rw [if_neg c3]
    exact tw_vret S hr hlocks hI dX3_grow_23
  · refine lv_iconst (v := 2) hx hb dX3_grow_14 (by decide) ?_
    refine lv_goto (tgt := 19) hx hb dX3_grow_15 (by decide) ?_
    refine lv_iadd hx hb dX3_grow_19 ?_
    refine lv_topi (fun x5 e5 => ?_)
    refine pp_9 S hK hI hn h6 hN hO dX3_grow_20 (fun H locs hI => ?_)
    subst e5
    subst e2
    subst e1
    rw [low_one hN hO]
    try rw [if_pos c3]
    exact tw_vret S hr hlocks hI dX3_grow_23

theorem kinds_low : ∀ (a q : Fin 13), ¬ 11 ≤ nI a → ¬ isThF (nI a) = 0 → ¬ goesF (nI q) (holdsF (nI a)) = 0 → isNumK (nI q) = true ∨ isOneK (nI q) = true := by decide +kernel
theorem kinds_alb : ∀ (a q : Fin 13), 11 ≤ nI a → ¬ goesF (nI q) (holdsF (nI a)) = 0 → isNumK (nI q) = false ∧ isOneK (nI q) = false ∧ ¬ 11 ≤ nI q := by decide +kernel
theorem cell_low {σ : Sg} (hok : okM σ) (hkd : okKd σ) (hT : okT σ) {k i : Nat} (hn : k < nS σ) (hN : isNumK (σ.1 1 k) = false) (hO : isOneK (σ.1 1 k) = false) (hlow : ¬ 11 ≤ σ.1 1 k) (hi : i < szS σ k) : (σ.2 (3 * k + i) = -1 ∧ decL (σ.2 (3 * k + i)) = none) ∨ (∃ q : Nat, q < nS σ ∧ q < 60 ∧ σ.2 (3 * k + i) = lN q ∧ decL (σ.2 (3 * k + i)) = some q ∧ isNumK (σ.1 1 q) = true) ∨ ∃ q : Nat, q < nS σ ∧ q < 60 ∧ σ.2 (3 * k + i) = lN q ∧ decL (σ.2 (3 * k + i)) = some q ∧ isNumK (σ.1 1 q) = false ∧ isOneK (σ.1 1 q) = true := by
  have h6 := (okN hok).1
  rcases hT k hn (numF0 hN) i hi with e | ⟨q, hq, e, hg⟩
  · exact Or.inl ⟨e, by rw [e]; exact decL_m1⟩
  · obtain ⟨a, ha, ea⟩ := hkd k hn
    obtain ⟨c, hc, ec⟩ := hkd q hq
    have hth := thF2 hN hO
    rw [ea] at hlow hth hg
    rw [ec] at hg
    have d : decL (σ.2 (3 * k + i)) = some q := by rw [e]; exact decL_lN (by omega)
    rcases kinds_low ⟨a, by omega⟩ ⟨c, by omega⟩ hlow (by show ¬ isThF (nI a) = 0; rw [hth]; decide) hg with h1 | h1
    · exact Or.inr (Or.inl ⟨q, hq, by omega, e, d, by rw [ec]; exact h1⟩)
    · cases hqN : isNumK (σ.1 1 q) with
      | true => exact Or.inr (Or.inl ⟨q, hq, by omega, e, d, hqN⟩)
      | false => exact Or.inr (Or.inr ⟨q, hq, by omega, e, d, hqN, by rw [ec]; exact h1⟩)
theorem cell_alb {σ : Sg} (hok : okM σ) (hkd : okKd σ) (hT : okT σ) {k i : Nat} (hn : k < nS σ) (hN : isNumK (σ.1 1 k) = false) (hlow : 11 ≤ σ.1 1 k) (hi : i < szS σ k) : (σ.2 (3 * k + i) = -1 ∧ decL (σ.2 (3 * k + i)) = none) ∨ ∃ q : Nat, q < nS σ ∧ q < 60 ∧ σ.2 (3 * k + i) = lN q ∧ decL (σ.2 (3 * k + i)) = some q ∧ isNumK (σ.1 1 q) = false ∧ isOneK (σ.1 1 q) = false ∧ ¬ 11 ≤ σ.1 1 q := by
  have h6 := (okN hok).1
  rcases hT k hn (numF0 hN) i hi with e | ⟨q, hq, e, hg⟩
  · exact Or.inl ⟨e, by rw [e]; exact decL_m1⟩
  · obtain ⟨a, ha, ea⟩ := hkd k hn
    obtain ⟨c, hc, ec⟩ := hkd q hq
    rw [ea] at hlow hg
    rw [ec] at hg
    have d : decL (σ.2 (3 * k + i)) = some q := by rw [e]; exact decL_lN (by omega)
    have := kinds_alb ⟨a, by omega⟩ ⟨c, by omega⟩ hlow hg
    exact Or.inr ⟨q, hq, by omega, e, d, by rw [ec]; exact this.1, by rw [ec]; exact this.2.1, by rw [ec]; exact this.2.2⟩

set_option maxHeartbeats 2000000 in
set_option maxRecDepth 100000 in
theorem lb_X5_growL {p : Program} {l : Launch} {e : Env} {s : State} {m : MethodId} {av : Array Value} {below : List Frame} {meth : Method} {c : Code} {H : Heap} {locs : List Loc} {Z : State → Prop} {ls : Array Slot} {D : tw_G} {A : Nat → Prop} {ad : Nat → Nat} {b : tw_W} {σ : Sg} {h : Int32} {Q : Nat → Int32} {k i : Nat} {v : Int32} (S : CallFix p m c cX5_grow 4 s av tw_ws RX5) (hK : tw_K D s) (hI : tw_I D A ad (wX b σ h Q) s.heap H locs) (hl : lv_has ls 4 [(2, .int (nI i)), (0, .ref (ad (100 + k))), (1, .int v)]) (hok : okM σ) (hkd : okKd σ) (hT : okT σ) (hn : k < nS σ) (h6 : k < 60) (hN : isNumK (σ.1 1 k) = false) (hO : isOneK (σ.1 1 k) = false) (hlow : ¬ 11 ≤ σ.1 1 k) (hz : szS σ k ≤ 3) (hi : i < szS σ k) (kk : ∀ (H1 : Heap) (locs1 : List Loc) (ls1 : Array Slot), tw_I D A ad (wX b (stepF stampLowF σ (3 * k + i)) h Q) s.heap H1 locs1 → lv_has ls1 4 [(2, .int (nI (i + 1))), (0, .ref (ad (100 + k))), (1, .int v)] → W p l e (tw_R 2 0 0) s m av below meth c H1 locs1 0 0 Z (F0 m 8 ls1 [])) : W p l e (tw_R 2 0 0) s m av below meth c H locs 0 0 Z (F0 m 8 ls []) := by
  have hx := S.1
  have hb := S.2.1
  rcases cell_low hok hkd hT hn hN hO hlow hi with ⟨e1, e2⟩ | ⟨q, hq, hq6, e1, e2, hqN⟩ | ⟨q, hq, hq6, e1, e2, hqN, hqO⟩
  · refine lv_iload_n hx hb dX5_grow_8 rfl (lv_at hl 0 rfl) ?_
    refine lv_aload_n hx hb dX5_grow_9 rfl (lv_at hl 1 rfl) ?_
    refine f5_9_5 S hK hI (xI_th hn h6 hN hO) rfl (v' := .ref (ad (200 + k))) rfl dX5_grow_10 ?_
    refine tw_alen S hK hI (t := 200 + k) (xA_th hn h6 hN hO) rfl (v := nI (szS σ k)) rfl dX5_grow_13 ?_
    refine lv_icmp_ge (tgt := 41) hx hb dX5_grow_14 (by decide) (fun c1 => ?_) (fun c1 => ?_)
    · exact absurd c1 (nI_ge hi (by omega))
    · refine lv_aload_n hx hb dX5_grow_17 rfl (lv_at hl 1 rfl) ?_
      refine f5_9_5 S hK hI (xI_th hn h6 hN hO) rfl (v' := .ref (ad (200 + k))) rfl dX5_grow_18 ?_
      refine lv_iload_n hx hb dX5_grow_21 rfl (lv_at hl 0 rfl) ?_
      refine xl_th (k := k) (i := i) (v := .null) S hK hI hn h6 hN hO hi (by omega) (by omega) (by rw [e2]; rfl) dX5_grow_22 ?_
      refine lv_astore_nN (lv' := [(3, .null), (2, .int (nI i)), (0, .ref (ad (100 + k))), (1, .int v)]) hx hb dX5_grow_23 rfl hl (by decide) rfl (fun ls hl => ?_)
      refine lv_aload_nN hx hb dX5_grow_24 rfl (lv_at hl 0 rfl) ?_
      refine lv_ifnullN (tgt := 35) hx hb dX5_grow_25 (by decide) ?_
      refine lv_iinc (v := nI (i + 1)) (lv' := [(2, .int (nI (i + 1))), (3, .null), (0, .ref (ad (100 + k))), (1, .int v)]) hx hb dX5_grow_35 hl (k := 1) rfl (nA (a := i) (b := 1) (c := i + 1) (by omega)) (by decide) rfl (fun ls hl => ?_)
      refine lv_goto (tgt := 8) hx hb dX5_grow_38 (by decide) ?_
      refine kk _ _ _ (by rw [step_nil e1]; exact hI) (lv_sub hl [0, 2, 3] rfl)
  · refine lv_iload_n hx hb dX5_grow_8 rfl (lv_at hl 0 rfl) ?_
    refine lv_aload_n hx hb dX5_grow_9 rfl (lv_at hl 1 rfl) ?_
    refine f5_9_5 S hK hI (xI_th hn h6 hN hO) rfl (v' := .ref (ad (200 + k))) rfl dX5_grow_10 ?_
    refine tw_alen S hK hI (t := 200 + k) (xA_th hn h6 hN hO) rfl (v := nI (szS σ k)) rfl dX5_grow_13 ?_
    refine lv_icmp_ge (tgt := 41) hx hb dX5_grow_14 (by decide) (fun c2 => ?_) (fun c2 => ?_)
    · exact absurd c2 (nI_ge hi (by omega))
    · refine lv_aload_n hx hb dX5_grow_17 rfl (lv_at hl 1 rfl) ?_
      refine f5_9_5 S hK hI (xI_th hn h6 hN hO) rfl (v' := .ref (ad (200 + k))) rfl dX5_grow_18 ?_
      refine lv_iload_n hx hb dX5_grow_21 rfl (lv_at hl 0 rfl) ?_
      refine xl_th (k := k) (i := i) (v := .ref (ad (100 + q))) S hK hI hn h6 hN hO hi (by omega) (by omega) (by rw [e2]; rfl) dX5_grow_22 ?_
      refine lv_astore_n (lv' := [(3, .ref (ad (100 + q))), (2, .int (nI i)), (0, .ref (ad (100 + k))), (1, .int v)]) hx hb dX5_grow_23 rfl hl (by decide) rfl (fun ls hl => ?_)
      refine lv_aload_n hx hb dX5_grow_24 rfl (lv_at hl 0 rfl) ?_
      refine lv_ifnull hx hb dX5_grow_25 ?_
      refine lv_aload_n hx hb dX5_grow_28 rfl (lv_at hl 0 rfl) ?_
      refine lv_iload_n hx hb dX5_grow_29 rfl (lv_at hl 3 rfl) ?_
      refine lv_iconst (v := 1) hx hb dX5_grow_30 (by decide) ?_
      refine lv_isub hx hb dX5_grow_31 ?_
      refine lv_topi (fun x3 e3 => ?_)
      refine tw_callv (tw_rA (As := [.int x3]) (rest := []) S hK hI kX5_28_X2 (c_X2_grow l D ad _ _ _ _ _ _ _ hok hkd hq hq6 hqN) (xI_num hq hq6 hqN) rfl rfl ⟨Nat.le_of_ble_eq_true rfl, Nat.le_of_ble_eq_true rfl⟩ ⟨Nat.le_of_ble_eq_true rfl, Nat.le_of_ble_eq_true rfl⟩ rfl hl.1 rfl (Nat.le_of_ble_eq_true rfl) dX5_grow_32) hI (fun H locs hI => ?_)
      refine lv_iinc (v := nI (i + 1)) (lv' := [(2, .int (nI (i + 1))), (3, .ref (ad (100 + q))), (0, .ref (ad (100 + k))), (1, .int v)]) hx hb dX5_grow_35 hl (k := 1) rfl (nA (a := i) (b := 1) (c := i + 1) (by omega)) (by decide) rfl (fun ls hl => ?_)
      refine lv_goto (tgt := 8) hx hb dX5_grow_38 (by decide) ?_
      subst e3
      refine kk _ _ _ (by rw [step_q (by omega) e1]; exact hI) (lv_sub hl [0, 2, 3] rfl)
  · refine lv_iload_n hx hb dX5_grow_8 rfl (lv_at hl 0 rfl) ?_
    refine lv_aload_n hx hb dX5_grow_9 rfl (lv_at hl 1 rfl) ?_
    refine f5_9_5 S hK hI (xI_th hn h6 hN hO) rfl (v' := .ref (ad (200 + k))) rfl dX5_grow_10 ?_
    refine tw_alen S hK hI (t := 200 + k) (xA_th hn h6 hN hO) rfl (v := nI (szS σ k)) rfl dX5_grow_13 ?_
    refine lv_icmp_ge (tgt := 41) hx hb dX5_grow_14 (by decide) (fun c4 => ?_) (fun c4 => ?_)
    · exact absurd c4 (nI_ge hi (by omega))
    · refine lv_aload_n hx hb dX5_grow_17 rfl (lv_at hl 1 rfl) ?_
      refine f5_9_5 S hK hI (xI_th hn h6 hN hO) rfl (v' := .ref (ad (200 + k))) rfl dX5_grow_18 ?_
      refine lv_iload_n hx hb dX5_grow_21 rfl (lv_at hl 0 rfl) ?_
      refine xl_th (k := k) (i := i) (v := .ref (ad (100 + q))) S hK hI hn h6 hN hO hi (by omega) (by omega) (by rw [e2]; rfl) dX5_grow_22 ?_
      refine lv_astore_n (lv' := [(3, .ref (ad (100 + q))), (2, .int (nI i)), (0, .ref (ad (100 + k))), (1, .int v)]) hx hb dX5_grow_23 rfl hl (by decide) rfl (fun ls hl => ?_)
      refine lv_aload_n hx hb dX5_grow_24 rfl (lv_at hl 0 rfl) ?_
      refine lv_ifnull hx hb dX5_grow_25 ?_
      refine lv_aload_n hx hb dX5_grow_28 rfl (lv_at hl 0 rfl) ?_
      refine lv_iload_n hx hb dX5_grow_29 rfl (lv_at hl 3 rfl) ?_
      refine lv_iconst (v := 1) hx hb dX5_grow_30 (by decide) ?_
      refine lv_isub hx hb dX5_grow_31 ?_
      refine lv_topi (fun x5 e5 => ?_)
      refine tw_callv (tw_rA (As := [.int x5]) (rest := []) S hK hI kX5_28_X3 (c_X3_grow l D ad _ _ _ _ _ _ _ hq hq6 hqN hqO) (xI_one hq hq6 hqN hqO) rfl rfl ⟨Nat.le_of_ble_eq_true rfl, Nat.le_of_ble_eq_true rfl⟩ ⟨Nat.le_of_ble_eq_true rfl, Nat.le_of_ble_eq_true rfl⟩ rfl hl.1 rfl (Nat.le_of_ble_eq_true rfl) dX5_grow_32) hI (fun H locs hI => ?_)
      refine lv_iinc (v := nI (i + 1)) (lv' := [(2, .int (nI (i + 1))), (3, .ref (ad (100 + q))), (0, .ref (ad (100 + k))), (1, .int v)]) hx hb dX5_grow_35 hl (k := 1) rfl (nA (a := i) (b := 1) (c := i + 1) (by omega)) (by decide) rfl (fun ls hl => ?_)
      refine lv_goto (tgt := 8) hx hb dX5_grow_38 (by decide) ?_
      subst e5
      refine kk _ _ _ (by rw [step_q (by omega) e1]; exact hI) (lv_sub hl [0, 2, 3] rfl)

set_option maxRecDepth 100000 in
theorem ll_X5_growL {p : Program} {l : Launch} {e : Env} {s : State} {m : MethodId} {av : Array Value} {below : List Frame} {meth : Method} {c : Code} {Z : State → Prop} {D : tw_G} {A : Nat → Prop} {ad : Nat → Nat} {b : tw_W} {h : Int32} {Q : Nat → Int32} {k : Nat} {v : Int32} (S : CallFix p m c cX5_grow 4 s av tw_ws RX5) (hK : tw_K D s) (h6 : k < 60) : ∀ (y i : Nat) (σ : Sg) (B : Nat) (H : Heap) (locs : List Loc) (ls : Array Slot), INV σ B → B + y * 1 < 2 ^ 62 → i + y = szS σ k → k < nS σ → isNumK (σ.1 1 k) = false → isOneK (σ.1 1 k) = false → ¬ 11 ≤ σ.1 1 k → tw_I D A ad (wX b σ h Q) s.heap H locs → lv_has ls 4 [(2, .int (nI i)), (0, .ref (ad (100 + k))), (1, .int v)] → (∀ (H1 : Heap) (locs1 : List Loc) (ls1 : Array Slot), Kp σ (B + y * 1) (eachF stampLowF k y i σ) → tw_I D A ad (wX b (eachF stampLowF k y i σ) h Q) s.heap H1 locs1 → lv_has ls1 4 [(2, .int (nI (szS σ k))), (0, .ref (ad (100 + k))), (1, .int v)] → W p l e (tw_R 2 0 0) s m av below meth c H1 locs1 0 0 Z (F0 m 8 ls1 [])) → W p l e (tw_R 2 0 0) s m av below meth c H locs 0 0 Z (F0 m 8 ls [])
  | 0, i, σ, B, H, locs, ls, hV, hB, e, hn, hN, hO, hlow, hI, hl, kk => by
    have ei : i = szS σ k := by omega
    subst ei
    exact kk H locs ls (by rw [Nat.zero_mul]; exact Kp.refl hV) hI hl
  | y + 1, i, σ, B, H, locs, ls, hV, hB, e, hn, hN, hO, hlow, hI, hl, kk => by
    have h1 := step_Kp (f := stampLowF) (s := 1) (k := k) (i := i) (fun σ B q h hB hq => low_Kp h (by omega) hq) hV (by omega) hn hN (by omega)
    have e0 : eachF stampLowF k (y + 1) i σ = eachF stampLowF k y (i + 1) (stepF stampLowF σ (3 * k + i)) := rfl
    rw [e0] at kk
    refine lb_X5_growL S hK hI hl hV.1 hV.2.1 hV.2.2.1 hn h6 hN hO hlow (okZ hV.1 h6).1 (by omega) (fun H1 locs1 ls1 hI1 hl1 => ?_)
    generalize stepF stampLowF σ (3 * k + i) = τ at h1 hI1 kk
    refine ll_X5_growL S hK h6 y (i + 1) τ (B + 1) H1 locs1 ls1 h1.1 (by omega) ?_ ?_ ?_ ?_ ?_ hI1 hl1 (fun H2 locs2 ls2 k2 hI2 hl2 => ?_)
    · rw [h1.sz]; omega
    · rw [h1.n]; exact hn
    · rw [h1.2 1 (by decide)]; exact hN
    · rw [h1.2 1 (by decide)]; exact hO
    · rw [h1.2 1 (by decide)]; exact hlow
    · rw [h1.sz] at hl2
      exact kk H2 locs2 ls2 ((h1.trans k2).mono (by omega)) hI2 hl2
theorem row_low {σ : Sg} {k : Nat} (hN : isNumK (σ.1 1 k) = false) (hO : isOneK (σ.1 1 k) = false) : stampRowF σ k = eachF stampLowF k (szS σ k) 0 σ := by
  unfold stampRowF
  rw [thF2 hN hO, if_neg (by decide), low_th hN hO]
theorem all_alb {σ : Sg} {k : Nat} (h : 11 ≤ σ.1 1 k) : stampAllF σ k = eachF stampRowF k (szS σ k) 0 σ := by
  unfold stampAllF
  rw [if_pos h]
theorem all_low {σ : Sg} {k : Nat} (h : ¬ 11 ≤ σ.1 1 k) : stampAllF σ k = stampRowF σ k := by
  unfold stampAllF
  rw [if_neg h]
theorem row_ln {σ : Sg} {k : Nat} (h : isThF (σ.1 1 k) = 0) : stampRowF σ k = stampLowF σ k := by
  unfold stampRowF
  rw [if_pos h]

set_option maxHeartbeats 2000000 in
set_option maxRecDepth 100000 in
theorem c_X5_grow_low (l : Launch) (D : tw_G) (ad : Nat → Nat) (b : tw_W) (σ : Sg) (h : Int32) (Q : Nat → Int32) (sz : Nat) (k : Nat) (v : Int32) (B : Nat) (hV : INV σ B) (hB : B + 4 < 2 ^ 62) (hv : 1 < v) (hn : k < nS σ) (h6 : k < 60) (hN : isNumK (σ.1 1 k) = false) (hO : isOneK (σ.1 1 k) = false) (hlow : ¬ 11 ≤ σ.1 1 k) : Met l yX5_grow (tw_w yX5_grow cX5_grow 4 none) (tw_R 2 0 0) (tw_Pc D ad (wX b σ h Q) sz [.ref (ad (100 + k)), .int v]) (tw_Q D ad (wX b (stampRowF σ k) h Q) (tw_A ad (wX b σ h Q) sz) none) 0 0 (tw_A ad (wX b σ h Q) sz) := by
  have hz := (okZ hV.1 h6).1
  refine tw_met (by decide) rfl (by simp [lg_sl, Value.category]) (fun p e s m below meth c ls S hK hr hlocks hnm hsz hI hl => ?_)
  have hx := S.1
  have hb := S.2.1
  have hl : lv_has ls 4 [(0, .ref (ad (100 + k))), (1, .int v)] := hl
  refine lv_iload_n hx hb dX5_grow_0 rfl (lv_at hl 1 rfl) ?_
  refine lv_iconst (v := 1) hx hb dX5_grow_1 (by decide) ?_
  refine lv_icmp_gt (tgt := 6) hx hb dX5_grow_2 (by decide) (fun c1 => ?_) (fun c1 => ?_)
  · refine lv_iconst (v := 0) hx hb dX5_grow_6 (by decide) ?_
    refine lv_istore_n (lv' := [(2, .int 0), (0, .ref (ad (100 + k))), (1, .int v)]) hx hb dX5_grow_7 rfl hl (by decide) rfl (fun ls hl => ?_)
    refine ll_X5_growL S hK h6 (szS σ k) 0 σ B _ _ _ hV (by omega) (by omega) hn hN hO hlow hI hl (fun H locs ls hk2 hI hl => ?_)
    obtain ⟨τ, eτ⟩ : ∃ τ : Sg, eachF stampLowF k (szS σ k) 0 σ = τ := ⟨_, rfl⟩
    rw [eτ] at hk2 hI
    have hn' : k < nS τ := by rw [hk2.n]; exact hn
    have hN' : isNumK (τ.1 1 k) = false := by rw [hk2.2 1 (by decide)]; exact hN
    have hO' : isOneK (τ.1 1 k) = false := by rw [hk2.2 1 (by decide)]; exact hO
    refine lv_iload_n hx hb dX5_grow_8 rfl (lv_at hl 0 rfl) ?_
    refine lv_aload_n hx hb dX5_grow_9 rfl (lv_at hl 1 rfl) ?_
    refine f5_9_5 S hK hI (xI_th hn' h6 hN' hO') rfl (v' := .ref (ad (200 + k))) rfl dX5_grow_10 ?_
    refine tw_alen S hK hI (t := 200 + k) (xA_th hn' h6 hN' hO') rfl (v := nI (szS σ k)) (congrArg nI (hk2.sz k)) dX5_grow_13 ?_
    refine lv_icmp_ge (tgt := 41) hx hb dX5_grow_14 (by decide) (fun c2 => ?_) (fun c2 => ?_)
    · rw [row_low hN hO, eτ]
      exact tw_vret S hr hlocks hI dX5_grow_41
    · exact absurd (nI_le (Nat.le_refl (szS σ k)) (by omega)) c2
  · exact absurd hv c1

set_option maxHeartbeats 2000000 in
set_option maxRecDepth 100000 in
theorem lb_X5_growA {p : Program} {l : Launch} {e : Env} {s : State} {m : MethodId} {av : Array Value} {below : List Frame} {meth : Method} {c : Code} {H : Heap} {locs : List Loc} {Z : State → Prop} {ls : Array Slot} {D : tw_G} {A : Nat → Prop} {ad : Nat → Nat} {b : tw_W} {σ : Sg} {h : Int32} {Q : Nat → Int32} {k i : Nat} (S : CallFix p m c cX5_grow 4 s av tw_ws RX5) (hK : tw_K D s) (hI : tw_I D A ad (wX b σ h Q) s.heap H locs) (hl : lv_has ls 4 [(2, .int (nI i)), (0, .ref (ad (100 + k))), (1, .int 3)]) {B : Nat} (hV : INV σ B) (hB : B + 4 < 2 ^ 62) (hok : okM σ) (hkd : okKd σ) (hT : okT σ) (hn : k < nS σ) (h6 : k < 60) (hN : isNumK (σ.1 1 k) = false) (hO : isOneK (σ.1 1 k) = false) (hlow : 11 ≤ σ.1 1 k) (hz : szS σ k ≤ 3) (hi : i < szS σ k) (kk : ∀ (H1 : Heap) (locs1 : List Loc) (ls1 : Array Slot), tw_I D A ad (wX b (stepF stampRowF σ (3 * k + i)) h Q) s.heap H1 locs1 → lv_has ls1 4 [(2, .int (nI (i + 1))), (0, .ref (ad (100 + k))), (1, .int 3)] → W p l e (tw_R 3 0 0) s m av below meth c H1 locs1 0 0 Z (F0 m 8 ls1 [])) : W p l e (tw_R 3 0 0) s m av below meth c H locs 0 0 Z (F0 m 8 ls []) := by
  have hx := S.1
  have hb := S.2.1
  rcases cell_alb hok hkd hT hn hN hlow hi with ⟨e1, e2⟩ | ⟨q, hq, hq6, e1, e2, hqN, hqO, hql⟩
  · refine lv_iload_n hx hb dX5_grow_8 rfl (lv_at hl 0 rfl) ?_
    refine lv_aload_n hx hb dX5_grow_9 rfl (lv_at hl 1 rfl) ?_
    refine f5_9_5 S hK hI (xI_th hn h6 hN hO) rfl (v' := .ref (ad (200 + k))) rfl dX5_grow_10 ?_
    refine tw_alen S hK hI (t := 200 + k) (xA_th hn h6 hN hO) rfl (v := nI (szS σ k)) rfl dX5_grow_13 ?_
    refine lv_icmp_ge (tgt := 41) hx hb dX5_grow_14 (by decide) (fun c1 => ?_) (fun c1 => ?_)
    · exact absurd c1 (nI_ge hi (by omega))
    · refine lv_aload_n hx hb dX5_grow_17 rfl (lv_at hl 1 rfl) ?_
      refine f5_9_5 S hK hI (xI_th hn h6 hN hO) rfl (v' := .ref (ad (200 + k))) rfl dX5_grow_18 ?_
      refine lv_iload_n hx hb dX5_grow_21 rfl (lv_at hl 0 rfl) ?_
      refine xl_th (k := k) (i := i) (v := .null) S hK hI hn h6 hN hO hi (by omega) (by omega) (by rw [e2]; rfl) dX5_grow_22 ?_
      refine lv_astore_nN (lv' := [(3, .null), (2, .int (nI i)), (0, .ref (ad (100 + k))), (1, .int 3)]) hx hb dX5_grow_23 rfl hl (by decide) rfl (fun ls hl => ?_)
      refine lv_aload_nN hx hb dX5_grow_24 rfl (lv_at hl 0 rfl) ?_
      refine lv_ifnullN (tgt := 35) hx hb dX5_grow_25 (by decide) ?_
      refine lv_iinc (v := nI (i + 1)) (lv' := [(2, .int (nI (i + 1))), (3, .null), (0, .ref (ad (100 + k))), (1, .int 3)]) hx hb dX5_grow_35 hl (k := 1) rfl (nA (a := i) (b := 1) (c := i + 1) (by omega)) (by decide) rfl (fun ls hl => ?_)
      refine lv_goto (tgt := 8) hx hb dX5_grow_38 (by decide) ?_
      refine kk _ _ _ (by rw [step_nil e1]; exact hI) (lv_sub hl [0, 2, 3] rfl)
  · refine lv_iload_n hx hb dX5_grow_8 rfl (lv_at hl 0 rfl) ?_
    refine lv_aload_n hx hb dX5_grow_9 rfl (lv_at hl 1 rfl) ?_
    refine f5_9_5 S hK hI (xI_th hn h6 hN hO) rfl (v' := .ref (ad (200 + k))) rfl dX5_grow_10 ?_
    refine tw_alen S hK hI (t := 200 + k) (xA_th hn h6 hN hO) rfl (v := nI (szS σ k)) rfl dX5_grow_13 ?_
    refine lv_icmp_ge (tgt := 41) hx hb dX5_grow_14 (by decide) (fun c2 => ?_) (fun c2 => ?_)
    · exact absurd c2 (nI_ge hi (by omega))
    · refine lv_aload_n hx hb dX5_grow_17 rfl (lv_at hl 1 rfl) ?_
      refine f5_9_5 S hK hI (xI_th hn h6 hN hO) rfl (v' := .ref (ad (200 + k))) rfl dX5_grow_18 ?_
      refine lv_iload_n hx hb dX5_grow_21 rfl (lv_at hl 0 rfl) ?_
      refine xl_th (k := k) (i := i) (v := .ref (ad (100 + q))) S hK hI hn h6 hN hO hi (by omega) (by omega) (by rw [e2]; rfl) dX5_grow_22 ?_
      refine lv_astore_n (lv' := [(3, .ref (ad (100 + q))), (2, .int (nI i)), (0, .ref (ad (100 + k))), (1, .int 3)]) hx hb dX5_grow_23 rfl hl (by decide) rfl (fun ls hl => ?_)
      refine lv_aload_n hx hb dX5_grow_24 rfl (lv_at hl 0 rfl) ?_
      refine lv_ifnull hx hb dX5_grow_25 ?_
      refine lv_aload_n hx hb dX5_grow_28 rfl (lv_at hl 0 rfl) ?_
      refine lv_iload_n hx hb dX5_grow_29 rfl (lv_at hl 3 rfl) ?_
      refine lv_iconst (v := 1) hx hb dX5_grow_30 (by decide) ?_
      refine lv_isub hx hb dX5_grow_31 ?_
      refine lv_eqi (v := 2) (nB (a := 3) (b := 1) (c := 2) (by omega) (by omega)) ?_
      refine tw_callv (tw_rA (As := [.int 2]) (rest := []) S hK hI kX5_28_X5 (c_X5_grow_low l D ad _ _ _ _ _ _ _ _ hV hB (by decide) hq hq6 hqN hqO hql) (xI_th hq hq6 hqN hqO) rfl rfl ⟨Nat.le_of_ble_eq_true rfl, Nat.le_of_ble_eq_true rfl⟩ ⟨Nat.le_of_ble_eq_true rfl, Nat.le_of_ble_eq_true rfl⟩ rfl hl.1 rfl (Nat.le_of_ble_eq_true rfl) dX5_grow_32) hI (fun H locs hI => ?_)
      refine lv_iinc (v := nI (i + 1)) (lv' := [(2, .int (nI (i + 1))), (3, .ref (ad (100 + q))), (0, .ref (ad (100 + k))), (1, .int 3)]) hx hb dX5_grow_35 hl (k := 1) rfl (nA (a := i) (b := 1) (c := i + 1) (by omega)) (by decide) rfl (fun ls hl => ?_)
      refine lv_goto (tgt := 8) hx hb dX5_grow_38 (by decide) ?_
      refine kk _ _ _ (by rw [step_q (by omega) e1]; exact hI) (lv_sub hl [0, 2, 3] rfl)

set_option maxRecDepth 100000 in
theorem ll_X5_growA {p : Program} {l : Launch} {e : Env} {s : State} {m : MethodId} {av : Array Value} {below : List Frame} {meth : Method} {c : Code} {Z : State → Prop} {D : tw_G} {A : Nat → Prop} {ad : Nat → Nat} {b : tw_W} {h : Int32} {Q : Nat → Int32} {k : Nat} (S : CallFix p m c cX5_grow 4 s av tw_ws RX5) (hK : tw_K D s) (h6 : k < 60) : ∀ (y i : Nat) (σ : Sg) (B : Nat) (H : Heap) (locs : List Loc) (ls : Array Slot), INV σ B → B + y * 4 < 2 ^ 62 → i + y = szS σ k → k < nS σ → isNumK (σ.1 1 k) = false → isOneK (σ.1 1 k) = false → 11 ≤ σ.1 1 k → tw_I D A ad (wX b σ h Q) s.heap H locs → lv_has ls 4 [(2, .int (nI i)), (0, .ref (ad (100 + k))), (1, .int 3)] → (∀ (H1 : Heap) (locs1 : List Loc) (ls1 : Array Slot), Kp σ (B + y * 4) (eachF stampRowF k y i σ) → tw_I D A ad (wX b (eachF stampRowF k y i σ) h Q) s.heap H1 locs1 → lv_has ls1 4 [(2, .int (nI (szS σ k))), (0, .ref (ad (100 + k))), (1, .int 3)] → W p l e (tw_R 3 0 0) s m av below meth c H1 locs1 0 0 Z (F0 m 8 ls1 [])) → W p l e (tw_R 3 0 0) s m av below meth c H locs 0 0 Z (F0 m 8 ls [])
  | 0, i, σ, B, H, locs, ls, hV, hB, e, hn, hN, hO, hlow, hI, hl, kk => by
    have ei : i = szS σ k := by omega
    subst ei
    exact kk H locs ls (by rw [Nat.zero_mul]; exact Kp.refl hV) hI hl
  | y + 1, i, σ, B, H, locs, ls, hV, hB, e, hn, hN, hO, hlow, hI, hl, kk => by
    have h1 := step_Kp (f := stampRowF) (s := 4) (k := k) (i := i) (fun σ B q h hB hq => row_Kp h (by omega) hq) hV (by omega) hn hN (by omega)
    have e0 : eachF stampRowF k (y + 1) i σ = eachF stampRowF k y (i + 1) (stepF stampRowF σ (3 * k + i)) := rfl
    rw [e0] at kk
    refine lb_X5_growA S hK hI hl hV (by omega) hV.1 hV.2.1 hV.2.2.1 hn h6 hN hO hlow (okZ hV.1 h6).1 (by omega) (fun H1 locs1 ls1 hI1 hl1 => ?_)
    generalize stepF stampRowF σ (3 * k + i) = τ at h1 hI1 kk
    refine ll_X5_growA S hK h6 y (i + 1) τ (B + 4) H1 locs1 ls1 h1.1 (by omega) ?_ ?_ ?_ ?_ ?_ hI1 hl1 (fun H2 locs2 ls2 k2 hI2 hl2 => ?_)
    · rw [h1.sz]; omega
    · rw [h1.n]; exact hn
    · rw [h1.2 1 (by decide)]; exact hN
    · rw [h1.2 1 (by decide)]; exact hO
    · rw [h1.2 1 (by decide)]; exact hlow
    · rw [h1.sz] at hl2
      exact kk H2 locs2 ls2 ((h1.trans k2).mono (by omega)) hI2 hl2
set_option maxHeartbeats 2000000 in
set_option maxRecDepth 100000 in
theorem c_X5_grow_alb (l : Launch) (D : tw_G) (ad : Nat → Nat) (b : tw_W) (σ : Sg) (h : Int32) (Q : Nat → Int32) (sz : Nat) (k : Nat) (B : Nat) (hV : INV σ B) (hB : B + 12 < 2 ^ 62) (hn : k < nS σ) (h6 : k < 60) (hN : isNumK (σ.1 1 k) = false) (hO : isOneK (σ.1 1 k) = false) (hlow : 11 ≤ σ.1 1 k) : Met l yX5_grow (tw_w yX5_grow cX5_grow 4 none) (tw_R 3 0 0) (tw_Pc D ad (wX b σ h Q) sz [.ref (ad (100 + k)), .int 3]) (tw_Q D ad (wX b (stampAllF σ k) h Q) (tw_A ad (wX b σ h Q) sz) none) 0 0 (tw_A ad (wX b σ h Q) sz) := by
  have hz := (okZ hV.1 h6).1
  refine tw_met (by decide) rfl (by simp [lg_sl, Value.category]) (fun p e s m below meth c ls S hK hr hlocks hnm hsz hI hl => ?_)
  have hx := S.1
  have hb := S.2.1
  have hl : lv_has ls 4 [(0, .ref (ad (100 + k))), (1, .int 3)] := hl
  refine lv_iload_n hx hb dX5_grow_0 rfl (lv_at hl 1 rfl) ?_
  refine lv_iconst (v := 1) hx hb dX5_grow_1 (by decide) ?_
  refine lv_icmp_gt (tgt := 6) hx hb dX5_grow_2 (by decide) (fun c1 => ?_) (fun c1 => ?_)
  · refine lv_iconst (v := 0) hx hb dX5_grow_6 (by decide) ?_
    refine lv_istore_n (lv' := [(2, .int 0), (0, .ref (ad (100 + k))), (1, .int 3)]) hx hb dX5_grow_7 rfl hl (by decide) rfl (fun ls hl => ?_)
    refine ll_X5_growA S hK h6 (szS σ k) 0 σ B _ _ _ hV (by omega) (by omega) hn hN hO hlow hI hl (fun H locs ls hk2 hI hl => ?_)
    obtain ⟨τ, eτ⟩ : ∃ τ : Sg, eachF stampRowF k (szS σ k) 0 σ = τ := ⟨_, rfl⟩
    rw [eτ] at hk2 hI
    have hn' : k < nS τ := by rw [hk2.n]; exact hn
    have hN' : isNumK (τ.1 1 k) = false := by rw [hk2.2 1 (by decide)]; exact hN
    have hO' : isOneK (τ.1 1 k) = false := by rw [hk2.2 1 (by decide)]; exact hO
    refine lv_iload_n hx hb dX5_grow_8 rfl (lv_at hl 0 rfl) ?_
    refine lv_aload_n hx hb dX5_grow_9 rfl (lv_at hl 1 rfl) ?_
    refine f5_9_5 S hK hI (xI_th hn' h6 hN' hO') rfl (v' := .ref (ad (200 + k))) rfl dX5_grow_10 ?_
    refine tw_alen S hK hI (t := 200 + k) (xA_th hn' h6 hN' hO') rfl (v := nI (szS σ k)) (congrArg nI (hk2.sz k)) dX5_grow_13 ?_
    refine lv_icmp_ge (tgt := 41) hx hb dX5_grow_14 (by decide) (fun c2 => ?_) (fun c2 => ?_)
    · rw [all_alb hlow, eτ]
      try rw [if_pos (show (1 : Int32) < 3 from by decide)]
      exact tw_vret S hr hlocks hI dX5_grow_41
    · exact absurd (nI_le (Nat.le_refl (szS σ k)) (by omega)) c2
  · exact absurd c1 (by decide)
