/-! the constructors of Room, MailRooms and MailRoomsModel: the first state -/
def s00 : Sg := (fun f _ => if f = 20 then -1 else 0, fun _ => 0)
def w00 : tw_W := fun _ => none

set_option maxHeartbeats 2000000 in
set_option maxRecDepth 100000 in
theorem c_X4_init (l : Launch) (D : tw_G) (ad : Nat → Nat) (w : tw_W) (sz : Nat) (τ u : Nat) (he : w τ = some (.inr (3, [.null, .int 0]))) (hun : w u = none) (hne : u ≠ τ) (hcl : tw_cl u w) : Met l yX4_init (tw_w yX4_init cX4_init 1 none) (tw_R 1 1 4) (tw_Pc D ad w sz [.ref (ad τ)]) (tw_Qn D ad w (va_up (va_up w u (some (.inl (3, 4, .inr (.inr (.inr (.inr (fun _ => none)))))))) τ (some (.inr (3, [.ref u, .int 0])))) (tw_A ad w sz) (fun _ => none)) 1 4 (tw_A ad w sz) := by
  refine tw_met (by decide) rfl (by simp [lg_sl, Value.category]) (fun p e s m below meth c ls S hK hr hlocks hnm hsz hI hl => ?_)
  have hx := S.1
  have hb := S.2.1
  have hl : lv_has ls 1 [(0, .ref (ad τ))] := hl
  refine lv_aload_n hx hb dX4_init_0 rfl (lv_at hl 0 rfl) ?_
  refine tw_obj S (tw_mem (by decide +kernel) rfl) (tw_mem (by decide +kernel) rfl) (tw_mem (by decide +kernel) rfl) hl.1 dX4_init_1 (Nat.le_of_ble_eq_true rfl) (Nat.le_of_ble_eq_true rfl) ?_
  refine lv_aload_n hx hb dX4_init_4 rfl (lv_at hl 0 rfl) ?_
  refine lv_iconst (v := 4) hx hb dX4_init_5 (by decide) ?_
  refine tw_newQ S hK hI (tw_mem (by decide +kernel) rfl) (tw_memN (by decide +kernel) rfl) (k := 3) rfl (N := 4) (by decide) (by decide) (by decide) (u) hun hcl (Nat.le_of_ble_eq_true rfl) (Nat.le_of_ble_eq_true rfl) dX4_init_6 (fun ad H had hI => ?_)
  refine W_stk (st' := [.ref (ad u), .ref (ad τ)]) (by rw [had τ (Ne.symm hne)]) ?_
  have hl : lv_has ls 1 [(0, .ref (ad τ))] := by rw [had τ (Ne.symm hne)]; exact hl
  refine F4_11_4 S hK hI ((va_up_ne _ _ (Ne.symm hne)).trans he) hnm (v := .ref u) rfl rfl rfl (Nat.le_of_ble_eq_true rfl) dX4_init_9 (fun H locs hI => ?_)
  refine lv_aload_n hx hb dX4_init_12 rfl (lv_at hl 0 rfl) ?_
  refine lv_iconst (v := 0) hx hb dX4_init_13 (by decide) ?_
  refine p4_17_4 S hK hI (va_up_self _ _ _) (v := .int 0) rfl rfl rfl (Nat.le_of_ble_eq_true rfl) dX4_init_14 (fun H locs hI => ?_)
  rw [up_up] at hI
  exact W.vret S.1 S.2.1 hr (fun t ht _ => tw_retN (r := fun _ => none) hI (fun t ε h => had t (fun e => by subst e; rw [hun] at h; cases h)) ht) hI.2.2.1.2.2 dX4_init_17 hlocks

def rP (s i : Nat) (fs : List Value) : tw_W := fun t =>
  if t = 0 then some (.inr (5, fs))
  else if t = 1 then (if s < 1 then none else some (.inl (4, 60, .inr (.inr (.inr (.inr (fun _ => none)))))))
  else if t = 2 then (if s < 2 then none else some (.inl (5, 8, .inr (.inr (.inr (.inr (fun r => if r < i then some (10 + r) else none)))))))
  else if 10 ≤ t ∧ t < 10 + i then some (.inr (3, [.ref (20 + (t - 10)), .int 0]))
  else if 20 ≤ t ∧ t < 20 + i then some (.inl (3, 4, .inr (.inr (.inr (.inr (fun _ => none))))))
  else none
theorem rP_0 {s i : Nat} {fs fs' : List Value} : va_up (rP s i fs) 0 (some (.inr (5, fs'))) = rP s i fs' := by
  funext t
  by_cases c : t = 0
  · subst c; rw [va_up_self]; rfl
  · rw [va_up_ne _ _ c]; unfold rP; rw [if_neg c, if_neg c]
theorem rP_1 {fs : List Value} : va_up (rP 0 0 fs) 1 (some (.inl (4, 60, .inr (.inr (.inr (.inr (fun _ => none))))))) = rP 1 0 fs := by
  funext t
  by_cases c : t = 1
  · subst c; rw [va_up_self]; rfl
  · rw [va_up_ne _ _ c]
    unfold rP
    rw [if_neg c, if_neg c]
    by_cases c2 : t = 2
    · subst c2; rfl
    · rw [if_neg c2, if_neg c2]
theorem rP_2 {fs : List Value} : va_up (rP 1 0 fs) 2 (some (.inl (5, 8, .inr (.inr (.inr (.inr (fun _ => none))))))) = rP 2 0 fs := by
  funext t
  by_cases c : t = 2
  · subst c
    rw [va_up_self]
    have e : (fun _ => none) = fun r : Nat => if r < 0 then some (10 + r) else none := by
      funext r
      rw [if_neg (Nat.not_lt_zero r)]
    rw [e]
    rfl
  · rw [va_up_ne _ _ c]
    unfold rP
    rw [if_neg c, if_neg c]
    by_cases c2 : t = 1
    · subst c2; rfl
    · rw [if_neg c2, if_neg c2]
theorem rP_r {i : Nat} {fs : List Value} (hi : i < 8) : va_up (va_up (va_up (rP 2 i fs) (20 + i) (some (.inl (3, 4, .inr (.inr (.inr (.inr (fun _ => none)))))))) (10 + i) (some (.inr (3, [.ref (20 + i), .int 0])))) 2 (some (.inl (5, 8, .inr (.inr (.inr (.inr (va_up (fun r => if r < i then some (10 + r) else none) i (some (10 + i))))))))) = rP 2 (i + 1) fs := by
  funext t
  by_cases c2 : t = 2
  · subst c2
    rw [va_up_self]
    have e : (va_up (fun r => if r < i then some (10 + r) else none) i (some (10 + i))) = fun r => if r < i + 1 then some (10 + r) else none := by
      funext r
      by_cases h : r = i
      · subst h; rw [va_up_self, if_pos (by omega)]
      · rw [va_up_ne _ _ h]
        by_cases h1 : r < i
        · rw [if_pos h1, if_pos (by omega)]
        · rw [if_neg h1, if_neg (by omega)]
    rw [e]
    rfl
  rw [va_up_ne _ _ c2]
  by_cases c3 : t = 10 + i
  · subst c3
    rw [va_up_self]
    unfold rP
    rw [if_neg (by omega), if_neg (by omega), if_neg c2, if_pos (by omega), show 10 + i - 10 = i by omega]
  rw [va_up_ne _ _ c3]
  by_cases c4 : t = 20 + i
  · subst c4
    rw [va_up_self]
    unfold rP
    rw [if_neg (by omega), if_neg (by omega), if_neg c2, if_neg (by omega), if_pos (by omega)]
  rw [va_up_ne _ _ c4]
  unfold rP
  rw [if_neg c2, if_neg c2]
  by_cases d1 : 10 ≤ t ∧ t < 10 + i
  · rw [if_pos d1, if_pos (show 10 ≤ t ∧ t < 10 + (i + 1) by omega)]
  · rw [if_neg d1, if_neg (show ¬ (10 ≤ t ∧ t < 10 + (i + 1)) by omega)]
    by_cases d2 : 20 ≤ t ∧ t < 20 + i
    · rw [if_pos d2, if_pos (show 20 ≤ t ∧ t < 20 + (i + 1) by omega)]
    · rw [if_neg d2, if_neg (show ¬ (20 ≤ t ∧ t < 20 + (i + 1)) by omega)]
theorem rP_no {s i τ : Nat} {fs : List Value} (h : (τ = 1 ∧ s < 1) ∨ (τ = 2 ∧ s < 2) ∨ (2 < τ ∧ ¬ (10 ≤ τ ∧ τ < 10 + i) ∧ ¬ (20 ≤ τ ∧ τ < 20 + i))) : rP s i fs τ = none := by
  unfold rP
  rcases h with ⟨rfl, h⟩ | ⟨rfl, h⟩ | ⟨h, h1, h2⟩
  · rw [if_neg (by decide), if_pos rfl, if_pos h]
  · rw [if_neg (by decide), if_neg (by decide), if_pos rfl, if_pos h]
  · rw [if_neg (by omega), if_neg (by omega), if_neg (by omega), if_neg h1, if_neg h2]
theorem rP_cl {s i τ : Nat} {fs : List Value} (hf : ∀ v : Value, v ∈ fs → v ≠ .ref τ) (h1 : ¬ (10 ≤ τ ∧ τ < 10 + i)) (h2 : ¬ (20 ≤ τ ∧ τ < 20 + i)) : tw_cl τ (rP s i fs) := by
  intro t e he
  unfold rP at he
  by_cases c0 : t = 0
  · rw [if_pos c0] at he; cases he; exact nr_o hf
  rw [if_neg c0] at he
  by_cases c1 : t = 1
  · rw [if_pos c1] at he
    by_cases c : s < 1
    · rw [if_pos c] at he; cases he
    · rw [if_neg c] at he; cases he; exact nr_q (fun j e => by cases e)
  rw [if_neg c1] at he
  by_cases c2 : t = 2
  · rw [if_pos c2] at he
    by_cases c : s < 2
    · rw [if_pos c] at he; cases he
    · rw [if_neg c] at he
      cases he
      refine nr_q (fun j => ?_)
      by_cases hj : j < i
      · rw [if_pos hj]; intro e; injection e with e; omega
      · rw [if_neg hj]; intro e; cases e
  rw [if_neg c2] at he
  by_cases c3 : 10 ≤ t ∧ t < 10 + i
  · rw [if_pos c3] at he
    cases he
    refine nr_o (fun v hv => ?_)
    simp only [List.mem_cons, List.not_mem_nil, or_false] at hv
    rcases hv with rfl | rfl <;> intro e
    · injection e with e
      have e2 : 20 + (t - 10) = τ := e
      omega
    · cases e
  rw [if_neg c3] at he
  by_cases c4 : 20 ≤ t ∧ t < 20 + i
  · rw [if_pos c4] at he; cases he; exact nr_q (fun j e => by cases e)
  rw [if_neg c4] at he
  cases he
theorem rP_first {w : tw_W} {fs : List Value} (he : w 0 = some (.inr (5, fs))) (hn : ∀ t : Nat, 0 < t → w t = none) : w = rP 0 0 fs := by
  funext t
  by_cases c : t = 0
  · subst c; rw [he]; rfl
  · rw [hn t (by omega)]
    unfold rP
    rw [if_neg c, if_neg (show ¬ (10 ≤ t ∧ t < 10 + 0) by omega), if_neg (show ¬ (20 ≤ t ∧ t < 20 + 0) by omega)]
    by_cases c1 : t = 1
    · rw [if_pos c1]; rfl
    · rw [if_neg c1]
      by_cases c2 : t = 2
      · rw [if_pos c2]; rfl
      · rw [if_neg c2]
theorem rP_last {fs : List Value} (hf : fs = xRoot s00 0) : rP 2 8 fs = wX w00 s00 0 (fun _ => 0) := by
  subst hf
  funext t
  by_cases c0 : t = 0
  · subst c0; rfl
  by_cases c1 : t = 1
  · subst c1
    have e : (fun _ => none) = fun i : Nat => if i < nS s00 then some (100 + i) else none := by
      funext r
      rw [if_neg (show ¬ r < nS s00 from Nat.not_lt_zero r)]
    show some (Sum.inl (4, 60, Sum.inr (Sum.inr (Sum.inr (Sum.inr (fun _ => none)))))) = _
    rw [e]
    rfl
  by_cases c2 : t = 2
  · subst c2; rfl
  unfold rP wX w00
  rw [if_neg c0, if_neg c1, if_neg c2]
  by_cases d0 : 1000 ≤ t
  · rw [if_pos d0, if_neg (by omega), if_neg (by omega)]
  rw [if_neg d0, if_neg c0, if_neg c1, if_neg c2]
  by_cases d1 : 10 ≤ t ∧ t < 18
  · rw [if_pos d1, if_pos (show 10 ≤ t ∧ t < 10 + 8 by omega)]; rfl
  rw [if_neg d1, if_neg (show ¬ (10 ≤ t ∧ t < 10 + 8) by omega)]
  have hd : ∀ r : Nat, dcS s00 r = 0 := fun _ => rfl
  by_cases d2 : 20 ≤ t ∧ t < 28
  · rw [if_pos d2, if_pos (show 20 ≤ t ∧ t < 20 + 8 by omega)]
    have e : (fun _ => none) = fun d : Nat => if d < dcS s00 (t - 20) then some (30 + (4 * (t - 20) + d)) else none := by
      funext r
      rw [if_neg (by rw [hd]; omega)]
    rw [e]
  rw [if_neg d2, if_neg (show ¬ (20 ≤ t ∧ t < 20 + 8) by omega), if_neg (by rw [hd]; omega), if_neg (by show ¬ (_ ∧ _ ∧ _ < 0); omega), if_neg (by show ¬ (_ ∧ _ ∧ _ < 0); omega)]

theorem nr2 {t c : Nat} : tw_nr t (.inr (c, [.null, .int 0])) := nr_o (by intro v hv; simp only [List.mem_cons, List.not_mem_nil, or_false] at hv; rcases hv with rfl | rfl <;> intro e <;> cases e)

set_option maxHeartbeats 2000000 in
set_option maxRecDepth 100000 in
theorem c_X6_init (l : Launch) (D : tw_G) (ad : Nat → Nat) (w : tw_W) (sz : Nat)  (he : w 0 = some (.inr (5, [.null, .null, .int 0, .int 0, .int 0, .int 0, .int 0, .int 0, .int 0, .int 0, .int 0]))) (hn : ∀ t : Nat, 0 < t → w t = none) : Met l yX6_init (tw_w yX6_init cX6_init 2 none) (tw_R 2 18 116) (tw_Pc D ad w sz [.ref (ad 0)]) (tw_Qn D ad w (wX w00 s00 0 (fun _ => 0)) (tw_A ad w sz) (fun _ => none)) 18 116 (tw_A ad w sz) := by
  have hfirst := rP_first he hn
  subst hfirst
  have hh : ad 0 = ad 0 := rfl
  refine tw_met (by decide) rfl (by simp [lg_sl, Value.category]) (fun p e s m below meth c ls S hK hr hlocks hnm hsz hI hl => ?_)
  have hx := S.1
  have hb := S.2.1
  have hl : lv_has ls 2 [(0, .ref (ad 0))] := hl
  refine lv_aload_n hx hb dX6_init_0 rfl (lv_at hl 0 rfl) ?_
  refine tw_obj S (tw_mem (by decide +kernel) rfl) (tw_mem (by decide +kernel) rfl) (tw_mem (by decide +kernel) rfl) hl.1 dX6_init_1 (Nat.le_of_ble_eq_true rfl) (Nat.le_of_ble_eq_true rfl) ?_
  refine lv_aload_n hx hb dX6_init_4 rfl (lv_at hl 0 rfl) ?_
  refine lv_bipush (v := 60) hx hb dX6_init_5 (by decide) ?_
  refine tw_newQ S hK hI (tw_mem (by decide +kernel) rfl) (tw_memN (by decide +kernel) rfl) (k := 4) rfl (N := 60) (by decide) (by decide) (by decide) (1) (rP_no (Or.inl ⟨rfl, by decide⟩)) (rP_cl (fun v hv => by simp only [List.mem_cons, List.not_mem_nil, or_false] at hv; rcases hv with rfl | rfl | rfl | rfl | rfl | rfl | rfl | rfl | rfl | rfl | rfl <;> intro e <;> cases e) (by decide) (by decide)) (Nat.le_of_ble_eq_true rfl) (Nat.le_of_ble_eq_true rfl) dX6_init_7 (fun ad H had hI => ?_)
  refine W_stk (st' := [.ref (ad 1), .ref (ad 0)]) (by rw [had 0 (by decide)]) ?_
  have hl : lv_has ls 2 [(0, .ref (ad 0))] := by rw [had 0 (by decide)]; exact hl
  rw [rP_1] at hI
  have hh := (had 0 (by decide)).trans hh
  refine F6_11_6 S hK hI rfl hnm (v := .ref 1) rfl rfl rfl (Nat.le_of_ble_eq_true rfl) dX6_init_10 (fun H locs hI => ?_)
  rw [rP_0] at hI
  change tw_I D _ ad (rP 1 0 [.ref 1, .null, .int 0, .int 0, .int 0, .int 0, .int 0, .int 0, .int 0, .int 0, .int 0]) s.heap H locs at hI
  refine lv_aload_n hx hb dX6_init_13 rfl (lv_at hl 0 rfl) ?_
  refine lv_bipush (v := 8) hx hb dX6_init_14 (by decide) ?_
  refine tw_newQ S hK hI (tw_mem (by decide +kernel) rfl) (tw_memN (by decide +kernel) rfl) (k := 5) rfl (N := 8) (by decide) (by decide) (by decide) (2) (rP_no (Or.inr (Or.inl ⟨rfl, by decide⟩))) (rP_cl (fun v hv => by simp only [List.mem_cons, List.not_mem_nil, or_false] at hv; rcases hv with rfl | rfl | rfl | rfl | rfl | rfl | rfl | rfl | rfl | rfl | rfl <;> intro e <;> cases e) (by decide) (by decide)) (Nat.le_of_ble_eq_true rfl) (Nat.le_of_ble_eq_true rfl) dX6_init_16 (fun ad H had hI => ?_)
  refine W_stk (st' := [.ref (ad 2), .ref (ad 0)]) (by rw [had 0 (by decide)]) ?_
  have hl : lv_has ls 2 [(0, .ref (ad 0))] := by rw [had 0 (by decide)]; exact hl
  rw [rP_2] at hI
  have hh := (had 0 (by decide)).trans hh
  refine F6_17_6 S hK hI rfl hnm (v := .ref 2) rfl rfl rfl (Nat.le_of_ble_eq_true rfl) dX6_init_19 (fun H locs hI => ?_)
  rw [rP_0] at hI
  change tw_I D _ ad (rP 2 0 [.ref 1, .ref 2, .int 0, .int 0, .int 0, .int 0, .int 0, .int 0, .int 0, .int 0, .int 0]) s.heap H locs at hI
  refine lv_aload_n hx hb dX6_init_22 rfl (lv_at hl 0 rfl) ?_
  refine lv_iconst (v := 0) hx hb dX6_init_23 (by decide) ?_
  refine p6_21_6 S hK hI rfl (v := .int 0) rfl rfl rfl (Nat.le_of_ble_eq_true rfl) dX6_init_24 (fun H locs hI => ?_)
  rw [rP_0] at hI
  change tw_I D _ ad (rP 2 0 [.ref 1, .ref 2, .int 0, .int 0, .int 0, .int 0, .int 0, .int 0, .int 0, .int 0, .int 0]) s.heap H locs at hI
  refine lv_aload_n hx hb dX6_init_27 rfl (lv_at hl 0 rfl) ?_
  refine lv_iconst (v := 0) hx hb dX6_init_28 (by decide) ?_
  refine p6_25_6 S hK hI rfl (v := .int 0) rfl rfl rfl (Nat.le_of_ble_eq_true rfl) dX6_init_29 (fun H locs hI => ?_)
  rw [rP_0] at hI
  change tw_I D _ ad (rP 2 0 [.ref 1, .ref 2, .int 0, .int 0, .int 0, .int 0, .int 0, .int 0, .int 0, .int 0, .int 0]) s.heap H locs at hI
  refine lv_aload_n hx hb dX6_init_32 rfl (lv_at hl 0 rfl) ?_
  refine lv_iconst (v := 0) hx hb dX6_init_33 (by decide) ?_
  refine p6_28_6 S hK hI rfl (v := .int 0) rfl rfl rfl (Nat.le_of_ble_eq_true rfl) dX6_init_34 (fun H locs hI => ?_)
  rw [rP_0] at hI
  change tw_I D _ ad (rP 2 0 [.ref 1, .ref 2, .int 0, .int 0, .int 0, .int 0, .int 0, .int 0, .int 0, .int 0, .int 0]) s.heap H locs at hI
  refine lv_aload_n hx hb dX6_init_37 rfl (lv_at hl 0 rfl) ?_
  refine lv_iconst (v := (-1)) hx hb dX6_init_38 (by decide) ?_
  refine p6_31_6 S hK hI rfl (v := .int (-1)) rfl rfl rfl (Nat.le_of_ble_eq_true rfl) dX6_init_39 (fun H locs hI => ?_)
  rw [rP_0] at hI
  change tw_I D _ ad (rP 2 0 [.ref 1, .ref 2, .int 0, .int 0, .int 0, .int (-1), .int 0, .int 0, .int 0, .int 0, .int 0]) s.heap H locs at hI
  refine lv_aload_n hx hb dX6_init_42 rfl (lv_at hl 0 rfl) ?_
  refine lv_iconst (v := 0) hx hb dX6_init_43 (by decide) ?_
  refine p6_34_6 S hK hI rfl (v := .int 0) rfl rfl rfl (Nat.le_of_ble_eq_true rfl) dX6_init_44 (fun H locs hI => ?_)
  rw [rP_0] at hI
  change tw_I D _ ad (rP 2 0 [.ref 1, .ref 2, .int 0, .int 0, .int 0, .int (-1), .int 0, .int 0, .int 0, .int 0, .int 0]) s.heap H locs at hI
  refine lv_aload_n hx hb dX6_init_47 rfl (lv_at hl 0 rfl) ?_
  refine lv_iconst (v := 0) hx hb dX6_init_48 (by decide) ?_
  refine p6_37_6 S hK hI rfl (v := .int 0) rfl rfl rfl (Nat.le_of_ble_eq_true rfl) dX6_init_49 (fun H locs hI => ?_)
  rw [rP_0] at hI
  change tw_I D _ ad (rP 2 0 [.ref 1, .ref 2, .int 0, .int 0, .int 0, .int (-1), .int 0, .int 0, .int 0, .int 0, .int 0]) s.heap H locs at hI
  refine lv_aload_n hx hb dX6_init_52 rfl (lv_at hl 0 rfl) ?_
  refine lv_iconst (v := 0) hx hb dX6_init_53 (by decide) ?_
  refine p6_40_6 S hK hI rfl (v := .int 0) rfl rfl rfl (Nat.le_of_ble_eq_true rfl) dX6_init_54 (fun H locs hI => ?_)
  rw [rP_0] at hI
  change tw_I D _ ad (rP 2 0 [.ref 1, .ref 2, .int 0, .int 0, .int 0, .int (-1), .int 0, .int 0, .int 0, .int 0, .int 0]) s.heap H locs at hI
  refine lv_aload_n hx hb dX6_init_57 rfl (lv_at hl 0 rfl) ?_
  refine lv_iconst (v := 0) hx hb dX6_init_58 (by decide) ?_
  refine p6_43_6 S hK hI rfl (v := .int 0) rfl rfl rfl (Nat.le_of_ble_eq_true rfl) dX6_init_59 (fun H locs hI => ?_)
  rw [rP_0] at hI
  change tw_I D _ ad (rP 2 0 [.ref 1, .ref 2, .int 0, .int 0, .int 0, .int (-1), .int 0, .int 0, .int 0, .int 0, .int 0]) s.heap H locs at hI
  refine lv_aload_n hx hb dX6_init_62 rfl (lv_at hl 0 rfl) ?_
  refine lv_iconst (v := 0) hx hb dX6_init_63 (by decide) ?_
  refine p6_46_6 S hK hI rfl (v := .int 0) rfl rfl rfl (Nat.le_of_ble_eq_true rfl) dX6_init_64 (fun H locs hI => ?_)
  rw [rP_0] at hI
  change tw_I D _ ad (rP 2 0 [.ref 1, .ref 2, .int 0, .int 0, .int 0, .int (-1), .int 0, .int 0, .int 0, .int 0, .int 0]) s.heap H locs at hI
  refine lv_iconst (v := 0) hx hb dX6_init_67 (by decide) ?_
  refine lv_istore_n (lv' := [(1, .int 0), (0, .ref (ad 0))]) hx hb dX6_init_68 rfl hl (by decide) rfl (fun ls hl => ?_)
  refine lv_iload_n hx hb dX6_init_69 rfl (lv_at hl 0 rfl) ?_
  refine lv_bipush (v := 8) hx hb dX6_init_70 (by decide) ?_
  refine lv_icmp_ge (tgt := 94) hx hb dX6_init_72 (by decide) (fun c1 => ?_) (fun c1 => ?_)
  · exact absurd c1 (by decide)
  · refine lv_aload_n hx hb dX6_init_75 rfl (lv_at hl 1 rfl) ?_
    refine f6_17_6 S hK hI (t := 0) (fs := [.ref 1, .ref 2, .int 0, .int 0, .int 0, .int (-1), .int 0, .int 0, .int 0, .int 0, .int 0]) rfl rfl (v' := .ref (ad 2)) rfl dX6_init_76 ?_
    refine lv_iload_n hx hb dX6_init_79 rfl (lv_at hl 0 rfl) ?_
    refine tw_new S hK hI iT4 tyX4 tyX4_ok (tw_mem (by decide +kernel) rfl) (tw_mem (by decide +kernel) rfl) (tw_mem (by decide +kernel) rfl) (ci := 3) rfl (fs := [.null, .int 0]) (fun j hj => by rcases (show j = 0 ∨ j = 1 by omega) with rfl | rfl <;> rfl) (fun _ => rfl) (10) (rP_no (Or.inr (Or.inr (by decide)))) (rP_cl (fun v hv => by simp only [List.mem_cons, List.not_mem_nil, or_false] at hv; rcases hv with rfl | rfl | rfl | rfl | rfl | rfl | rfl | rfl | rfl | rfl | rfl <;> intro e <;> cases e) (by decide) (by decide)) (Nat.le_of_ble_eq_true rfl) (Nat.le_of_ble_eq_true rfl) dX6_init_80 (fun ad H had hI => ?_)
    refine W_stk (st' := [.ref (ad 10), .int 0, .ref (ad 2)]) (by rw [had 2 (by decide)]) ?_
    have hl : lv_has ls 2 [(1, .int 0), (0, .ref (ad 0))] := by rw [had 0 (by decide)]; exact hl
    have hh := (had 0 (by decide)).trans hh
    refine lv_dup hx hb dX6_init_83 rfl ?_
    refine tw_callN (tw_rIN (t := 10) (As := []) (rest := [.ref (ad 10), .int 0, .ref (ad 2)]) S hK hI kX6_49 (c_X4_init l D ad _ _ 10 20 (va_up_self _ _ _) ((va_up_ne _ _ (by decide)).trans (rP_no (Or.inr (Or.inr (by decide))))) (by decide) (cl_up (rP_cl (fun v hv => by simp only [List.mem_cons, List.not_mem_nil, or_false] at hv; rcases hv with rfl | rfl | rfl | rfl | rfl | rfl | rfl | rfl | rfl | rfl | rfl <;> intro e <;> cases e) (by decide) (by decide)) nr2)) ⟨Nat.le_of_ble_eq_true rfl, Nat.le_of_ble_eq_true rfl⟩ ⟨Nat.le_of_ble_eq_true rfl, Nat.le_of_ble_eq_true rfl⟩ rfl hl.1 rfl (Nat.le_of_ble_eq_true rfl) dX6_init_84) hI (fun ad H locs had hI => ?_)
    refine W_stk (st' := [.ref (ad 10), .int 0, .ref (ad 2)]) (by rw [had 10 _ (va_up_self _ _ _), had 2 _ ((va_up_ne _ _ (by decide)).trans rfl)]; rfl) ?_
    have hl : lv_has ls 2 [(1, .int 0), (0, .ref (ad 0))] := by rw [had 0 _ ((va_up_ne _ _ (by decide)).trans rfl)]; exact hl
    have hh := (had 0 _ ((va_up_ne _ _ (by decide)).trans rfl)).trans hh
    rw [up_3 _ (by decide)] at hI
    refine tw_aast S hK hI (t := 2) (n := 8) ((va_up_ne _ _ (by decide)).trans ((va_up_ne _ _ (by decide)).trans rfl)) (k := 5) rfl (show ¬ ((0 : Int32) < 0 ∨ 8 ≤ (0 : Int32).toNatClampNeg) from by decide) (some 10) rfl (fun y e => by cases e; exact tw_any hK hI (va_up_self _ _ _) rfl (Or.inr rfl)) dX6_init_87 (fun H locs hI => ?_)
    rw [show (0 : Int32).toNatClampNeg = 0 from rfl] at hI
    have hI : tw_I D _ ad (rP 2 1 [.ref 1, .ref 2, .int 0, .int 0, .int 0, .int (-1), .int 0, .int 0, .int 0, .int 0, .int 0]) s.heap H locs := (rP_r (i := 0) (fs := [.ref 1, .ref 2, .int 0, .int 0, .int 0, .int (-1), .int 0, .int 0, .int 0, .int 0, .int 0]) (by decide)) ▸ hI
    refine lv_iinc (v := 1) (lv' := [(1, .int 1), (0, .ref (ad 0))]) hx hb dX6_init_88 hl (k := 0) rfl (by decide) (by decide) rfl (fun ls hl => ?_)
    refine lv_goto (tgt := 69) hx hb dX6_init_91 (by decide) ?_
    refine lv_iload_n hx hb dX6_init_69 rfl (lv_at hl 0 rfl) ?_
    refine lv_bipush (v := 8) hx hb dX6_init_70 (by decide) ?_
    refine lv_icmp_ge (tgt := 94) hx hb dX6_init_72 (by decide) (fun c2 => ?_) (fun c2 => ?_)
    · exact absurd c2 (by decide)
    · refine lv_aload_n hx hb dX6_init_75 rfl (lv_at hl 1 rfl) ?_
      refine f6_17_6 S hK hI (t := 0) (fs := [.ref 1, .ref 2, .int 0, .int 0, .int 0, .int (-1), .int 0, .int 0, .int 0, .int 0, .int 0]) rfl rfl (v' := .ref (ad 2)) rfl dX6_init_76 ?_
      refine lv_iload_n hx hb dX6_init_79 rfl (lv_at hl 0 rfl) ?_
      refine tw_new S hK hI iT4 tyX4 tyX4_ok (tw_mem (by decide +kernel) rfl) (tw_mem (by decide +kernel) rfl) (tw_mem (by decide +kernel) rfl) (ci := 3) rfl (fs := [.null, .int 0]) (fun j hj => by rcases (show j = 0 ∨ j = 1 by omega) with rfl | rfl <;> rfl) (fun _ => rfl) (11) (rP_no (Or.inr (Or.inr (by decide)))) (rP_cl (fun v hv => by simp only [List.mem_cons, List.not_mem_nil, or_false] at hv; rcases hv with rfl | rfl | rfl | rfl | rfl | rfl | rfl | rfl | rfl | rfl | rfl <;> intro e <;> cases e) (by decide) (by decide)) (Nat.le_of_ble_eq_true rfl) (Nat.le_of_ble_eq_true rfl) dX6_init_80 (fun ad H had hI => ?_)
      refine W_stk (st' := [.ref (ad 11), .int 1, .ref (ad 2)]) (by rw [had 2 (by decide)]) ?_
      have hl : lv_has ls 2 [(1, .int 1), (0, .ref (ad 0))] := by rw [had 0 (by decide)]; exact hl
      have hh := (had 0 (by decide)).trans hh
      refine lv_dup hx hb dX6_init_83 rfl ?_
      refine tw_callN (tw_rIN (t := 11) (As := []) (rest := [.ref (ad 11), .int 1, .ref (ad 2)]) S hK hI kX6_49 (c_X4_init l D ad _ _ 11 21 (va_up_self _ _ _) ((va_up_ne _ _ (by decide)).trans (rP_no (Or.inr (Or.inr (by decide))))) (by decide) (cl_up (rP_cl (fun v hv => by simp only [List.mem_cons, List.not_mem_nil, or_false] at hv; rcases hv with rfl | rfl | rfl | rfl | rfl | rfl | rfl | rfl | rfl | rfl | rfl <;> intro e <;> cases e) (by decide) (by decide)) nr2)) ⟨Nat.le_of_ble_eq_true rfl, Nat.le_of_ble_eq_true rfl⟩ ⟨Nat.le_of_ble_eq_true rfl, Nat.le_of_ble_eq_true rfl⟩ rfl hl.1 rfl (Nat.le_of_ble_eq_true rfl) dX6_init_84) hI (fun ad H locs had hI => ?_)
      refine W_stk (st' := [.ref (ad 11), .int 1, .ref (ad 2)]) (by rw [had 11 _ (va_up_self _ _ _), had 2 _ ((va_up_ne _ _ (by decide)).trans rfl)]; rfl) ?_
      have hl : lv_has ls 2 [(1, .int 1), (0, .ref (ad 0))] := by rw [had 0 _ ((va_up_ne _ _ (by decide)).trans rfl)]; exact hl
      have hh := (had 0 _ ((va_up_ne _ _ (by decide)).trans rfl)).trans hh
      rw [up_3 _ (by decide)] at hI
      refine tw_aast S hK hI (t := 2) (n := 8) ((va_up_ne _ _ (by decide)).trans ((va_up_ne _ _ (by decide)).trans rfl)) (k := 5) rfl (show ¬ ((1 : Int32) < 0 ∨ 8 ≤ (1 : Int32).toNatClampNeg) from by decide) (some 11) rfl (fun y e => by cases e; exact tw_any hK hI (va_up_self _ _ _) rfl (Or.inr rfl)) dX6_init_87 (fun H locs hI => ?_)
      rw [show (1 : Int32).toNatClampNeg = 1 from rfl] at hI
      have hI : tw_I D _ ad (rP 2 2 [.ref 1, .ref 2, .int 0, .int 0, .int 0, .int (-1), .int 0, .int 0, .int 0, .int 0, .int 0]) s.heap H locs := (rP_r (i := 1) (fs := [.ref 1, .ref 2, .int 0, .int 0, .int 0, .int (-1), .int 0, .int 0, .int 0, .int 0, .int 0]) (by decide)) ▸ hI
      refine lv_iinc (v := 2) (lv' := [(1, .int 2), (0, .ref (ad 0))]) hx hb dX6_init_88 hl (k := 0) rfl (by decide) (by decide) rfl (fun ls hl => ?_)
      refine lv_goto (tgt := 69) hx hb dX6_init_91 (by decide) ?_
      refine lv_iload_n hx hb dX6_init_69 rfl (lv_at hl 0 rfl) ?_
      refine lv_bipush (v := 8) hx hb dX6_init_70 (by decide) ?_
      refine lv_icmp_ge (tgt := 94) hx hb dX6_init_72 (by decide) (fun c3 => ?_) (fun c3 => ?_)
      · exact absurd c3 (by decide)
      · refine lv_aload_n hx hb dX6_init_75 rfl (lv_at hl 1 rfl) ?_
        refine f6_17_6 S hK hI (t := 0) (fs := [.ref 1, .ref 2, .int 0, .int 0, .int 0, .int (-1), .int 0, .int 0, .int 0, .int 0, .int 0]) rfl rfl (v' := .ref (ad 2)) rfl dX6_init_76 ?_
        refine lv_iload_n hx hb dX6_init_79 rfl (lv_at hl 0 rfl) ?_
        refine tw_new S hK hI iT4 tyX4 tyX4_ok (tw_mem (by decide +kernel) rfl) (tw_mem (by decide +kernel) rfl) (tw_mem (by decide +kernel) rfl) (ci := 3) rfl (fs := [.null, .int 0]) (fun j hj => by rcases (show j = 0 ∨ j = 1 by omega) with rfl | rfl <;> rfl) (fun _ => rfl) (12) (rP_no (Or.inr (Or.inr (by decide)))) (rP_cl (fun v hv => by simp only [List.mem_cons, List.not_mem_nil, or_false] at hv; rcases hv with rfl | rfl | rfl | rfl | rfl | rfl | rfl | rfl | rfl | rfl | rfl <;> intro e <;> cases e) (by decide) (by decide)) (Nat.le_of_ble_eq_true rfl) (Nat.le_of_ble_eq_true rfl) dX6_init_80 (fun ad H had hI => ?_)
        refine W_stk (st' := [.ref (ad 12), .int 2, .ref (ad 2)]) (by rw [had 2 (by decide)]) ?_
        have hl : lv_has ls 2 [(1, .int 2), (0, .ref (ad 0))] := by rw [had 0 (by decide)]; exact hl
        have hh := (had 0 (by decide)).trans hh
        refine lv_dup hx hb dX6_init_83 rfl ?_
        refine tw_callN (tw_rIN (t := 12) (As := []) (rest := [.ref (ad 12), .int 2, .ref (ad 2)]) S hK hI kX6_49 (c_X4_init l D ad _ _ 12 22 (va_up_self _ _ _) ((va_up_ne _ _ (by decide)).trans (rP_no (Or.inr (Or.inr (by decide))))) (by decide) (cl_up (rP_cl (fun v hv => by simp only [List.mem_cons, List.not_mem_nil, or_false] at hv; rcases hv with rfl | rfl | rfl | rfl | rfl | rfl | rfl | rfl | rfl | rfl | rfl <;> intro e <;> cases e) (by decide) (by decide)) nr2)) ⟨Nat.le_of_ble_eq_true rfl, Nat.le_of_ble_eq_true rfl⟩ ⟨Nat.le_of_ble_eq_true rfl, Nat.le_of_ble_eq_true rfl⟩ rfl hl.1 rfl (Nat.le_of_ble_eq_true rfl) dX6_init_84) hI (fun ad H locs had hI => ?_)
        refine W_stk (st' := [.ref (ad 12), .int 2, .ref (ad 2)]) (by rw [had 12 _ (va_up_self _ _ _), had 2 _ ((va_up_ne _ _ (by decide)).trans rfl)]; rfl) ?_
        have hl : lv_has ls 2 [(1, .int 2), (0, .ref (ad 0))] := by rw [had 0 _ ((va_up_ne _ _ (by decide)).trans rfl)]; exact hl
        have hh := (had 0 _ ((va_up_ne _ _ (by decide)).trans rfl)).trans hh
        rw [up_3 _ (by decide)] at hI
        refine tw_aast S hK hI (t := 2) (n := 8) ((va_up_ne _ _ (by decide)).trans ((va_up_ne _ _ (by decide)).trans rfl)) (k := 5) rfl (show ¬ ((2 : Int32) < 0 ∨ 8 ≤ (2 : Int32).toNatClampNeg) from by decide) (some 12) rfl (fun y e => by cases e; exact tw_any hK hI (va_up_self _ _ _) rfl (Or.inr rfl)) dX6_init_87 (fun H locs hI => ?_)
        rw [show (2 : Int32).toNatClampNeg = 2 from rfl] at hI
        have hI : tw_I D _ ad (rP 2 3 [.ref 1, .ref 2, .int 0, .int 0, .int 0, .int (-1), .int 0, .int 0, .int 0, .int 0, .int 0]) s.heap H locs := (rP_r (i := 2) (fs := [.ref 1, .ref 2, .int 0, .int 0, .int 0, .int (-1), .int 0, .int 0, .int 0, .int 0, .int 0]) (by decide)) ▸ hI
        refine lv_iinc (v := 3) (lv' := [(1, .int 3), (0, .ref (ad 0))]) hx hb dX6_init_88 hl (k := 0) rfl (by decide) (by decide) rfl (fun ls hl => ?_)
        refine lv_goto (tgt := 69) hx hb dX6_init_91 (by decide) ?_
        refine lv_iload_n hx hb dX6_init_69 rfl (lv_at hl 0 rfl) ?_
        refine lv_bipush (v := 8) hx hb dX6_init_70 (by decide) ?_
        refine lv_icmp_ge (tgt := 94) hx hb dX6_init_72 (by decide) (fun c4 => ?_) (fun c4 => ?_)
        · exact absurd c4 (by decide)
        · refine lv_aload_n hx hb dX6_init_75 rfl (lv_at hl 1 rfl) ?_
          refine f6_17_6 S hK hI (t := 0) (fs := [.ref 1, .ref 2, .int 0, .int 0, .int 0, .int (-1), .int 0, .int 0, .int 0, .int 0, .int 0]) rfl rfl (v' := .ref (ad 2)) rfl dX6_init_76 ?_
          refine lv_iload_n hx hb dX6_init_79 rfl (lv_at hl 0 rfl) ?_
          refine tw_new S hK hI iT4 tyX4 tyX4_ok (tw_mem (by decide +kernel) rfl) (tw_mem (by decide +kernel) rfl) (tw_mem (by decide +kernel) rfl) (ci := 3) rfl (fs := [.null, .int 0]) (fun j hj => by rcases (show j = 0 ∨ j = 1 by omega) with rfl | rfl <;> rfl) (fun _ => rfl) (13) (rP_no (Or.inr (Or.inr (by decide)))) (rP_cl (fun v hv => by simp only [List.mem_cons, List.not_mem_nil, or_false] at hv; rcases hv with rfl | rfl | rfl | rfl | rfl | rfl | rfl | rfl | rfl | rfl | rfl <;> intro e <;> cases e) (by decide) (by decide)) (Nat.le_of_ble_eq_true rfl) (Nat.le_of_ble_eq_true rfl) dX6_init_80 (fun ad H had hI => ?_)
          refine W_stk (st' := [.ref (ad 13), .int 3, .ref (ad 2)]) (by rw [had 2 (by decide)]) ?_
          have hl : lv_has ls 2 [(1, .int 3), (0, .ref (ad 0))] := by rw [had 0 (by decide)]; exact hl
          have hh := (had 0 (by decide)).trans hh
          refine lv_dup hx hb dX6_init_83 rfl ?_
          refine tw_callN (tw_rIN (t := 13) (As := []) (rest := [.ref (ad 13), .int 3, .ref (ad 2)]) S hK hI kX6_49 (c_X4_init l D ad _ _ 13 23 (va_up_self _ _ _) ((va_up_ne _ _ (by decide)).trans (rP_no (Or.inr (Or.inr (by decide))))) (by decide) (cl_up (rP_cl (fun v hv => by simp only [List.mem_cons, List.not_mem_nil, or_false] at hv; rcases hv with rfl | rfl | rfl | rfl | rfl | rfl | rfl | rfl | rfl | rfl | rfl <;> intro e <;> cases e) (by decide) (by decide)) nr2)) ⟨Nat.le_of_ble_eq_true rfl, Nat.le_of_ble_eq_true rfl⟩ ⟨Nat.le_of_ble_eq_true rfl, Nat.le_of_ble_eq_true rfl⟩ rfl hl.1 rfl (Nat.le_of_ble_eq_true rfl) dX6_init_84) hI (fun ad H locs had hI => ?_)
          refine W_stk (st' := [.ref (ad 13), .int 3, .ref (ad 2)]) (by rw [had 13 _ (va_up_self _ _ _), had 2 _ ((va_up_ne _ _ (by decide)).trans rfl)]; rfl) ?_
          have hl : lv_has ls 2 [(1, .int 3), (0, .ref (ad 0))] := by rw [had 0 _ ((va_up_ne _ _ (by decide)).trans rfl)]; exact hl
          have hh := (had 0 _ ((va_up_ne _ _ (by decide)).trans rfl)).trans hh
          rw [up_3 _ (by decide)] at hI
          refine tw_aast S hK hI (t := 2) (n := 8) ((va_up_ne _ _ (by decide)).trans ((va_up_ne _ _ (by decide)).trans rfl)) (k := 5) rfl (show ¬ ((3 : Int32) < 0 ∨ 8 ≤ (3 : Int32).toNatClampNeg) from by decide) (some 13) rfl (fun y e => by cases e; exact tw_any hK hI (va_up_self _ _ _) rfl (Or.inr rfl)) dX6_init_87 (fun H locs hI => ?_)
          rw [show (3 : Int32).toNatClampNeg = 3 from rfl] at hI
          have hI : tw_I D _ ad (rP 2 4 [.ref 1, .ref 2, .int 0, .int 0, .int 0, .int (-1), .int 0, .int 0, .int 0, .int 0, .int 0]) s.heap H locs := (rP_r (i := 3) (fs := [.ref 1, .ref 2, .int 0, .int 0, .int 0, .int (-1), .int 0, .int 0, .int 0, .int 0, .int 0]) (by decide)) ▸ hI
          refine lv_iinc (v := 4) (lv' := [(1, .int 4), (0, .ref (ad 0))]) hx hb dX6_init_88 hl (k := 0) rfl (by decide) (by decide) rfl (fun ls hl => ?_)
          refine lv_goto (tgt := 69) hx hb dX6_init_91 (by decide) ?_
          refine lv_iload_n hx hb dX6_init_69 rfl (lv_at hl 0 rfl) ?_
          refine lv_bipush (v := 8) hx hb dX6_init_70 (by decide) ?_
          refine lv_icmp_ge (tgt := 94) hx hb dX6_init_72 (by decide) (fun c5 => ?_) (fun c5 => ?_)
          · exact absurd c5 (by decide)
          · refine lv_aload_n hx hb dX6_init_75 rfl (lv_at hl 1 rfl) ?_
            refine f6_17_6 S hK hI (t := 0) (fs := [.ref 1, .ref 2, .int 0, .int 0, .int 0, .int (-1), .int 0, .int 0, .int 0, .int 0, .int 0]) rfl rfl (v' := .ref (ad 2)) rfl dX6_init_76 ?_
            refine lv_iload_n hx hb dX6_init_79 rfl (lv_at hl 0 rfl) ?_
            refine tw_new S hK hI iT4 tyX4 tyX4_ok (tw_mem (by decide +kernel) rfl) (tw_mem (by decide +kernel) rfl) (tw_mem (by decide +kernel) rfl) (ci := 3) rfl (fs := [.null, .int 0]) (fun j hj => by rcases (show j = 0 ∨ j = 1 by omega) with rfl | rfl <;> rfl) (fun _ => rfl) (14) (rP_no (Or.inr (Or.inr (by decide)))) (rP_cl (fun v hv => by simp only [List.mem_cons, List.not_mem_nil, or_false] at hv; rcases hv with rfl | rfl | rfl | rfl | rfl | rfl | rfl | rfl | rfl | rfl | rfl <;> intro e <;> cases e) (by decide) (by decide)) (Nat.le_of_ble_eq_true rfl) (Nat.le_of_ble_eq_true rfl) dX6_init_80 (fun ad H had hI => ?_)
            refine W_stk (st' := [.ref (ad 14), .int 4, .ref (ad 2)]) (by rw [had 2 (by decide)]) ?_
            have hl : lv_has ls 2 [(1, .int 4), (0, .ref (ad 0))] := by rw [had 0 (by decide)]; exact hl
            have hh := (had 0 (by decide)).trans hh
            refine lv_dup hx hb dX6_init_83 rfl ?_
            refine tw_callN (tw_rIN (t := 14) (As := []) (rest := [.ref (ad 14), .int 4, .ref (ad 2)]) S hK hI kX6_49 (c_X4_init l D ad _ _ 14 24 (va_up_self _ _ _) ((va_up_ne _ _ (by decide)).trans (rP_no (Or.inr (Or.inr (by decide))))) (by decide) (cl_up (rP_cl (fun v hv => by simp only [List.mem_cons, List.not_mem_nil, or_false] at hv; rcases hv with rfl | rfl | rfl | rfl | rfl | rfl | rfl | rfl | rfl | rfl | rfl <;> intro e <;> cases e) (by decide) (by decide)) nr2)) ⟨Nat.le_of_ble_eq_true rfl, Nat.le_of_ble_eq_true rfl⟩ ⟨Nat.le_of_ble_eq_true rfl, Nat.le_of_ble_eq_true rfl⟩ rfl hl.1 rfl (Nat.le_of_ble_eq_true rfl) dX6_init_84) hI (fun ad H locs had hI => ?_)
            refine W_stk (st' := [.ref (ad 14), .int 4, .ref (ad 2)]) (by rw [had 14 _ (va_up_self _ _ _), had 2 _ ((va_up_ne _ _ (by decide)).trans rfl)]; rfl) ?_
            have hl : lv_has ls 2 [(1, .int 4), (0, .ref (ad 0))] := by rw [had 0 _ ((va_up_ne _ _ (by decide)).trans rfl)]; exact hl
            have hh := (had 0 _ ((va_up_ne _ _ (by decide)).trans rfl)).trans hh
            rw [up_3 _ (by decide)] at hI
            refine tw_aast S hK hI (t := 2) (n := 8) ((va_up_ne _ _ (by decide)).trans ((va_up_ne _ _ (by decide)).trans rfl)) (k := 5) rfl (show ¬ ((4 : Int32) < 0 ∨ 8 ≤ (4 : Int32).toNatClampNeg) from by decide) (some 14) rfl (fun y e => by cases e; exact tw_any hK hI (va_up_self _ _ _) rfl (Or.inr rfl)) dX6_init_87 (fun H locs hI => ?_)
            rw [show (4 : Int32).toNatClampNeg = 4 from rfl] at hI
            have hI : tw_I D _ ad (rP 2 5 [.ref 1, .ref 2, .int 0, .int 0, .int 0, .int (-1), .int 0, .int 0, .int 0, .int 0, .int 0]) s.heap H locs := (rP_r (i := 4) (fs := [.ref 1, .ref 2, .int 0, .int 0, .int 0, .int (-1), .int 0, .int 0, .int 0, .int 0, .int 0]) (by decide)) ▸ hI
            refine lv_iinc (v := 5) (lv' := [(1, .int 5), (0, .ref (ad 0))]) hx hb dX6_init_88 hl (k := 0) rfl (by decide) (by decide) rfl (fun ls hl => ?_)
            refine lv_goto (tgt := 69) hx hb dX6_init_91 (by decide) ?_
            refine lv_iload_n hx hb dX6_init_69 rfl (lv_at hl 0 rfl) ?_
            refine lv_bipush (v := 8) hx hb dX6_init_70 (by decide) ?_
            refine lv_icmp_ge (tgt := 94) hx hb dX6_init_72 (by decide) (fun c6 => ?_) (fun c6 => ?_)
            · exact absurd c6 (by decide)
            · refine lv_aload_n hx hb dX6_init_75 rfl (lv_at hl 1 rfl) ?_
              refine f6_17_6 S hK hI (t := 0) (fs := [.ref 1, .ref 2, .int 0, .int 0, .int 0, .int (-1), .int 0, .int 0, .int 0, .int 0, .int 0]) rfl rfl (v' := .ref (ad 2)) rfl dX6_init_76 ?_
              refine lv_iload_n hx hb dX6_init_79 rfl (lv_at hl 0 rfl) ?_
              refine tw_new S hK hI iT4 tyX4 tyX4_ok (tw_mem (by decide +kernel) rfl) (tw_mem (by decide +kernel) rfl) (tw_mem (by decide +kernel) rfl) (ci := 3) rfl (fs := [.null, .int 0]) (fun j hj => by rcases (show j = 0 ∨ j = 1 by omega) with rfl | rfl <;> rfl) (fun _ => rfl) (15) (rP_no (Or.inr (Or.inr (by decide)))) (rP_cl (fun v hv => by simp only [List.mem_cons, List.not_mem_nil, or_false] at hv; rcases hv with rfl | rfl | rfl | rfl | rfl | rfl | rfl | rfl | rfl | rfl | rfl <;> intro e <;> cases e) (by decide) (by decide)) (Nat.le_of_ble_eq_true rfl) (Nat.le_of_ble_eq_true rfl) dX6_init_80 (fun ad H had hI => ?_)
              refine W_stk (st' := [.ref (ad 15), .int 5, .ref (ad 2)]) (by rw [had 2 (by decide)]) ?_
              have hl : lv_has ls 2 [(1, .int 5), (0, .ref (ad 0))] := by rw [had 0 (by decide)]; exact hl
              have hh := (had 0 (by decide)).trans hh
              refine lv_dup hx hb dX6_init_83 rfl ?_
              refine tw_callN (tw_rIN (t := 15) (As := []) (rest := [.ref (ad 15), .int 5, .ref (ad 2)]) S hK hI kX6_49 (c_X4_init l D ad _ _ 15 25 (va_up_self _ _ _) ((va_up_ne _ _ (by decide)).trans (rP_no (Or.inr (Or.inr (by decide))))) (by decide) (cl_up (rP_cl (fun v hv => by simp only [List.mem_cons, List.not_mem_nil, or_false] at hv; rcases hv with rfl | rfl | rfl | rfl | rfl | rfl | rfl | rfl | rfl | rfl | rfl <;> intro e <;> cases e) (by decide) (by decide)) nr2)) ⟨Nat.le_of_ble_eq_true rfl, Nat.le_of_ble_eq_true rfl⟩ ⟨Nat.le_of_ble_eq_true rfl, Nat.le_of_ble_eq_true rfl⟩ rfl hl.1 rfl (Nat.le_of_ble_eq_true rfl) dX6_init_84) hI (fun ad H locs had hI => ?_)
              refine W_stk (st' := [.ref (ad 15), .int 5, .ref (ad 2)]) (by rw [had 15 _ (va_up_self _ _ _), had 2 _ ((va_up_ne _ _ (by decide)).trans rfl)]; rfl) ?_
              have hl : lv_has ls 2 [(1, .int 5), (0, .ref (ad 0))] := by rw [had 0 _ ((va_up_ne _ _ (by decide)).trans rfl)]; exact hl
              have hh := (had 0 _ ((va_up_ne _ _ (by decide)).trans rfl)).trans hh
              rw [up_3 _ (by decide)] at hI
              refine tw_aast S hK hI (t := 2) (n := 8) ((va_up_ne _ _ (by decide)).trans ((va_up_ne _ _ (by decide)).trans rfl)) (k := 5) rfl (show ¬ ((5 : Int32) < 0 ∨ 8 ≤ (5 : Int32).toNatClampNeg) from by decide) (some 15) rfl (fun y e => by cases e; exact tw_any hK hI (va_up_self _ _ _) rfl (Or.inr rfl)) dX6_init_87 (fun H locs hI => ?_)
              rw [show (5 : Int32).toNatClampNeg = 5 from rfl] at hI
              have hI : tw_I D _ ad (rP 2 6 [.ref 1, .ref 2, .int 0, .int 0, .int 0, .int (-1), .int 0, .int 0, .int 0, .int 0, .int 0]) s.heap H locs := (rP_r (i := 5) (fs := [.ref 1, .ref 2, .int 0, .int 0, .int 0, .int (-1), .int 0, .int 0, .int 0, .int 0, .int 0]) (by decide)) ▸ hI
              refine lv_iinc (v := 6) (lv' := [(1, .int 6), (0, .ref (ad 0))]) hx hb dX6_init_88 hl (k := 0) rfl (by decide) (by decide) rfl (fun ls hl => ?_)
              refine lv_goto (tgt := 69) hx hb dX6_init_91 (by decide) ?_
              refine lv_iload_n hx hb dX6_init_69 rfl (lv_at hl 0 rfl) ?_
              refine lv_bipush (v := 8) hx hb dX6_init_70 (by decide) ?_
              refine lv_icmp_ge (tgt := 94) hx hb dX6_init_72 (by decide) (fun c7 => ?_) (fun c7 => ?_)
              · exact absurd c7 (by decide)
              · refine lv_aload_n hx hb dX6_init_75 rfl (lv_at hl 1 rfl) ?_
                refine f6_17_6 S hK hI (t := 0) (fs := [.ref 1, .ref 2, .int 0, .int 0, .int 0, .int (-1), .int 0, .int 0, .int 0, .int 0, .int 0]) rfl rfl (v' := .ref (ad 2)) rfl dX6_init_76 ?_
                refine lv_iload_n hx hb dX6_init_79 rfl (lv_at hl 0 rfl) ?_
                refine tw_new S hK hI iT4 tyX4 tyX4_ok (tw_mem (by decide +kernel) rfl) (tw_mem (by decide +kernel) rfl) (tw_mem (by decide +kernel) rfl) (ci := 3) rfl (fs := [.null, .int 0]) (fun j hj => by rcases (show j = 0 ∨ j = 1 by omega) with rfl | rfl <;> rfl) (fun _ => rfl) (16) (rP_no (Or.inr (Or.inr (by decide)))) (rP_cl (fun v hv => by simp only [List.mem_cons, List.not_mem_nil, or_false] at hv; rcases hv with rfl | rfl | rfl | rfl | rfl | rfl | rfl | rfl | rfl | rfl | rfl <;> intro e <;> cases e) (by decide) (by decide)) (Nat.le_of_ble_eq_true rfl) (Nat.le_of_ble_eq_true rfl) dX6_init_80 (fun ad H had hI => ?_)
                refine W_stk (st' := [.ref (ad 16), .int 6, .ref (ad 2)]) (by rw [had 2 (by decide)]) ?_
                have hl : lv_has ls 2 [(1, .int 6), (0, .ref (ad 0))] := by rw [had 0 (by decide)]; exact hl
                have hh := (had 0 (by decide)).trans hh
                refine lv_dup hx hb dX6_init_83 rfl ?_
                refine tw_callN (tw_rIN (t := 16) (As := []) (rest := [.ref (ad 16), .int 6, .ref (ad 2)]) S hK hI kX6_49 (c_X4_init l D ad _ _ 16 26 (va_up_self _ _ _) ((va_up_ne _ _ (by decide)).trans (rP_no (Or.inr (Or.inr (by decide))))) (by decide) (cl_up (rP_cl (fun v hv => by simp only [List.mem_cons, List.not_mem_nil, or_false] at hv; rcases hv with rfl | rfl | rfl | rfl | rfl | rfl | rfl | rfl | rfl | rfl | rfl <;> intro e <;> cases e) (by decide) (by decide)) nr2)) ⟨Nat.le_of_ble_eq_true rfl, Nat.le_of_ble_eq_true rfl⟩ ⟨Nat.le_of_ble_eq_true rfl, Nat.le_of_ble_eq_true rfl⟩ rfl hl.1 rfl (Nat.le_of_ble_eq_true rfl) dX6_init_84) hI (fun ad H locs had hI => ?_)
                refine W_stk (st' := [.ref (ad 16), .int 6, .ref (ad 2)]) (by rw [had 16 _ (va_up_self _ _ _), had 2 _ ((va_up_ne _ _ (by decide)).trans rfl)]; rfl) ?_
                have hl : lv_has ls 2 [(1, .int 6), (0, .ref (ad 0))] := by rw [had 0 _ ((va_up_ne _ _ (by decide)).trans rfl)]; exact hl
                have hh := (had 0 _ ((va_up_ne _ _ (by decide)).trans rfl)).trans hh
                rw [up_3 _ (by decide)] at hI
                refine tw_aast S hK hI (t := 2) (n := 8) ((va_up_ne _ _ (by decide)).trans ((va_up_ne _ _ (by decide)).trans rfl)) (k := 5) rfl (show ¬ ((6 : Int32) < 0 ∨ 8 ≤ (6 : Int32).toNatClampNeg) from by decide) (some 16) rfl (fun y e => by cases e; exact tw_any hK hI (va_up_self _ _ _) rfl (Or.inr rfl)) dX6_init_87 (fun H locs hI => ?_)
                rw [show (6 : Int32).toNatClampNeg = 6 from rfl] at hI
                have hI : tw_I D _ ad (rP 2 7 [.ref 1, .ref 2, .int 0, .int 0, .int 0, .int (-1), .int 0, .int 0, .int 0, .int 0, .int 0]) s.heap H locs := (rP_r (i := 6) (fs := [.ref 1, .ref 2, .int 0, .int 0, .int 0, .int (-1), .int 0, .int 0, .int 0, .int 0, .int 0]) (by decide)) ▸ hI
                refine lv_iinc (v := 7) (lv' := [(1, .int 7), (0, .ref (ad 0))]) hx hb dX6_init_88 hl (k := 0) rfl (by decide) (by decide) rfl (fun ls hl => ?_)
                refine lv_goto (tgt := 69) hx hb dX6_init_91 (by decide) ?_
                refine lv_iload_n hx hb dX6_init_69 rfl (lv_at hl 0 rfl) ?_
                refine lv_bipush (v := 8) hx hb dX6_init_70 (by decide) ?_
                refine lv_icmp_ge (tgt := 94) hx hb dX6_init_72 (by decide) (fun c8 => ?_) (fun c8 => ?_)
                · exact absurd c8 (by decide)
                · refine lv_aload_n hx hb dX6_init_75 rfl (lv_at hl 1 rfl) ?_
                  refine f6_17_6 S hK hI (t := 0) (fs := [.ref 1, .ref 2, .int 0, .int 0, .int 0, .int (-1), .int 0, .int 0, .int 0, .int 0, .int 0]) rfl rfl (v' := .ref (ad 2)) rfl dX6_init_76 ?_
                  refine lv_iload_n hx hb dX6_init_79 rfl (lv_at hl 0 rfl) ?_
                  refine tw_new S hK hI iT4 tyX4 tyX4_ok (tw_mem (by decide +kernel) rfl) (tw_mem (by decide +kernel) rfl) (tw_mem (by decide +kernel) rfl) (ci := 3) rfl (fs := [.null, .int 0]) (fun j hj => by rcases (show j = 0 ∨ j = 1 by omega) with rfl | rfl <;> rfl) (fun _ => rfl) (17) (rP_no (Or.inr (Or.inr (by decide)))) (rP_cl (fun v hv => by simp only [List.mem_cons, List.not_mem_nil, or_false] at hv; rcases hv with rfl | rfl | rfl | rfl | rfl | rfl | rfl | rfl | rfl | rfl | rfl <;> intro e <;> cases e) (by decide) (by decide)) (Nat.le_of_ble_eq_true rfl) (Nat.le_of_ble_eq_true rfl) dX6_init_80 (fun ad H had hI => ?_)
                  refine W_stk (st' := [.ref (ad 17), .int 7, .ref (ad 2)]) (by rw [had 2 (by decide)]) ?_
                  have hl : lv_has ls 2 [(1, .int 7), (0, .ref (ad 0))] := by rw [had 0 (by decide)]; exact hl
                  have hh := (had 0 (by decide)).trans hh
                  refine lv_dup hx hb dX6_init_83 rfl ?_
                  refine tw_callN (tw_rIN (t := 17) (As := []) (rest := [.ref (ad 17), .int 7, .ref (ad 2)]) S hK hI kX6_49 (c_X4_init l D ad _ _ 17 27 (va_up_self _ _ _) ((va_up_ne _ _ (by decide)).trans (rP_no (Or.inr (Or.inr (by decide))))) (by decide) (cl_up (rP_cl (fun v hv => by simp only [List.mem_cons, List.not_mem_nil, or_false] at hv; rcases hv with rfl | rfl | rfl | rfl | rfl | rfl | rfl | rfl | rfl | rfl | rfl <;> intro e <;> cases e) (by decide) (by decide)) nr2)) ⟨Nat.le_of_ble_eq_true rfl, Nat.le_of_ble_eq_true rfl⟩ ⟨Nat.le_of_ble_eq_true rfl, Nat.le_of_ble_eq_true rfl⟩ rfl hl.1 rfl (Nat.le_of_ble_eq_true rfl) dX6_init_84) hI (fun ad H locs had hI => ?_)
                  refine W_stk (st' := [.ref (ad 17), .int 7, .ref (ad 2)]) (by rw [had 17 _ (va_up_self _ _ _), had 2 _ ((va_up_ne _ _ (by decide)).trans rfl)]; rfl) ?_
                  have hl : lv_has ls 2 [(1, .int 7), (0, .ref (ad 0))] := by rw [had 0 _ ((va_up_ne _ _ (by decide)).trans rfl)]; exact hl
                  have hh := (had 0 _ ((va_up_ne _ _ (by decide)).trans rfl)).trans hh
                  rw [up_3 _ (by decide)] at hI
                  refine tw_aast S hK hI (t := 2) (n := 8) ((va_up_ne _ _ (by decide)).trans ((va_up_ne _ _ (by decide)).trans rfl)) (k := 5) rfl (show ¬ ((7 : Int32) < 0 ∨ 8 ≤ (7 : Int32).toNatClampNeg) from by decide) (some 17) rfl (fun y e => by cases e; exact tw_any hK hI (va_up_self _ _ _) rfl (Or.inr rfl)) dX6_init_87 (fun H locs hI => ?_)
                  rw [show (7 : Int32).toNatClampNeg = 7 from rfl] at hI
                  have hI : tw_I D _ ad (rP 2 8 [.ref 1, .ref 2, .int 0, .int 0, .int 0, .int (-1), .int 0, .int 0, .int 0, .int 0, .int 0]) s.heap H locs := (rP_r (i := 7) (fs := [.ref 1, .ref 2, .int 0, .int 0, .int 0, .int (-1), .int 0, .int 0, .int 0, .int 0, .int 0]) (by decide)) ▸ hI
                  refine lv_iinc (v := 8) (lv' := [(1, .int 8), (0, .ref (ad 0))]) hx hb dX6_init_88 hl (k := 0) rfl (by decide) (by decide) rfl (fun ls hl => ?_)
                  refine lv_goto (tgt := 69) hx hb dX6_init_91 (by decide) ?_
                  refine lv_iload_n hx hb dX6_init_69 rfl (lv_at hl 0 rfl) ?_
                  refine lv_bipush (v := 8) hx hb dX6_init_70 (by decide) ?_
                  refine lv_icmp_ge (tgt := 94) hx hb dX6_init_72 (by decide) (fun c9 => ?_) (fun c9 => ?_)
                  · rw [rP_last (fs := [.ref 1, .ref 2, .int 0, .int 0, .int 0, .int (-1), .int 0, .int 0, .int 0, .int 0, .int 0]) rfl] at hI
                    exact W.vret S.1 S.2.1 hr (fun t ht _ => tw_retN (r := fun _ => none) hI (fun t ε h => by have e : t = 0 := Decidable.byContradiction (fun c => by rw [hn t (by omega)] at h; cases h); subst e; exact hh) ht) hI.2.2.1.2.2 dX6_init_94 hlocks
                  · exact absurd c9 (by decide)

def wP (w : tw_W) (S : List Nat) (fs : List Value) : tw_W := fun t =>
  if 1000 ≤ t then (if t = 1000 then some (.inr (6, fs)) else if t ∈ S then mCell s00 (t - 1000) else none) else w t
theorem wP_0 {w : tw_W} {S : List Nat} {fs fs' : List Value} : va_up (wP w S fs) 1000 (some (.inr (6, fs'))) = wP w S fs' := by
  funext t
  by_cases c : t = 1000
  · subst c; rw [va_up_self]; rfl
  · rw [va_up_ne _ _ c]; unfold wP; rw [if_neg c, if_neg c]
theorem wP_n {w : tw_W} {S : List Nat} {fs : List Value} {τ : Nat} {e : tw_T} (hτ : 1000 < τ) (he : mCell s00 (τ - 1000) = some e) : va_up (wP w S fs) τ (some e) = wP w (τ :: S) fs := by
  funext t
  by_cases c : t = τ
  · subst c
    rw [va_up_self]
    unfold wP
    rw [if_pos (by omega), if_neg (by omega), if_pos (List.mem_cons_self), he]
  · rw [va_up_ne _ _ c]
    unfold wP
    by_cases c1 : 1000 ≤ t
    · rw [if_pos c1, if_pos c1]
      by_cases c2 : t ∈ S
      · rw [if_pos c2, if_pos (List.mem_cons_of_mem _ c2)]
      · rw [if_neg c2, if_neg (show t ∉ τ :: S from fun h => by rcases List.mem_cons.mp h with h | h; exact c h; exact c2 h)]
    · rw [if_neg c1, if_neg c1]
theorem wP_no {w : tw_W} {S : List Nat} {fs : List Value} {τ : Nat} (hτ : 1000 < τ) (h : τ ∉ S) : wP w S fs τ = none := by
  unfold wP
  rw [if_pos (by omega), if_neg (by omega), if_neg h]
theorem mCell_nr {k τ : Nat} {e : tw_T} (hk : k ≠ 0) (h : mCell s00 k = some e) : tw_nr τ e := by
  unfold mCell at h
  rw [if_neg hk] at h
  by_cases c4 : k = 4
  · rw [if_pos c4] at h; cases h; exact nr_l
  rw [if_neg c4] at h
  by_cases c8 : k = 8
  · rw [if_pos c8] at h; cases h; exact nr_i
  rw [if_neg c8] at h
  by_cases c14 : k = 14
  · rw [if_pos c14] at h; cases h; exact nr_i
  rw [if_neg c14] at h
  by_cases cm : k ∈ mInts
  · rw [if_pos cm] at h; cases h; exact nr_i
  rw [if_neg cm] at h
  cases h
theorem wP_cl {w : tw_W} {S : List Nat} {fs : List Value} {τ : Nat} (hf : ∀ v : Value, v ∈ fs → v ≠ .ref τ) (hw : tw_cl τ w) : tw_cl τ (wP w S fs) := by
  intro t e he
  unfold wP at he
  by_cases c1 : 1000 ≤ t
  · rw [if_pos c1] at he
    by_cases c2 : t = 1000
    · rw [if_pos c2] at he; cases he; exact nr_o hf
    rw [if_neg c2] at he
    by_cases c3 : t ∈ S
    · rw [if_pos c3] at he; exact mCell_nr (by omega) he
    · rw [if_neg c3] at he; cases he
  · rw [if_neg c1] at he; exact hw t e he
theorem wP_first {w : tw_W} {fs : List Value} (he : w 1000 = some (.inr (6, fs))) (hn : ∀ t : Nat, 1000 < t → w t = none) : w = wP w [] fs := by
  funext t
  unfold wP
  by_cases c1 : 1000 ≤ t
  · rw [if_pos c1]
    by_cases c : t = 1000
    · subst c; rw [he]; rfl
    · rw [hn t (by omega), if_neg c, if_neg (List.not_mem_nil)]
  · rw [if_neg c1]
theorem wP_last {w : tw_W} {S : List Nat} {fs : List Value} (hf : fs = mRoot s00) (hS : ∀ k : Nat, (k = 4 ∨ k = 8 ∨ k = 14 ∨ k ∈ mInts) → 1000 + k ∈ S) : wP w S fs = wM w s00 := by
  subst hf
  funext t
  unfold wP wM
  by_cases c1 : 1000 ≤ t
  · rw [if_pos c1, if_pos c1]
    by_cases c : t = 1000
    · subst c; rfl
    · rw [if_neg c]
      by_cases c2 : t ∈ S
      · rw [if_pos c2]
      · rw [if_neg c2]
        have hk : ∀ k : Nat, (k = 4 ∨ k = 8 ∨ k = 14 ∨ k ∈ mInts) → t - 1000 ≠ k := fun k hk e => c2 (by have := hS k hk; rw [← e, show 1000 + (t - 1000) = t by omega] at this; exact this)
        unfold mCell
        rw [if_neg (by omega), if_neg (hk 4 (Or.inl rfl)), if_neg (hk 8 (Or.inr (Or.inl rfl))), if_neg (hk 14 (Or.inr (Or.inr (Or.inl rfl)))), if_neg (fun h => hk _ (Or.inr (Or.inr (Or.inr h))) rfl)]
  · rw [if_neg c1, if_neg c1]

def isRefTo (τ : Nat) : Value → Bool
  | .ref t => t == τ
  | _ => false
theorem ms_cl {fs : List Value} {τ : Nat} (h : fs.all (fun v => !isRefTo τ v) = true) : ∀ v : Value, v ∈ fs → v ≠ .ref τ := by
  intro v hv e
  subst e
  have := List.all_eq_true.mp h _ hv
  simp [isRefTo] at this

set_option maxHeartbeats 2000000 in
set_option maxRecDepth 100000 in
theorem c_X7_init (l : Launch) (D : tw_G) (ad : Nat → Nat) (w : tw_W) (sz : Nat)  (he : w 1000 = some (.inr (6, [.int 0, .null, .null, .null, .null, .null, .null, .null, .null, .null, .null, .null, .null, .null, .null, .int 0, .int 0, .int 0, .int 0, .int 0, .int 0, .null, .null, .null, .null, .int 0, .int 0]))) (hn : ∀ t : Nat, 1000 < t → w t = none) (hcl : ∀ t : Nat, 1000 < t → tw_cl t w) : Met l yX7_init (tw_w yX7_init cX7_init 1 none) (tw_R 1 18 692) (tw_Pc D ad w sz [.ref (ad 1000)]) (tw_Qn D ad w (wM w s00) (tw_A ad w sz) (fun _ => none)) 18 692 (tw_A ad w sz) := by
  have hfirst := wP_first he hn
  have hh : ∀ t : Nat, t ≤ 1000 → ad t = ad t := fun _ _ => rfl
  refine tw_met (by decide) rfl (by simp [lg_sl, Value.category]) (fun p e s m below meth c ls S hK hr hlocks hnm hsz hI hl => ?_)
  have hx := S.1
  have hb := S.2.1
  have hl : lv_has ls 1 [(0, .ref (ad 1000))] := hl
  have hI : tw_I D (tw_A ad w sz) ad (wP w [] [.int 0, .null, .null, .null, .null, .null, .null, .null, .null, .null, .null, .null, .null, .null, .null, .int 0, .int 0, .int 0, .int 0, .int 0, .int 0, .null, .null, .null, .null, .int 0, .int 0]) s.heap s.heap [] := by rw [← hfirst]; exact hI
  refine lv_aload_n hx hb dX7_init_0 rfl (lv_at hl 0 rfl) ?_
  refine tw_obj S (tw_mem (by decide +kernel) rfl) (tw_mem (by decide +kernel) rfl) (tw_mem (by decide +kernel) rfl) hl.1 dX7_init_1 (Nat.le_of_ble_eq_true rfl) (Nat.le_of_ble_eq_true rfl) ?_
  refine lv_aload_n hx hb dX7_init_4 rfl (lv_at hl 0 rfl) ?_
  refine lv_bipush (v := 60) hx hb dX7_init_5 (by decide) ?_
  refine tw_newI (atype := .int) (ty := .int) S hK hI rfl (tw_mem (by decide +kernel) rfl) (k := 0) rfl (fun _ h => h) (a0 := (60, .inl (fun _ => 0))) (N := 60) (fun _ _ => rfl) (by decide) (by decide) (by decide) (1001) (wP_no (by decide) (by decide)) (wP_cl (ms_cl (fs := [.int 0, .null, .null, .null, .null, .null, .null, .null, .null, .null, .null, .null, .null, .null, .null, .int 0, .int 0, .int 0, .int 0, .int 0, .int 0, .null, .null, .null, .null, .int 0, .int 0]) (by decide)) (hcl 1001 (by decide))) (Nat.le_of_ble_eq_true rfl) (Nat.le_of_ble_eq_true rfl) dX7_init_7 (fun ad H had hI => ?_)
  refine W_stk (st' := [.ref (ad 1001), .ref (ad 1000)]) (by rw [had 1000 (by decide)]) ?_
  have hl : lv_has ls 1 [(0, .ref (ad 1000))] := by rw [had 1000 (by decide)]; exact hl
  have hh : ∀ t : Nat, t ≤ 1000 → ad t = _ := fun t h => (had t (by omega)).trans (hh t h)
  rw [wP_n (by decide) rfl] at hI
  refine F7_7_7 S hK hI rfl hnm (v := .ref 1001) rfl rfl rfl (Nat.le_of_ble_eq_true rfl) dX7_init_9 (fun H locs hI => ?_)
  rw [wP_0] at hI
  change tw_I D _ ad (wP w [1001] [.int 0, .ref 1001, .null, .null, .null, .null, .null, .null, .null, .null, .null, .null, .null, .null, .null, .int 0, .int 0, .int 0, .int 0, .int 0, .int 0, .null, .null, .null, .null, .int 0, .int 0]) s.heap H locs at hI
  refine lv_aload_n hx hb dX7_init_12 rfl (lv_at hl 0 rfl) ?_
  refine lv_bipush (v := 60) hx hb dX7_init_13 (by decide) ?_
  refine tw_newI (atype := .int) (ty := .int) S hK hI rfl (tw_mem (by decide +kernel) rfl) (k := 0) rfl (fun _ h => h) (a0 := (60, .inl (fun _ => 0))) (N := 60) (fun _ _ => rfl) (by decide) (by decide) (by decide) (1002) (wP_no (by decide) (by decide)) (wP_cl (ms_cl (fs := [.int 0, .ref 1001, .null, .null, .null, .null, .null, .null, .null, .null, .null, .null, .null, .null, .null, .int 0, .int 0, .int 0, .int 0, .int 0, .int 0, .null, .null, .null, .null, .int 0, .int 0]) (by decide)) (hcl 1002 (by decide))) (Nat.le_of_ble_eq_true rfl) (Nat.le_of_ble_eq_true rfl) dX7_init_15 (fun ad H had hI => ?_)
  refine W_stk (st' := [.ref (ad 1002), .ref (ad 1000)]) (by rw [had 1000 (by decide)]) ?_
  have hl : lv_has ls 1 [(0, .ref (ad 1000))] := by rw [had 1000 (by decide)]; exact hl
  have hh : ∀ t : Nat, t ≤ 1000 → ad t = _ := fun t h => (had t (by omega)).trans (hh t h)
  rw [wP_n (by decide) rfl] at hI
  refine F7_13_7 S hK hI rfl hnm (v := .ref 1002) rfl rfl rfl (Nat.le_of_ble_eq_true rfl) dX7_init_17 (fun H locs hI => ?_)
  rw [wP_0] at hI
  change tw_I D _ ad (wP w [1002, 1001] [.int 0, .ref 1001, .ref 1002, .null, .null, .null, .null, .null, .null, .null, .null, .null, .null, .null, .null, .int 0, .int 0, .int 0, .int 0, .int 0, .int 0, .null, .null, .null, .null, .int 0, .int 0]) s.heap H locs at hI
  refine lv_aload_n hx hb dX7_init_20 rfl (lv_at hl 0 rfl) ?_
  refine lv_bipush (v := 60) hx hb dX7_init_21 (by decide) ?_
  refine tw_newI (atype := .int) (ty := .int) S hK hI rfl (tw_mem (by decide +kernel) rfl) (k := 0) rfl (fun _ h => h) (a0 := (60, .inl (fun _ => 0))) (N := 60) (fun _ _ => rfl) (by decide) (by decide) (by decide) (1003) (wP_no (by decide) (by decide)) (wP_cl (ms_cl (fs := [.int 0, .ref 1001, .ref 1002, .null, .null, .null, .null, .null, .null, .null, .null, .null, .null, .null, .null, .int 0, .int 0, .int 0, .int 0, .int 0, .int 0, .null, .null, .null, .null, .int 0, .int 0]) (by decide)) (hcl 1003 (by decide))) (Nat.le_of_ble_eq_true rfl) (Nat.le_of_ble_eq_true rfl) dX7_init_23 (fun ad H had hI => ?_)
  refine W_stk (st' := [.ref (ad 1003), .ref (ad 1000)]) (by rw [had 1000 (by decide)]) ?_
  have hl : lv_has ls 1 [(0, .ref (ad 1000))] := by rw [had 1000 (by decide)]; exact hl
  have hh : ∀ t : Nat, t ≤ 1000 → ad t = _ := fun t h => (had t (by omega)).trans (hh t h)
  rw [wP_n (by decide) rfl] at hI
  refine F7_16_7 S hK hI rfl hnm (v := .ref 1003) rfl rfl rfl (Nat.le_of_ble_eq_true rfl) dX7_init_25 (fun H locs hI => ?_)
  rw [wP_0] at hI
  change tw_I D _ ad (wP w [1003, 1002, 1001] [.int 0, .ref 1001, .ref 1002, .ref 1003, .null, .null, .null, .null, .null, .null, .null, .null, .null, .null, .null, .int 0, .int 0, .int 0, .int 0, .int 0, .int 0, .null, .null, .null, .null, .int 0, .int 0]) s.heap H locs at hI
  refine lv_aload_n hx hb dX7_init_28 rfl (lv_at hl 0 rfl) ?_
  refine lv_sipush (v := 180) hx hb dX7_init_29 (by decide) ?_
  refine tw_newI (atype := .long) (ty := .long) S hK hI rfl (tw_mem (by decide +kernel) rfl) (k := 1) rfl (fun _ h => h) (a0 := (180, .inr (.inl (fun _ => 0)))) (N := 180) (fun _ _ => rfl) (by decide) (by decide) (by decide) (1004) (wP_no (by decide) (by decide)) (wP_cl (ms_cl (fs := [.int 0, .ref 1001, .ref 1002, .ref 1003, .null, .null, .null, .null, .null, .null, .null, .null, .null, .null, .null, .int 0, .int 0, .int 0, .int 0, .int 0, .int 0, .null, .null, .null, .null, .int 0, .int 0]) (by decide)) (hcl 1004 (by decide))) (Nat.le_of_ble_eq_true rfl) (Nat.le_of_ble_eq_true rfl) dX7_init_32 (fun ad H had hI => ?_)
  refine W_stk (st' := [.ref (ad 1004), .ref (ad 1000)]) (by rw [had 1000 (by decide)]) ?_
  have hl : lv_has ls 1 [(0, .ref (ad 1000))] := by rw [had 1000 (by decide)]; exact hl
  have hh : ∀ t : Nat, t ≤ 1000 → ad t = _ := fun t h => (had t (by omega)).trans (hh t h)
  rw [wP_n (by decide) rfl] at hI
  refine F7_19_7 S hK hI rfl hnm (v := .ref 1004) rfl rfl rfl (Nat.le_of_ble_eq_true rfl) dX7_init_34 (fun H locs hI => ?_)
  rw [wP_0] at hI
  change tw_I D _ ad (wP w [1004, 1003, 1002, 1001] [.int 0, .ref 1001, .ref 1002, .ref 1003, .ref 1004, .null, .null, .null, .null, .null, .null, .null, .null, .null, .null, .int 0, .int 0, .int 0, .int 0, .int 0, .int 0, .null, .null, .null, .null, .int 0, .int 0]) s.heap H locs at hI
  refine lv_aload_n hx hb dX7_init_37 rfl (lv_at hl 0 rfl) ?_
  refine lv_bipush (v := 8) hx hb dX7_init_38 (by decide) ?_
  refine tw_newI (atype := .int) (ty := .int) S hK hI rfl (tw_mem (by decide +kernel) rfl) (k := 0) rfl (fun _ h => h) (a0 := (8, .inl (fun _ => 0))) (N := 8) (fun _ _ => rfl) (by decide) (by decide) (by decide) (1005) (wP_no (by decide) (by decide)) (wP_cl (ms_cl (fs := [.int 0, .ref 1001, .ref 1002, .ref 1003, .ref 1004, .null, .null, .null, .null, .null, .null, .null, .null, .null, .null, .int 0, .int 0, .int 0, .int 0, .int 0, .int 0, .null, .null, .null, .null, .int 0, .int 0]) (by decide)) (hcl 1005 (by decide))) (Nat.le_of_ble_eq_true rfl) (Nat.le_of_ble_eq_true rfl) dX7_init_40 (fun ad H had hI => ?_)
  refine W_stk (st' := [.ref (ad 1005), .ref (ad 1000)]) (by rw [had 1000 (by decide)]) ?_
  have hl : lv_has ls 1 [(0, .ref (ad 1000))] := by rw [had 1000 (by decide)]; exact hl
  have hh : ∀ t : Nat, t ≤ 1000 → ad t = _ := fun t h => (had t (by omega)).trans (hh t h)
  rw [wP_n (by decide) rfl] at hI
  refine F7_23_7 S hK hI rfl hnm (v := .ref 1005) rfl rfl rfl (Nat.le_of_ble_eq_true rfl) dX7_init_42 (fun H locs hI => ?_)
  rw [wP_0] at hI
  change tw_I D _ ad (wP w [1005, 1004, 1003, 1002, 1001] [.int 0, .ref 1001, .ref 1002, .ref 1003, .ref 1004, .ref 1005, .null, .null, .null, .null, .null, .null, .null, .null, .null, .int 0, .int 0, .int 0, .int 0, .int 0, .int 0, .null, .null, .null, .null, .int 0, .int 0]) s.heap H locs at hI
  refine lv_aload_n hx hb dX7_init_45 rfl (lv_at hl 0 rfl) ?_
  refine lv_bipush (v := 32) hx hb dX7_init_46 (by decide) ?_
  refine tw_newI (atype := .int) (ty := .int) S hK hI rfl (tw_mem (by decide +kernel) rfl) (k := 0) rfl (fun _ h => h) (a0 := (32, .inl (fun _ => 0))) (N := 32) (fun _ _ => rfl) (by decide) (by decide) (by decide) (1006) (wP_no (by decide) (by decide)) (wP_cl (ms_cl (fs := [.int 0, .ref 1001, .ref 1002, .ref 1003, .ref 1004, .ref 1005, .null, .null, .null, .null, .null, .null, .null, .null, .null, .int 0, .int 0, .int 0, .int 0, .int 0, .int 0, .null, .null, .null, .null, .int 0, .int 0]) (by decide)) (hcl 1006 (by decide))) (Nat.le_of_ble_eq_true rfl) (Nat.le_of_ble_eq_true rfl) dX7_init_48 (fun ad H had hI => ?_)
  refine W_stk (st' := [.ref (ad 1006), .ref (ad 1000)]) (by rw [had 1000 (by decide)]) ?_
  have hl : lv_has ls 1 [(0, .ref (ad 1000))] := by rw [had 1000 (by decide)]; exact hl
  have hh : ∀ t : Nat, t ≤ 1000 → ad t = _ := fun t h => (had t (by omega)).trans (hh t h)
  rw [wP_n (by decide) rfl] at hI
  refine F7_26_7 S hK hI rfl hnm (v := .ref 1006) rfl rfl rfl (Nat.le_of_ble_eq_true rfl) dX7_init_50 (fun H locs hI => ?_)
  rw [wP_0] at hI
  change tw_I D _ ad (wP w [1006, 1005, 1004, 1003, 1002, 1001] [.int 0, .ref 1001, .ref 1002, .ref 1003, .ref 1004, .ref 1005, .ref 1006, .null, .null, .null, .null, .null, .null, .null, .null, .int 0, .int 0, .int 0, .int 0, .int 0, .int 0, .null, .null, .null, .null, .int 0, .int 0]) s.heap H locs at hI
  refine lv_aload_n hx hb dX7_init_53 rfl (lv_at hl 0 rfl) ?_
  refine lv_bipush (v := 32) hx hb dX7_init_54 (by decide) ?_
  refine tw_newI (atype := .int) (ty := .int) S hK hI rfl (tw_mem (by decide +kernel) rfl) (k := 0) rfl (fun _ h => h) (a0 := (32, .inl (fun _ => 0))) (N := 32) (fun _ _ => rfl) (by decide) (by decide) (by decide) (1007) (wP_no (by decide) (by decide)) (wP_cl (ms_cl (fs := [.int 0, .ref 1001, .ref 1002, .ref 1003, .ref 1004, .ref 1005, .ref 1006, .null, .null, .null, .null, .null, .null, .null, .null, .int 0, .int 0, .int 0, .int 0, .int 0, .int 0, .null, .null, .null, .null, .int 0, .int 0]) (by decide)) (hcl 1007 (by decide))) (Nat.le_of_ble_eq_true rfl) (Nat.le_of_ble_eq_true rfl) dX7_init_56 (fun ad H had hI => ?_)
  refine W_stk (st' := [.ref (ad 1007), .ref (ad 1000)]) (by rw [had 1000 (by decide)]) ?_
  have hl : lv_has ls 1 [(0, .ref (ad 1000))] := by rw [had 1000 (by decide)]; exact hl
  have hh : ∀ t : Nat, t ≤ 1000 → ad t = _ := fun t h => (had t (by omega)).trans (hh t h)
  rw [wP_n (by decide) rfl] at hI
  refine F7_29_7 S hK hI rfl hnm (v := .ref 1007) rfl rfl rfl (Nat.le_of_ble_eq_true rfl) dX7_init_58 (fun H locs hI => ?_)
  rw [wP_0] at hI
  change tw_I D _ ad (wP w [1007, 1006, 1005, 1004, 1003, 1002, 1001] [.int 0, .ref 1001, .ref 1002, .ref 1003, .ref 1004, .ref 1005, .ref 1006, .ref 1007, .null, .null, .null, .null, .null, .null, .null, .int 0, .int 0, .int 0, .int 0, .int 0, .int 0, .null, .null, .null, .null, .int 0, .int 0]) s.heap H locs at hI
  refine lv_aload_n hx hb dX7_init_61 rfl (lv_at hl 0 rfl) ?_
  refine lv_bipush (v := 32) hx hb dX7_init_62 (by decide) ?_
  refine tw_newI (atype := .boolean) (ty := .boolean) S hK hI rfl (tw_mem (by decide +kernel) rfl) (k := 2) rfl (fun _ h => h) (a0 := (32, .inl (fun _ => 0))) (N := 32) (fun _ _ => rfl) (by decide) (by decide) (by decide) (1008) (wP_no (by decide) (by decide)) (wP_cl (ms_cl (fs := [.int 0, .ref 1001, .ref 1002, .ref 1003, .ref 1004, .ref 1005, .ref 1006, .ref 1007, .null, .null, .null, .null, .null, .null, .null, .int 0, .int 0, .int 0, .int 0, .int 0, .int 0, .null, .null, .null, .null, .int 0, .int 0]) (by decide)) (hcl 1008 (by decide))) (Nat.le_of_ble_eq_true rfl) (Nat.le_of_ble_eq_true rfl) dX7_init_64 (fun ad H had hI => ?_)
  refine W_stk (st' := [.ref (ad 1008), .ref (ad 1000)]) (by rw [had 1000 (by decide)]) ?_
  have hl : lv_has ls 1 [(0, .ref (ad 1000))] := by rw [had 1000 (by decide)]; exact hl
  have hh : ∀ t : Nat, t ≤ 1000 → ad t = _ := fun t h => (had t (by omega)).trans (hh t h)
  rw [wP_n (by decide) rfl] at hI
  refine F7_32_7 S hK hI rfl hnm (v := .ref 1008) rfl rfl rfl (Nat.le_of_ble_eq_true rfl) dX7_init_66 (fun H locs hI => ?_)
  rw [wP_0] at hI
  change tw_I D _ ad (wP w [1008, 1007, 1006, 1005, 1004, 1003, 1002, 1001] [.int 0, .ref 1001, .ref 1002, .ref 1003, .ref 1004, .ref 1005, .ref 1006, .ref 1007, .ref 1008, .null, .null, .null, .null, .null, .null, .int 0, .int 0, .int 0, .int 0, .int 0, .int 0, .null, .null, .null, .null, .int 0, .int 0]) s.heap H locs at hI
  refine lv_aload_n hx hb dX7_init_69 rfl (lv_at hl 0 rfl) ?_
  refine lv_bipush (v := 32) hx hb dX7_init_70 (by decide) ?_
  refine tw_newI (atype := .int) (ty := .int) S hK hI rfl (tw_mem (by decide +kernel) rfl) (k := 0) rfl (fun _ h => h) (a0 := (32, .inl (fun _ => 0))) (N := 32) (fun _ _ => rfl) (by decide) (by decide) (by decide) (1009) (wP_no (by decide) (by decide)) (wP_cl (ms_cl (fs := [.int 0, .ref 1001, .ref 1002, .ref 1003, .ref 1004, .ref 1005, .ref 1006, .ref 1007, .ref 1008, .null, .null, .null, .null, .null, .null, .int 0, .int 0, .int 0, .int 0, .int 0, .int 0, .null, .null, .null, .null, .int 0, .int 0]) (by decide)) (hcl 1009 (by decide))) (Nat.le_of_ble_eq_true rfl) (Nat.le_of_ble_eq_true rfl) dX7_init_72 (fun ad H had hI => ?_)
  refine W_stk (st' := [.ref (ad 1009), .ref (ad 1000)]) (by rw [had 1000 (by decide)]) ?_
  have hl : lv_has ls 1 [(0, .ref (ad 1000))] := by rw [had 1000 (by decide)]; exact hl
  have hh : ∀ t : Nat, t ≤ 1000 → ad t = _ := fun t h => (had t (by omega)).trans (hh t h)
  rw [wP_n (by decide) rfl] at hI
  refine F7_36_7 S hK hI rfl hnm (v := .ref 1009) rfl rfl rfl (Nat.le_of_ble_eq_true rfl) dX7_init_74 (fun H locs hI => ?_)
  rw [wP_0] at hI
  change tw_I D _ ad (wP w [1009, 1008, 1007, 1006, 1005, 1004, 1003, 1002, 1001] [.int 0, .ref 1001, .ref 1002, .ref 1003, .ref 1004, .ref 1005, .ref 1006, .ref 1007, .ref 1008, .ref 1009, .null, .null, .null, .null, .null, .int 0, .int 0, .int 0, .int 0, .int 0, .int 0, .null, .null, .null, .null, .int 0, .int 0]) s.heap H locs at hI
  refine lv_aload_n hx hb dX7_init_77 rfl (lv_at hl 0 rfl) ?_
  refine lv_bipush (v := 32) hx hb dX7_init_78 (by decide) ?_
  refine tw_newI (atype := .int) (ty := .int) S hK hI rfl (tw_mem (by decide +kernel) rfl) (k := 0) rfl (fun _ h => h) (a0 := (32, .inl (fun _ => 0))) (N := 32) (fun _ _ => rfl) (by decide) (by decide) (by decide) (1010) (wP_no (by decide) (by decide)) (wP_cl (ms_cl (fs := [.int 0, .ref 1001, .ref 1002, .ref 1003, .ref 1004, .ref 1005, .ref 1006, .ref 1007, .ref 1008, .ref 1009, .null, .null, .null, .null, .null, .int 0, .int 0, .int 0, .int 0, .int 0, .int 0, .null, .null, .null, .null, .int 0, .int 0]) (by decide)) (hcl 1010 (by decide))) (Nat.le_of_ble_eq_true rfl) (Nat.le_of_ble_eq_true rfl) dX7_init_80 (fun ad H had hI => ?_)
  refine W_stk (st' := [.ref (ad 1010), .ref (ad 1000)]) (by rw [had 1000 (by decide)]) ?_
  have hl : lv_has ls 1 [(0, .ref (ad 1000))] := by rw [had 1000 (by decide)]; exact hl
  have hh : ∀ t : Nat, t ≤ 1000 → ad t = _ := fun t h => (had t (by omega)).trans (hh t h)
  rw [wP_n (by decide) rfl] at hI
  refine F7_39_7 S hK hI rfl hnm (v := .ref 1010) rfl rfl rfl (Nat.le_of_ble_eq_true rfl) dX7_init_82 (fun H locs hI => ?_)
  rw [wP_0] at hI
  change tw_I D _ ad (wP w [1010, 1009, 1008, 1007, 1006, 1005, 1004, 1003, 1002, 1001] [.int 0, .ref 1001, .ref 1002, .ref 1003, .ref 1004, .ref 1005, .ref 1006, .ref 1007, .ref 1008, .ref 1009, .ref 1010, .null, .null, .null, .null, .int 0, .int 0, .int 0, .int 0, .int 0, .int 0, .null, .null, .null, .null, .int 0, .int 0]) s.heap H locs at hI
  refine lv_aload_n hx hb dX7_init_85 rfl (lv_at hl 0 rfl) ?_
  refine lv_bipush (v := 32) hx hb dX7_init_86 (by decide) ?_
  refine tw_newI (atype := .int) (ty := .int) S hK hI rfl (tw_mem (by decide +kernel) rfl) (k := 0) rfl (fun _ h => h) (a0 := (32, .inl (fun _ => 0))) (N := 32) (fun _ _ => rfl) (by decide) (by decide) (by decide) (1011) (wP_no (by decide) (by decide)) (wP_cl (ms_cl (fs := [.int 0, .ref 1001, .ref 1002, .ref 1003, .ref 1004, .ref 1005, .ref 1006, .ref 1007, .ref 1008, .ref 1009, .ref 1010, .null, .null, .null, .null, .int 0, .int 0, .int 0, .int 0, .int 0, .int 0, .null, .null, .null, .null, .int 0, .int 0]) (by decide)) (hcl 1011 (by decide))) (Nat.le_of_ble_eq_true rfl) (Nat.le_of_ble_eq_true rfl) dX7_init_88 (fun ad H had hI => ?_)
  refine W_stk (st' := [.ref (ad 1011), .ref (ad 1000)]) (by rw [had 1000 (by decide)]) ?_
  have hl : lv_has ls 1 [(0, .ref (ad 1000))] := by rw [had 1000 (by decide)]; exact hl
  have hh : ∀ t : Nat, t ≤ 1000 → ad t = _ := fun t h => (had t (by omega)).trans (hh t h)
  rw [wP_n (by decide) rfl] at hI
  refine F7_42_7 S hK hI rfl hnm (v := .ref 1011) rfl rfl rfl (Nat.le_of_ble_eq_true rfl) dX7_init_90 (fun H locs hI => ?_)
  rw [wP_0] at hI
  change tw_I D _ ad (wP w [1011, 1010, 1009, 1008, 1007, 1006, 1005, 1004, 1003, 1002, 1001] [.int 0, .ref 1001, .ref 1002, .ref 1003, .ref 1004, .ref 1005, .ref 1006, .ref 1007, .ref 1008, .ref 1009, .ref 1010, .ref 1011, .null, .null, .null, .int 0, .int 0, .int 0, .int 0, .int 0, .int 0, .null, .null, .null, .null, .int 0, .int 0]) s.heap H locs at hI
  refine lv_aload_n hx hb dX7_init_93 rfl (lv_at hl 0 rfl) ?_
  refine lv_bipush (v := 32) hx hb dX7_init_94 (by decide) ?_
  refine tw_newI (atype := .int) (ty := .int) S hK hI rfl (tw_mem (by decide +kernel) rfl) (k := 0) rfl (fun _ h => h) (a0 := (32, .inl (fun _ => 0))) (N := 32) (fun _ _ => rfl) (by decide) (by decide) (by decide) (1012) (wP_no (by decide) (by decide)) (wP_cl (ms_cl (fs := [.int 0, .ref 1001, .ref 1002, .ref 1003, .ref 1004, .ref 1005, .ref 1006, .ref 1007, .ref 1008, .ref 1009, .ref 1010, .ref 1011, .null, .null, .null, .int 0, .int 0, .int 0, .int 0, .int 0, .int 0, .null, .null, .null, .null, .int 0, .int 0]) (by decide)) (hcl 1012 (by decide))) (Nat.le_of_ble_eq_true rfl) (Nat.le_of_ble_eq_true rfl) dX7_init_96 (fun ad H had hI => ?_)
  refine W_stk (st' := [.ref (ad 1012), .ref (ad 1000)]) (by rw [had 1000 (by decide)]) ?_
  have hl : lv_has ls 1 [(0, .ref (ad 1000))] := by rw [had 1000 (by decide)]; exact hl
  have hh : ∀ t : Nat, t ≤ 1000 → ad t = _ := fun t h => (had t (by omega)).trans (hh t h)
  rw [wP_n (by decide) rfl] at hI
  refine F7_45_7 S hK hI rfl hnm (v := .ref 1012) rfl rfl rfl (Nat.le_of_ble_eq_true rfl) dX7_init_98 (fun H locs hI => ?_)
  rw [wP_0] at hI
  change tw_I D _ ad (wP w [1012, 1011, 1010, 1009, 1008, 1007, 1006, 1005, 1004, 1003, 1002, 1001] [.int 0, .ref 1001, .ref 1002, .ref 1003, .ref 1004, .ref 1005, .ref 1006, .ref 1007, .ref 1008, .ref 1009, .ref 1010, .ref 1011, .ref 1012, .null, .null, .int 0, .int 0, .int 0, .int 0, .int 0, .int 0, .null, .null, .null, .null, .int 0, .int 0]) s.heap H locs at hI
  refine lv_aload_n hx hb dX7_init_101 rfl (lv_at hl 0 rfl) ?_
  refine lv_bipush (v := 32) hx hb dX7_init_102 (by decide) ?_
  refine tw_newI (atype := .int) (ty := .int) S hK hI rfl (tw_mem (by decide +kernel) rfl) (k := 0) rfl (fun _ h => h) (a0 := (32, .inl (fun _ => 0))) (N := 32) (fun _ _ => rfl) (by decide) (by decide) (by decide) (1013) (wP_no (by decide) (by decide)) (wP_cl (ms_cl (fs := [.int 0, .ref 1001, .ref 1002, .ref 1003, .ref 1004, .ref 1005, .ref 1006, .ref 1007, .ref 1008, .ref 1009, .ref 1010, .ref 1011, .ref 1012, .null, .null, .int 0, .int 0, .int 0, .int 0, .int 0, .int 0, .null, .null, .null, .null, .int 0, .int 0]) (by decide)) (hcl 1013 (by decide))) (Nat.le_of_ble_eq_true rfl) (Nat.le_of_ble_eq_true rfl) dX7_init_104 (fun ad H had hI => ?_)
  refine W_stk (st' := [.ref (ad 1013), .ref (ad 1000)]) (by rw [had 1000 (by decide)]) ?_
  have hl : lv_has ls 1 [(0, .ref (ad 1000))] := by rw [had 1000 (by decide)]; exact hl
  have hh : ∀ t : Nat, t ≤ 1000 → ad t = _ := fun t h => (had t (by omega)).trans (hh t h)
  rw [wP_n (by decide) rfl] at hI
  refine F7_48_7 S hK hI rfl hnm (v := .ref 1013) rfl rfl rfl (Nat.le_of_ble_eq_true rfl) dX7_init_106 (fun H locs hI => ?_)
  rw [wP_0] at hI
  change tw_I D _ ad (wP w [1013, 1012, 1011, 1010, 1009, 1008, 1007, 1006, 1005, 1004, 1003, 1002, 1001] [.int 0, .ref 1001, .ref 1002, .ref 1003, .ref 1004, .ref 1005, .ref 1006, .ref 1007, .ref 1008, .ref 1009, .ref 1010, .ref 1011, .ref 1012, .ref 1013, .null, .int 0, .int 0, .int 0, .int 0, .int 0, .int 0, .null, .null, .null, .null, .int 0, .int 0]) s.heap H locs at hI
  refine lv_aload_n hx hb dX7_init_109 rfl (lv_at hl 0 rfl) ?_
  refine lv_bipush (v := 32) hx hb dX7_init_110 (by decide) ?_
  refine tw_newI (atype := .boolean) (ty := .boolean) S hK hI rfl (tw_mem (by decide +kernel) rfl) (k := 2) rfl (fun _ h => h) (a0 := (32, .inl (fun _ => 0))) (N := 32) (fun _ _ => rfl) (by decide) (by decide) (by decide) (1014) (wP_no (by decide) (by decide)) (wP_cl (ms_cl (fs := [.int 0, .ref 1001, .ref 1002, .ref 1003, .ref 1004, .ref 1005, .ref 1006, .ref 1007, .ref 1008, .ref 1009, .ref 1010, .ref 1011, .ref 1012, .ref 1013, .null, .int 0, .int 0, .int 0, .int 0, .int 0, .int 0, .null, .null, .null, .null, .int 0, .int 0]) (by decide)) (hcl 1014 (by decide))) (Nat.le_of_ble_eq_true rfl) (Nat.le_of_ble_eq_true rfl) dX7_init_112 (fun ad H had hI => ?_)
  refine W_stk (st' := [.ref (ad 1014), .ref (ad 1000)]) (by rw [had 1000 (by decide)]) ?_
  have hl : lv_has ls 1 [(0, .ref (ad 1000))] := by rw [had 1000 (by decide)]; exact hl
  have hh : ∀ t : Nat, t ≤ 1000 → ad t = _ := fun t h => (had t (by omega)).trans (hh t h)
  rw [wP_n (by decide) rfl] at hI
  refine F7_51_7 S hK hI rfl hnm (v := .ref 1014) rfl rfl rfl (Nat.le_of_ble_eq_true rfl) dX7_init_114 (fun H locs hI => ?_)
  rw [wP_0] at hI
  change tw_I D _ ad (wP w [1014, 1013, 1012, 1011, 1010, 1009, 1008, 1007, 1006, 1005, 1004, 1003, 1002, 1001] [.int 0, .ref 1001, .ref 1002, .ref 1003, .ref 1004, .ref 1005, .ref 1006, .ref 1007, .ref 1008, .ref 1009, .ref 1010, .ref 1011, .ref 1012, .ref 1013, .ref 1014, .int 0, .int 0, .int 0, .int 0, .int 0, .int 0, .null, .null, .null, .null, .int 0, .int 0]) s.heap H locs at hI
  refine lv_aload_n hx hb dX7_init_117 rfl (lv_at hl 0 rfl) ?_
  refine lv_iconst (v := (-1)) hx hb dX7_init_118 (by decide) ?_
  refine p7_54_7 S hK hI rfl (v := .int (-1)) rfl rfl rfl (Nat.le_of_ble_eq_true rfl) dX7_init_119 (fun H locs hI => ?_)
  rw [wP_0] at hI
  change tw_I D _ ad (wP w [1014, 1013, 1012, 1011, 1010, 1009, 1008, 1007, 1006, 1005, 1004, 1003, 1002, 1001] [.int 0, .ref 1001, .ref 1002, .ref 1003, .ref 1004, .ref 1005, .ref 1006, .ref 1007, .ref 1008, .ref 1009, .ref 1010, .ref 1011, .ref 1012, .ref 1013, .ref 1014, .int 0, .int 0, .int 0, .int 0, .int 0, .int (-1), .null, .null, .null, .null, .int 0, .int 0]) s.heap H locs at hI
  refine lv_aload_n hx hb dX7_init_122 rfl (lv_at hl 0 rfl) ?_
  refine lv_bipush (v := 9) hx hb dX7_init_123 (by decide) ?_
  refine tw_newI (atype := .int) (ty := .int) S hK hI rfl (tw_mem (by decide +kernel) rfl) (k := 0) rfl (fun _ h => h) (a0 := (9, .inl (fun _ => 0))) (N := 9) (fun _ _ => rfl) (by decide) (by decide) (by decide) (1021) (wP_no (by decide) (by decide)) (wP_cl (ms_cl (fs := [.int 0, .ref 1001, .ref 1002, .ref 1003, .ref 1004, .ref 1005, .ref 1006, .ref 1007, .ref 1008, .ref 1009, .ref 1010, .ref 1011, .ref 1012, .ref 1013, .ref 1014, .int 0, .int 0, .int 0, .int 0, .int 0, .int (-1), .null, .null, .null, .null, .int 0, .int 0]) (by decide)) (hcl 1021 (by decide))) (Nat.le_of_ble_eq_true rfl) (Nat.le_of_ble_eq_true rfl) dX7_init_125 (fun ad H had hI => ?_)
  refine W_stk (st' := [.ref (ad 1021), .ref (ad 1000)]) (by rw [had 1000 (by decide)]) ?_
  have hl : lv_has ls 1 [(0, .ref (ad 1000))] := by rw [had 1000 (by decide)]; exact hl
  have hh : ∀ t : Nat, t ≤ 1000 → ad t = _ := fun t h => (had t (by omega)).trans (hh t h)
  rw [wP_n (by decide) rfl] at hI
  refine F7_58_7 S hK hI rfl hnm (v := .ref 1021) rfl rfl rfl (Nat.le_of_ble_eq_true rfl) dX7_init_127 (fun H locs hI => ?_)
  rw [wP_0] at hI
  change tw_I D _ ad (wP w [1021, 1014, 1013, 1012, 1011, 1010, 1009, 1008, 1007, 1006, 1005, 1004, 1003, 1002, 1001] [.int 0, .ref 1001, .ref 1002, .ref 1003, .ref 1004, .ref 1005, .ref 1006, .ref 1007, .ref 1008, .ref 1009, .ref 1010, .ref 1011, .ref 1012, .ref 1013, .ref 1014, .int 0, .int 0, .int 0, .int 0, .int 0, .int (-1), .ref 1021, .null, .null, .null, .int 0, .int 0]) s.heap H locs at hI
  refine lv_aload_n hx hb dX7_init_130 rfl (lv_at hl 0 rfl) ?_
  refine lv_bipush (v := 9) hx hb dX7_init_131 (by decide) ?_
  refine tw_newI (atype := .int) (ty := .int) S hK hI rfl (tw_mem (by decide +kernel) rfl) (k := 0) rfl (fun _ h => h) (a0 := (9, .inl (fun _ => 0))) (N := 9) (fun _ _ => rfl) (by decide) (by decide) (by decide) (1022) (wP_no (by decide) (by decide)) (wP_cl (ms_cl (fs := [.int 0, .ref 1001, .ref 1002, .ref 1003, .ref 1004, .ref 1005, .ref 1006, .ref 1007, .ref 1008, .ref 1009, .ref 1010, .ref 1011, .ref 1012, .ref 1013, .ref 1014, .int 0, .int 0, .int 0, .int 0, .int 0, .int (-1), .ref 1021, .null, .null, .null, .int 0, .int 0]) (by decide)) (hcl 1022 (by decide))) (Nat.le_of_ble_eq_true rfl) (Nat.le_of_ble_eq_true rfl) dX7_init_133 (fun ad H had hI => ?_)
  refine W_stk (st' := [.ref (ad 1022), .ref (ad 1000)]) (by rw [had 1000 (by decide)]) ?_
  have hl : lv_has ls 1 [(0, .ref (ad 1000))] := by rw [had 1000 (by decide)]; exact hl
  have hh : ∀ t : Nat, t ≤ 1000 → ad t = _ := fun t h => (had t (by omega)).trans (hh t h)
  rw [wP_n (by decide) rfl] at hI
  refine F7_61_7 S hK hI rfl hnm (v := .ref 1022) rfl rfl rfl (Nat.le_of_ble_eq_true rfl) dX7_init_135 (fun H locs hI => ?_)
  rw [wP_0] at hI
  change tw_I D _ ad (wP w [1022, 1021, 1014, 1013, 1012, 1011, 1010, 1009, 1008, 1007, 1006, 1005, 1004, 1003, 1002, 1001] [.int 0, .ref 1001, .ref 1002, .ref 1003, .ref 1004, .ref 1005, .ref 1006, .ref 1007, .ref 1008, .ref 1009, .ref 1010, .ref 1011, .ref 1012, .ref 1013, .ref 1014, .int 0, .int 0, .int 0, .int 0, .int 0, .int (-1), .ref 1021, .ref 1022, .null, .null, .int 0, .int 0]) s.heap H locs at hI
  refine lv_aload_n hx hb dX7_init_138 rfl (lv_at hl 0 rfl) ?_
  refine lv_bipush (v := 9) hx hb dX7_init_139 (by decide) ?_
  refine tw_newI (atype := .int) (ty := .int) S hK hI rfl (tw_mem (by decide +kernel) rfl) (k := 0) rfl (fun _ h => h) (a0 := (9, .inl (fun _ => 0))) (N := 9) (fun _ _ => rfl) (by decide) (by decide) (by decide) (1023) (wP_no (by decide) (by decide)) (wP_cl (ms_cl (fs := [.int 0, .ref 1001, .ref 1002, .ref 1003, .ref 1004, .ref 1005, .ref 1006, .ref 1007, .ref 1008, .ref 1009, .ref 1010, .ref 1011, .ref 1012, .ref 1013, .ref 1014, .int 0, .int 0, .int 0, .int 0, .int 0, .int (-1), .ref 1021, .ref 1022, .null, .null, .int 0, .int 0]) (by decide)) (hcl 1023 (by decide))) (Nat.le_of_ble_eq_true rfl) (Nat.le_of_ble_eq_true rfl) dX7_init_141 (fun ad H had hI => ?_)
  refine W_stk (st' := [.ref (ad 1023), .ref (ad 1000)]) (by rw [had 1000 (by decide)]) ?_
  have hl : lv_has ls 1 [(0, .ref (ad 1000))] := by rw [had 1000 (by decide)]; exact hl
  have hh : ∀ t : Nat, t ≤ 1000 → ad t = _ := fun t h => (had t (by omega)).trans (hh t h)
  rw [wP_n (by decide) rfl] at hI
  refine F7_64_7 S hK hI rfl hnm (v := .ref 1023) rfl rfl rfl (Nat.le_of_ble_eq_true rfl) dX7_init_143 (fun H locs hI => ?_)
  rw [wP_0] at hI
  change tw_I D _ ad (wP w [1023, 1022, 1021, 1014, 1013, 1012, 1011, 1010, 1009, 1008, 1007, 1006, 1005, 1004, 1003, 1002, 1001] [.int 0, .ref 1001, .ref 1002, .ref 1003, .ref 1004, .ref 1005, .ref 1006, .ref 1007, .ref 1008, .ref 1009, .ref 1010, .ref 1011, .ref 1012, .ref 1013, .ref 1014, .int 0, .int 0, .int 0, .int 0, .int 0, .int (-1), .ref 1021, .ref 1022, .ref 1023, .null, .int 0, .int 0]) s.heap H locs at hI
  refine lv_aload_n hx hb dX7_init_146 rfl (lv_at hl 0 rfl) ?_
  refine lv_bipush (v := 9) hx hb dX7_init_147 (by decide) ?_
  refine tw_newI (atype := .int) (ty := .int) S hK hI rfl (tw_mem (by decide +kernel) rfl) (k := 0) rfl (fun _ h => h) (a0 := (9, .inl (fun _ => 0))) (N := 9) (fun _ _ => rfl) (by decide) (by decide) (by decide) (1024) (wP_no (by decide) (by decide)) (wP_cl (ms_cl (fs := [.int 0, .ref 1001, .ref 1002, .ref 1003, .ref 1004, .ref 1005, .ref 1006, .ref 1007, .ref 1008, .ref 1009, .ref 1010, .ref 1011, .ref 1012, .ref 1013, .ref 1014, .int 0, .int 0, .int 0, .int 0, .int 0, .int (-1), .ref 1021, .ref 1022, .ref 1023, .null, .int 0, .int 0]) (by decide)) (hcl 1024 (by decide))) (Nat.le_of_ble_eq_true rfl) (Nat.le_of_ble_eq_true rfl) dX7_init_149 (fun ad H had hI => ?_)
  refine W_stk (st' := [.ref (ad 1024), .ref (ad 1000)]) (by rw [had 1000 (by decide)]) ?_
  have hl : lv_has ls 1 [(0, .ref (ad 1000))] := by rw [had 1000 (by decide)]; exact hl
  have hh : ∀ t : Nat, t ≤ 1000 → ad t = _ := fun t h => (had t (by omega)).trans (hh t h)
  rw [wP_n (by decide) rfl] at hI
  refine F7_67_7 S hK hI rfl hnm (v := .ref 1024) rfl rfl rfl (Nat.le_of_ble_eq_true rfl) dX7_init_151 (fun H locs hI => ?_)
  rw [wP_0] at hI
  change tw_I D _ ad (wP w [1024, 1023, 1022, 1021, 1014, 1013, 1012, 1011, 1010, 1009, 1008, 1007, 1006, 1005, 1004, 1003, 1002, 1001] [.int 0, .ref 1001, .ref 1002, .ref 1003, .ref 1004, .ref 1005, .ref 1006, .ref 1007, .ref 1008, .ref 1009, .ref 1010, .ref 1011, .ref 1012, .ref 1013, .ref 1014, .int 0, .int 0, .int 0, .int 0, .int 0, .int (-1), .ref 1021, .ref 1022, .ref 1023, .ref 1024, .int 0, .int 0]) s.heap H locs at hI
  rw [wP_last (S := [1024, 1023, 1022, 1021, 1014, 1013, 1012, 1011, 1010, 1009, 1008, 1007, 1006, 1005, 1004, 1003, 1002, 1001]) (fs := [.int 0, .ref 1001, .ref 1002, .ref 1003, .ref 1004, .ref 1005, .ref 1006, .ref 1007, .ref 1008, .ref 1009, .ref 1010, .ref 1011, .ref 1012, .ref 1013, .ref 1014, .int 0, .int 0, .int 0, .int 0, .int 0, .int (-1), .ref 1021, .ref 1022, .ref 1023, .ref 1024, .int 0, .int 0]) rfl (by intro k hk; rcases hk with rfl | rfl | rfl | hk; decide; decide; decide; revert k; decide)] at hI
  exact W.vret S.1 S.2.1 hr (fun t ht _ => tw_retN (r := fun _ => none) hI (fun t ε h => hh t (Decidable.byContradiction (fun c => by rw [hn t (by omega)] at h; cases h))) ht) hI.2.2.1.2.2 dX7_init_154 hlocks
