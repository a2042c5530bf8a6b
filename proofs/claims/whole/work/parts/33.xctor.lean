/-! new cells: no reference to a tag, worlds written twice; the items' constructors, newItem -/
def tw_cl (t : Nat) (w : tw_W) : Prop := ∀ (t' : Nat) (e' : tw_T), w t' = some e' → tw_nr t e'
theorem cl_up {t u : Nat} {w : tw_W} {e : tw_T} (h : tw_cl t w) (he : tw_nr t e) : tw_cl t (va_up w u (some e)) := by
  intro t' e' h'
  by_cases c : t' = u
  · subst c
    rw [va_up_self] at h'
    cases h'
    exact he
  · rw [va_up_ne _ _ c] at h'
    exact h t' e' h'
theorem nr_i {t k n : Nat} {f : Nat → Int32} : tw_nr t (.inl (k, n, .inl f)) := fun _ _ _ => rfl
theorem nr_l {t k n : Nat} {f : Nat → Int64} : tw_nr t (.inl (k, n, .inr (.inl f))) := fun _ _ _ => rfl
theorem nr_q {t k n : Nat} {f : Nat → Option Nat} (h : ∀ j : Nat, f j ≠ some t) : tw_nr t (.inl (k, n, .inr (.inr (.inr (.inr f))))) := by
  intro D ad q
  have e : (fun j => (f j).map (va_up ad t q)) = fun j => (f j).map ad := by
    funext j
    cases hf : f j with
    | none => rfl
    | some u => exact congrArg some (va_up_ne _ _ (fun e => h j (by rw [hf, e])))
  exact congrArg (fun g => (Sum.inl (D.2 k, (n, Sum.inr (Sum.inr (Sum.inr (Sum.inr g))))) : va_E)) e
theorem nr_o {t k : Nat} {fs : List Value} (h : ∀ v : Value, v ∈ fs → v ≠ .ref t) : tw_nr t (.inr (k, fs)) := by
  intro D ad q
  show Sum.inr (k, fs.map (tw_v (va_up ad t q))) = Sum.inr (k, fs.map (tw_v ad))
  have e : fs.map (tw_v (va_up ad t q)) = fs.map (tw_v ad) := by
    refine List.map_congr_left (fun v hv => ?_)
    have := h v hv
    cases v with
    | ref u => exact congrArg Value.ref (va_up_ne _ _ (fun e => this (by rw [e])))
    | _ => rfl
  rw [e]
theorem up_up {α : Type} (w : Nat → α) (t : Nat) (a b : α) : va_up (va_up w t a) t b = va_up w t b := by
  funext u
  by_cases c : u = t
  · subst c; rw [va_up_self, va_up_self]
  · rw [va_up_ne _ _ c, va_up_ne _ _ c, va_up_ne _ _ c]
theorem up_3 {α : Type} (w : Nat → α) {t u : Nat} (h : u ≠ t) (a b x : α) : va_up (va_up (va_up w t a) u x) t b = va_up (va_up w u x) t b := by
  funext v
  by_cases c : v = t
  · subst c; rw [va_up_self, va_up_self]
  · rw [va_up_ne _ _ c, va_up_ne _ _ c]
    by_cases d : v = u
    · subst d; rw [va_up_self, va_up_self]
    · rw [va_up_ne _ _ d, va_up_ne _ _ d, va_up_ne _ _ c]
theorem W_stk {p : Program} {l : Launch} {e : Env} {R : Room} {s : State} {m : MethodId} {args : Array Value} {below : List Frame} {meth : Method} {c : Code} {H : Heap} {locs : List Loc} {cells slots : Nat} {Q : State → Prop} {pc : Nat} {ls : Array Slot} {st st' : List Value} (h : st = st') (k : W p l e R s m args below meth c H locs cells slots Q (F0 m pc ls st')) : W p l e R s m args below meth c H locs cells slots Q (F0 m pc ls st) := h ▸ k

set_option maxHeartbeats 2000000 in
set_option maxRecDepth 100000 in
theorem c_X1_init_2 (l : Launch) (D : tw_G) (ad : Nat → Nat) (w : tw_W) (sz : Nat) (τ : Nat) (a k : Int32) (v : Value) (he : w τ = some (.inr (1, [.int 0, .int 0, v]))) : Met l yX1_init (tw_w yX1_init cX1_init 3 none) (tw_R 1 0 0) (tw_Pc D ad w sz [.ref (ad τ), .int a, .int k]) (tw_Q D ad (va_up w τ (some (.inr (1, [.int a, .int k, v])))) (tw_A ad w sz) none) 0 0 (tw_A ad w sz) := by
  refine tw_met (by decide) rfl (by simp [lg_sl, Value.category]) (fun p e s m below meth c ls S hK hr hlocks hnm hsz hI hl => ?_)
  have hx := S.1
  have hb := S.2.1
  have hl : lv_has ls 3 [(0, .ref (ad τ)), (1, .int a), (2, .int k)] := hl
  refine lv_aload_n hx hb dX1_init_0 rfl (lv_at hl 0 rfl) ?_
  refine tw_obj S (tw_mem (by decide +kernel) rfl) (tw_mem (by decide +kernel) rfl) (tw_mem (by decide +kernel) rfl) hl.1 dX1_init_1 (Nat.le_of_ble_eq_true rfl) (Nat.le_of_ble_eq_true rfl) ?_
  refine lv_aload_n hx hb dX1_init_4 rfl (lv_at hl 0 rfl) ?_
  refine lv_iload_n hx hb dX1_init_5 rfl (lv_at hl 1 rfl) ?_
  refine F1_9_2 S hK hI he hnm (v := .int a) rfl rfl rfl (Nat.le_of_ble_eq_true rfl) dX1_init_6 (fun H locs hI => ?_)
  refine lv_aload_n hx hb dX1_init_9 rfl (lv_at hl 0 rfl) ?_
  refine lv_iload_n hx hb dX1_init_10 rfl (lv_at hl 2 rfl) ?_
  refine F1_15_2 S hK hI (va_up_self _ _ _) hnm (v := .int k) rfl rfl rfl (Nat.le_of_ble_eq_true rfl) dX1_init_11 (fun H locs hI => ?_)
  rw [up_up] at hI
  exact tw_vret S hr hlocks hI dX1_init_14

set_option maxHeartbeats 2000000 in
set_option maxRecDepth 100000 in
theorem c_X1_init_3 (l : Launch) (D : tw_G) (ad : Nat → Nat) (w : tw_W) (sz : Nat) (τ : Nat) (a k : Int32) (v : Value) (he : w τ = some (.inr (2, [.int 0, .int 0, v]))) : Met l yX1_init (tw_w yX1_init cX1_init 3 none) (tw_R 1 0 0) (tw_Pc D ad w sz [.ref (ad τ), .int a, .int k]) (tw_Q D ad (va_up w τ (some (.inr (2, [.int a, .int k, v])))) (tw_A ad w sz) none) 0 0 (tw_A ad w sz) := by
  refine tw_met (by decide) rfl (by simp [lg_sl, Value.category]) (fun p e s m below meth c ls S hK hr hlocks hnm hsz hI hl => ?_)
  have hx := S.1
  have hb := S.2.1
  have hl : lv_has ls 3 [(0, .ref (ad τ)), (1, .int a), (2, .int k)] := hl
  refine lv_aload_n hx hb dX1_init_0 rfl (lv_at hl 0 rfl) ?_
  refine tw_obj S (tw_mem (by decide +kernel) rfl) (tw_mem (by decide +kernel) rfl) (tw_mem (by decide +kernel) rfl) hl.1 dX1_init_1 (Nat.le_of_ble_eq_true rfl) (Nat.le_of_ble_eq_true rfl) ?_
  refine lv_aload_n hx hb dX1_init_4 rfl (lv_at hl 0 rfl) ?_
  refine lv_iload_n hx hb dX1_init_5 rfl (lv_at hl 1 rfl) ?_
  refine F1_9_3 S hK hI he hnm (v := .int a) rfl rfl rfl (Nat.le_of_ble_eq_true rfl) dX1_init_6 (fun H locs hI => ?_)
  refine lv_aload_n hx hb dX1_init_9 rfl (lv_at hl 0 rfl) ?_
  refine lv_iload_n hx hb dX1_init_10 rfl (lv_at hl 2 rfl) ?_
  refine F1_15_3 S hK hI (va_up_self _ _ _) hnm (v := .int k) rfl rfl rfl (Nat.le_of_ble_eq_true rfl) dX1_init_11 (fun H locs hI => ?_)
  rw [up_up] at hI
  exact tw_vret S hr hlocks hI dX1_init_14

set_option maxHeartbeats 2000000 in
set_option maxRecDepth 100000 in
theorem c_X1_init_5 (l : Launch) (D : tw_G) (ad : Nat → Nat) (w : tw_W) (sz : Nat) (τ : Nat) (a k : Int32) (v : Value) (he : w τ = some (.inr (4, [.int 0, .int 0, v]))) : Met l yX1_init (tw_w yX1_init cX1_init 3 none) (tw_R 1 0 0) (tw_Pc D ad w sz [.ref (ad τ), .int a, .int k]) (tw_Q D ad (va_up w τ (some (.inr (4, [.int a, .int k, v])))) (tw_A ad w sz) none) 0 0 (tw_A ad w sz) := by
  refine tw_met (by decide) rfl (by simp [lg_sl, Value.category]) (fun p e s m below meth c ls S hK hr hlocks hnm hsz hI hl => ?_)
  have hx := S.1
  have hb := S.2.1
  have hl : lv_has ls 3 [(0, .ref (ad τ)), (1, .int a), (2, .int k)] := hl
  refine lv_aload_n hx hb dX1_init_0 rfl (lv_at hl 0 rfl) ?_
  refine tw_obj S (tw_mem (by decide +kernel) rfl) (tw_mem (by decide +kernel) rfl) (tw_mem (by decide +kernel) rfl) hl.1 dX1_init_1 (Nat.le_of_ble_eq_true rfl) (Nat.le_of_ble_eq_true rfl) ?_
  refine lv_aload_n hx hb dX1_init_4 rfl (lv_at hl 0 rfl) ?_
  refine lv_iload_n hx hb dX1_init_5 rfl (lv_at hl 1 rfl) ?_
  refine F1_9_5 S hK hI he hnm (v := .int a) rfl rfl rfl (Nat.le_of_ble_eq_true rfl) dX1_init_6 (fun H locs hI => ?_)
  refine lv_aload_n hx hb dX1_init_9 rfl (lv_at hl 0 rfl) ?_
  refine lv_iload_n hx hb dX1_init_10 rfl (lv_at hl 2 rfl) ?_
  refine F1_15_5 S hK hI (va_up_self _ _ _) hnm (v := .int k) rfl rfl rfl (Nat.le_of_ble_eq_true rfl) dX1_init_11 (fun H locs hI => ?_)
  rw [up_up] at hI
  exact tw_vret S hr hlocks hI dX1_init_14

set_option maxHeartbeats 2000000 in
set_option maxRecDepth 100000 in
theorem c_X3_init (l : Launch) (D : tw_G) (ad : Nat → Nat) (w : tw_W) (sz : Nat) (τ : Nat) (a k : Int32) (he : w τ = some (.inr (2, [.int 0, .int 0, .int 0]))) : Met l yX3_init (tw_w yX3_init cX3_init 3 none) (tw_R 2 0 0) (tw_Pc D ad w sz [.ref (ad τ), .int a, .int k]) (tw_Q D ad (va_up w τ (some (.inr (2, [.int a, .int k, .int 0])))) (tw_A ad w sz) none) 0 0 (tw_A ad w sz) := by
  refine tw_met (by decide) rfl (by simp [lg_sl, Value.category]) (fun p e s m below meth c ls S hK hr hlocks hnm hsz hI hl => ?_)
  have hx := S.1
  have hb := S.2.1
  have hl : lv_has ls 3 [(0, .ref (ad τ)), (1, .int a), (2, .int k)] := hl
  refine lv_aload_n hx hb dX3_init_0 rfl (lv_at hl 0 rfl) ?_
  refine lv_iload_n hx hb dX3_init_1 rfl (lv_at hl 1 rfl) ?_
  refine lv_iload_n hx hb dX3_init_2 rfl (lv_at hl 2 rfl) ?_
  refine tw_callv (tw_rI (As := [.int a, .int k]) (rest := []) S hK hI kX3_3 (c_X1_init_3 l D ad _ _ _ _ _ _ he) ⟨Nat.le_of_ble_eq_true rfl, Nat.le_of_ble_eq_true rfl⟩ ⟨Nat.le_of_ble_eq_true rfl, Nat.le_of_ble_eq_true rfl⟩ rfl hl.1 rfl (Nat.le_of_ble_eq_true rfl) dX3_init_3) hI (fun H locs hI => ?_)
  refine lv_aload_n hx hb dX3_init_6 rfl (lv_at hl 0 rfl) ?_
  refine lv_iconst (v := 0) hx hb dX3_init_7 (by decide) ?_
  refine p3_9_3 S hK hI (va_up_self _ _ _) (v := .int 0) rfl rfl rfl (Nat.le_of_ble_eq_true rfl) dX3_init_8 (fun H locs hI => ?_)
  rw [up_up] at hI
  exact tw_vret S hr hlocks hI dX3_init_11

set_option maxHeartbeats 2000000 in
set_option maxRecDepth 100000 in
theorem c_X2_init (l : Launch) (D : tw_G) (ad : Nat → Nat) (w : tw_W) (sz : Nat) (τ u z : Nat) (a k : Int32) (hz : z ≤ 3) (he : w τ = some (.inr (1, [.int 0, .int 0, .null]))) (hun : w u = none) (hne : u ≠ τ) (hcl : tw_cl u w) : Met l yX2_init (tw_w yX2_init cX2_init 4 none) (tw_R 2 1 3) (tw_Pc D ad w sz [.ref (ad τ), .int a, .int k, .int (nI z)]) (tw_Qn D ad w (va_up (va_up w u (some (.inl (1, z, .inr (.inl (fun _ => 0)))))) τ (some (.inr (1, [.int a, .int k, .ref u])))) (tw_A ad w sz) (fun _ => none)) 1 3 (tw_A ad w sz) := by
  refine tw_met (by decide) rfl (by simp [lg_sl, Value.category]) (fun p e s m below meth c ls S hK hr hlocks hnm hsz hI hl => ?_)
  have hx := S.1
  have hb := S.2.1
  have hl : lv_has ls 4 [(0, .ref (ad τ)), (1, .int a), (2, .int k), (3, .int (nI z))] := hl
  refine lv_aload_n hx hb dX2_init_0 rfl (lv_at hl 0 rfl) ?_
  refine lv_iload_n hx hb dX2_init_1 rfl (lv_at hl 1 rfl) ?_
  refine lv_iload_n hx hb dX2_init_2 rfl (lv_at hl 2 rfl) ?_
  refine tw_callv (tw_rI (As := [.int a, .int k]) (rest := []) S hK hI kX2_3 (c_X1_init_2 l D ad _ _ _ _ _ _ he) ⟨Nat.le_of_ble_eq_true rfl, Nat.le_of_ble_eq_true rfl⟩ ⟨Nat.le_of_ble_eq_true rfl, Nat.le_of_ble_eq_true rfl⟩ rfl hl.1 rfl (Nat.le_of_ble_eq_true rfl) dX2_init_3) hI (fun H locs hI => ?_)
  refine lv_aload_n hx hb dX2_init_6 rfl (lv_at hl 0 rfl) ?_
  refine lv_iload_n hx hb dX2_init_7 rfl (lv_at hl 3 rfl) ?_
  refine tw_newI (atype := .long) (ty := .long) S hK hI rfl (tw_mem (by decide +kernel) rfl) (k := 1) rfl (fun _ h => h) (a0 := (z, .inr (.inl (fun _ => 0)))) (N := z) (fun _ _ => rfl) (nI_pos (by omega)) (nI_clamp (by omega)) (by show z * 8 ≤ _; omega) (u) (by rw [va_up_ne _ _ hne]; exact hun) (cl_up hcl (nr_o (by intro v hv; simp only [List.mem_cons, List.not_mem_nil, or_false] at hv; rcases hv with rfl | rfl | rfl <;> intro e <;> cases e))) ((Nat.le_of_ble_eq_true rfl)) (show 0 + 0 + z ≤ 3 by omega) dX2_init_8 (fun ad H had hI => ?_)
  refine W_stk (st' := [.ref (ad u), .ref (ad τ)]) (by rw [had τ (Ne.symm hne)]) ?_
  have hl : lv_has ls 4 [(0, .ref (ad τ)), (1, .int a), (2, .int k), (3, .int (nI z))] := by rw [had τ (Ne.symm hne)]; exact hl
  refine F2_9_2 S hK hI ((va_up_ne _ _ (Ne.symm hne)).trans (va_up_self _ _ _)) hnm (v := .ref u) rfl rfl rfl (Nat.le_of_ble_eq_true rfl) dX2_init_10 (fun H locs hI => ?_)
  rw [up_3 _ hne] at hI
  refine W.widen (k := 1) (n := 3) (Nat.le_of_ble_eq_true rfl) (by show 0 + 0 + z ≤ 3; omega) ?_
  exact W.vret S.1 S.2.1 hr (fun t ht _ => tw_retN (r := fun _ => none) hI (fun t ε h => had t (fun e => by subst e; rw [hun] at h; cases h)) ht) hI.2.2.1.2.2 dX2_init_13 hlocks

set_option maxHeartbeats 2000000 in
set_option maxRecDepth 100000 in
theorem c_X5_init (l : Launch) (D : tw_G) (ad : Nat → Nat) (w : tw_W) (sz : Nat) (τ u z : Nat) (a k : Int32) (hz : z ≤ 3) (he : w τ = some (.inr (4, [.int 0, .int 0, .null]))) (hun : w u = none) (hne : u ≠ τ) (hcl : tw_cl u w) : Met l yX5_init (tw_w yX5_init cX5_init 4 none) (tw_R 2 1 3) (tw_Pc D ad w sz [.ref (ad τ), .int a, .int k, .int (nI z)]) (tw_Qn D ad w (va_up (va_up w u (some (.inl (4, z, .inr (.inr (.inr (.inr (fun _ => none)))))))) τ (some (.inr (4, [.int a, .int k, .ref u])))) (tw_A ad w sz) (fun _ => none)) 1 3 (tw_A ad w sz) := by
  refine tw_met (by decide) rfl (by simp [lg_sl, Value.category]) (fun p e s m below meth c ls S hK hr hlocks hnm hsz hI hl => ?_)
  have hx := S.1
  have hb := S.2.1
  have hl : lv_has ls 4 [(0, .ref (ad τ)), (1, .int a), (2, .int k), (3, .int (nI z))] := hl
  refine lv_aload_n hx hb dX5_init_0 rfl (lv_at hl 0 rfl) ?_
  refine lv_iload_n hx hb dX5_init_1 rfl (lv_at hl 1 rfl) ?_
  refine lv_iload_n hx hb dX5_init_2 rfl (lv_at hl 2 rfl) ?_
  refine tw_callv (tw_rI (As := [.int a, .int k]) (rest := []) S hK hI kX5_3 (c_X1_init_5 l D ad _ _ _ _ _ _ he) ⟨Nat.le_of_ble_eq_true rfl, Nat.le_of_ble_eq_true rfl⟩ ⟨Nat.le_of_ble_eq_true rfl, Nat.le_of_ble_eq_true rfl⟩ rfl hl.1 rfl (Nat.le_of_ble_eq_true rfl) dX5_init_3) hI (fun H locs hI => ?_)
  refine lv_aload_n hx hb dX5_init_6 rfl (lv_at hl 0 rfl) ?_
  refine lv_iload_n hx hb dX5_init_7 rfl (lv_at hl 3 rfl) ?_
  refine tw_newQ S hK hI (tw_mem (by decide +kernel) rfl) (tw_memN (by decide +kernel) rfl) (k := 4) rfl (N := z) (nI_pos (by omega)) (nI_clamp (by omega)) (by omega) (u) (by rw [va_up_ne _ _ hne]; exact hun) (cl_up hcl (nr_o (by intro v hv; simp only [List.mem_cons, List.not_mem_nil, or_false] at hv; rcases hv with rfl | rfl | rfl <;> intro e <;> cases e))) ((Nat.le_of_ble_eq_true rfl)) (show 0 + 0 + z ≤ 3 by omega) dX5_init_8 (fun ad H had hI => ?_)
  refine W_stk (st' := [.ref (ad u), .ref (ad τ)]) (by rw [had τ (Ne.symm hne)]) ?_
  have hl : lv_has ls 4 [(0, .ref (ad τ)), (1, .int a), (2, .int k), (3, .int (nI z))] := by rw [had τ (Ne.symm hne)]; exact hl
  refine F5_9_5 S hK hI ((va_up_ne _ _ (Ne.symm hne)).trans (va_up_self _ _ _)) hnm (v := .ref u) rfl rfl rfl (Nat.le_of_ble_eq_true rfl) dX5_init_11 (fun H locs hI => ?_)
  rw [up_3 _ hne] at hI
  refine W.widen (k := 1) (n := 3) (Nat.le_of_ble_eq_true rfl) (by show 0 + 0 + z ≤ 3; omega) ?_
  exact W.vret S.1 S.2.1 hr (fun t ht _ => tw_retN (r := fun _ => none) hI (fun t ε h => had t (fun e => by subst e; rw [hun] at h; cases h)) ht) hI.2.2.1.2.2 dX5_init_14 hlocks
