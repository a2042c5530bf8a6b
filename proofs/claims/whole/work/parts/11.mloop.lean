/-! the reference: rows by number, make, turn, stampLow -/
theorem nA {a b c : Nat} (h : a + b = c) : nI a + nI b = nI c := by rw [nI_add, h]
theorem nM {a b c : Nat} (h : a * b = c) : nI a * nI b = nI c := by rw [pk_mul, h]
theorem nB {a b c : Nat} (h : b ≤ a) (h2 : a - b = c) : nI a - nI b = nI c := by rw [pk_sub h, h2]
section ROWS3
variable {p : Program} {l : Launch} {e : Env} {R : Room} {s : State} {m : MethodId} {args : Array Value} {below : List Frame} {meth : Method} {c : Code} {H : Heap} {locs : List Loc} {cells slots : Nat} {Z : State → Prop}
variable {cc : ByteArray} {pc nL : Nat} {ls : Array Slot} {rest st0 : List Value} {D : tw_G} {A : Nat → Prop} {ad : Nat → Nat} {b : tw_W} {σ : Sg}
theorem lv_eqi {x v : Int32} (h : x = v) (k : W p l e R s m args below meth c H locs cells slots Z (F0 m pc ls (.int v :: rest))) : W p l e R s m args below meth c H locs cells slots Z (F0 m pc ls (.int x :: rest)) := by subst h; exact k
theorem lv_eql {x v : Int64} (h : x = v) (k : W p l e R s m args below meth c H locs cells slots Z (F0 m pc ls (.long v :: rest))) : W p l e R s m args below meth c H locs cells slots Z (F0 m pc ls (.long x :: rest)) := by subst h; exact k
theorem ln_1 {j : Nat} (S : CallFix p m c cc nL s args tw_ws RX7) (hK : tw_K D s) (hI : tw_I D A ad (wM b σ) s.heap H locs) (hj : j < 60) (hdg : decode cc pc = .ok (.iaload, 1)) (kk : W p l e R s m args below meth c H locs cells slots Z (F0 m (pc + 1) ls (.int (σ.1 1 j) :: rest))) : W p l e R s m args below meth c H locs cells slots Z (F0 m pc ls (.int (nI j) :: .ref (ad 1001) :: rest)) := lm_1 S hK hI (vp_in_nI hj (by decide)) hdg (by rw [show ix (nI j) = j from nI_clamp (by omega)]; exact kk)
theorem sn_1 {j : Nat} {v : Int32} (S : CallFix p m c cc nL s args tw_ws RX7) (hK : tw_K D s) (hI : tw_I D A ad (wM b σ) s.heap H locs) (hj : j < 60) (hdg : decode cc pc = .ok (.iastore, 1)) (kk : ∀ (H1 : Heap) (locs1 : List Loc), tw_I D A ad (wM b (sI σ 1 j v)) s.heap H1 locs1 → W p l e R s m args below meth c H1 locs1 cells slots Z (F0 m (pc + 1) ls rest)) : W p l e R s m args below meth c H locs cells slots Z (F0 m pc ls (.int v :: .int (nI j) :: .ref (ad 1001) :: rest)) := sm_1 S hK hI (vp_in_nI hj (by decide)) hdg (fun H1 locs1 h1 => kk H1 locs1 (by rw [show ix (nI j) = j from nI_clamp (by omega)] at h1; exact h1))
theorem ln_2 {j : Nat} (S : CallFix p m c cc nL s args tw_ws RX7) (hK : tw_K D s) (hI : tw_I D A ad (wM b σ) s.heap H locs) (hj : j < 60) (hdg : decode cc pc = .ok (.iaload, 1)) (kk : W p l e R s m args below meth c H locs cells slots Z (F0 m (pc + 1) ls (.int (σ.1 2 j) :: rest))) : W p l e R s m args below meth c H locs cells slots Z (F0 m pc ls (.int (nI j) :: .ref (ad 1002) :: rest)) := lm_2 S hK hI (vp_in_nI hj (by decide)) hdg (by rw [show ix (nI j) = j from nI_clamp (by omega)]; exact kk)
theorem sn_2 {j : Nat} {v : Int32} (S : CallFix p m c cc nL s args tw_ws RX7) (hK : tw_K D s) (hI : tw_I D A ad (wM b σ) s.heap H locs) (hj : j < 60) (hdg : decode cc pc = .ok (.iastore, 1)) (kk : ∀ (H1 : Heap) (locs1 : List Loc), tw_I D A ad (wM b (sI σ 2 j v)) s.heap H1 locs1 → W p l e R s m args below meth c H1 locs1 cells slots Z (F0 m (pc + 1) ls rest)) : W p l e R s m args below meth c H locs cells slots Z (F0 m pc ls (.int v :: .int (nI j) :: .ref (ad 1002) :: rest)) := sm_2 S hK hI (vp_in_nI hj (by decide)) hdg (fun H1 locs1 h1 => kk H1 locs1 (by rw [show ix (nI j) = j from nI_clamp (by omega)] at h1; exact h1))
theorem ln_3 {j : Nat} (S : CallFix p m c cc nL s args tw_ws RX7) (hK : tw_K D s) (hI : tw_I D A ad (wM b σ) s.heap H locs) (hj : j < 60) (hdg : decode cc pc = .ok (.iaload, 1)) (kk : W p l e R s m args below meth c H locs cells slots Z (F0 m (pc + 1) ls (.int (σ.1 3 j) :: rest))) : W p l e R s m args below meth c H locs cells slots Z (F0 m pc ls (.int (nI j) :: .ref (ad 1003) :: rest)) := lm_3 S hK hI (vp_in_nI hj (by decide)) hdg (by rw [show ix (nI j) = j from nI_clamp (by omega)]; exact kk)
theorem sn_3 {j : Nat} {v : Int32} (S : CallFix p m c cc nL s args tw_ws RX7) (hK : tw_K D s) (hI : tw_I D A ad (wM b σ) s.heap H locs) (hj : j < 60) (hdg : decode cc pc = .ok (.iastore, 1)) (kk : ∀ (H1 : Heap) (locs1 : List Loc), tw_I D A ad (wM b (sI σ 3 j v)) s.heap H1 locs1 → W p l e R s m args below meth c H1 locs1 cells slots Z (F0 m (pc + 1) ls rest)) : W p l e R s m args below meth c H locs cells slots Z (F0 m pc ls (.int v :: .int (nI j) :: .ref (ad 1003) :: rest)) := sm_3 S hK hI (vp_in_nI hj (by decide)) hdg (fun H1 locs1 h1 => kk H1 locs1 (by rw [show ix (nI j) = j from nI_clamp (by omega)] at h1; exact h1))
theorem ln_5 {j : Nat} (S : CallFix p m c cc nL s args tw_ws RX7) (hK : tw_K D s) (hI : tw_I D A ad (wM b σ) s.heap H locs) (hj : j < 8) (hdg : decode cc pc = .ok (.iaload, 1)) (kk : W p l e R s m args below meth c H locs cells slots Z (F0 m (pc + 1) ls (.int (σ.1 5 j) :: rest))) : W p l e R s m args below meth c H locs cells slots Z (F0 m pc ls (.int (nI j) :: .ref (ad 1005) :: rest)) := lm_5 S hK hI (vp_in_nI hj (by decide)) hdg (by rw [show ix (nI j) = j from nI_clamp (by omega)]; exact kk)
theorem sn_5 {j : Nat} {v : Int32} (S : CallFix p m c cc nL s args tw_ws RX7) (hK : tw_K D s) (hI : tw_I D A ad (wM b σ) s.heap H locs) (hj : j < 8) (hdg : decode cc pc = .ok (.iastore, 1)) (kk : ∀ (H1 : Heap) (locs1 : List Loc), tw_I D A ad (wM b (sI σ 5 j v)) s.heap H1 locs1 → W p l e R s m args below meth c H1 locs1 cells slots Z (F0 m (pc + 1) ls rest)) : W p l e R s m args below meth c H locs cells slots Z (F0 m pc ls (.int v :: .int (nI j) :: .ref (ad 1005) :: rest)) := sm_5 S hK hI (vp_in_nI hj (by decide)) hdg (fun H1 locs1 h1 => kk H1 locs1 (by rw [show ix (nI j) = j from nI_clamp (by omega)] at h1; exact h1))
theorem ln_6 {j : Nat} (S : CallFix p m c cc nL s args tw_ws RX7) (hK : tw_K D s) (hI : tw_I D A ad (wM b σ) s.heap H locs) (hj : j < 32) (hdg : decode cc pc = .ok (.iaload, 1)) (kk : W p l e R s m args below meth c H locs cells slots Z (F0 m (pc + 1) ls (.int (σ.1 6 j) :: rest))) : W p l e R s m args below meth c H locs cells slots Z (F0 m pc ls (.int (nI j) :: .ref (ad 1006) :: rest)) := lm_6 S hK hI (vp_in_nI hj (by decide)) hdg (by rw [show ix (nI j) = j from nI_clamp (by omega)]; exact kk)
theorem sn_6 {j : Nat} {v : Int32} (S : CallFix p m c cc nL s args tw_ws RX7) (hK : tw_K D s) (hI : tw_I D A ad (wM b σ) s.heap H locs) (hj : j < 32) (hdg : decode cc pc = .ok (.iastore, 1)) (kk : ∀ (H1 : Heap) (locs1 : List Loc), tw_I D A ad (wM b (sI σ 6 j v)) s.heap H1 locs1 → W p l e R s m args below meth c H1 locs1 cells slots Z (F0 m (pc + 1) ls rest)) : W p l e R s m args below meth c H locs cells slots Z (F0 m pc ls (.int v :: .int (nI j) :: .ref (ad 1006) :: rest)) := sm_6 S hK hI (vp_in_nI hj (by decide)) hdg (fun H1 locs1 h1 => kk H1 locs1 (by rw [show ix (nI j) = j from nI_clamp (by omega)] at h1; exact h1))
theorem ln_7 {j : Nat} (S : CallFix p m c cc nL s args tw_ws RX7) (hK : tw_K D s) (hI : tw_I D A ad (wM b σ) s.heap H locs) (hj : j < 32) (hdg : decode cc pc = .ok (.iaload, 1)) (kk : W p l e R s m args below meth c H locs cells slots Z (F0 m (pc + 1) ls (.int (σ.1 7 j) :: rest))) : W p l e R s m args below meth c H locs cells slots Z (F0 m pc ls (.int (nI j) :: .ref (ad 1007) :: rest)) := lm_7 S hK hI (vp_in_nI hj (by decide)) hdg (by rw [show ix (nI j) = j from nI_clamp (by omega)]; exact kk)
theorem sn_7 {j : Nat} {v : Int32} (S : CallFix p m c cc nL s args tw_ws RX7) (hK : tw_K D s) (hI : tw_I D A ad (wM b σ) s.heap H locs) (hj : j < 32) (hdg : decode cc pc = .ok (.iastore, 1)) (kk : ∀ (H1 : Heap) (locs1 : List Loc), tw_I D A ad (wM b (sI σ 7 j v)) s.heap H1 locs1 → W p l e R s m args below meth c H1 locs1 cells slots Z (F0 m (pc + 1) ls rest)) : W p l e R s m args below meth c H locs cells slots Z (F0 m pc ls (.int v :: .int (nI j) :: .ref (ad 1007) :: rest)) := sm_7 S hK hI (vp_in_nI hj (by decide)) hdg (fun H1 locs1 h1 => kk H1 locs1 (by rw [show ix (nI j) = j from nI_clamp (by omega)] at h1; exact h1))
theorem ln_9 {j : Nat} (S : CallFix p m c cc nL s args tw_ws RX7) (hK : tw_K D s) (hI : tw_I D A ad (wM b σ) s.heap H locs) (hj : j < 32) (hdg : decode cc pc = .ok (.iaload, 1)) (kk : W p l e R s m args below meth c H locs cells slots Z (F0 m (pc + 1) ls (.int (σ.1 9 j) :: rest))) : W p l e R s m args below meth c H locs cells slots Z (F0 m pc ls (.int (nI j) :: .ref (ad 1009) :: rest)) := lm_9 S hK hI (vp_in_nI hj (by decide)) hdg (by rw [show ix (nI j) = j from nI_clamp (by omega)]; exact kk)
theorem sn_9 {j : Nat} {v : Int32} (S : CallFix p m c cc nL s args tw_ws RX7) (hK : tw_K D s) (hI : tw_I D A ad (wM b σ) s.heap H locs) (hj : j < 32) (hdg : decode cc pc = .ok (.iastore, 1)) (kk : ∀ (H1 : Heap) (locs1 : List Loc), tw_I D A ad (wM b (sI σ 9 j v)) s.heap H1 locs1 → W p l e R s m args below meth c H1 locs1 cells slots Z (F0 m (pc + 1) ls rest)) : W p l e R s m args below meth c H locs cells slots Z (F0 m pc ls (.int v :: .int (nI j) :: .ref (ad 1009) :: rest)) := sm_9 S hK hI (vp_in_nI hj (by decide)) hdg (fun H1 locs1 h1 => kk H1 locs1 (by rw [show ix (nI j) = j from nI_clamp (by omega)] at h1; exact h1))
theorem ln_10 {j : Nat} (S : CallFix p m c cc nL s args tw_ws RX7) (hK : tw_K D s) (hI : tw_I D A ad (wM b σ) s.heap H locs) (hj : j < 32) (hdg : decode cc pc = .ok (.iaload, 1)) (kk : W p l e R s m args below meth c H locs cells slots Z (F0 m (pc + 1) ls (.int (σ.1 10 j) :: rest))) : W p l e R s m args below meth c H locs cells slots Z (F0 m pc ls (.int (nI j) :: .ref (ad 1010) :: rest)) := lm_10 S hK hI (vp_in_nI hj (by decide)) hdg (by rw [show ix (nI j) = j from nI_clamp (by omega)]; exact kk)
theorem sn_10 {j : Nat} {v : Int32} (S : CallFix p m c cc nL s args tw_ws RX7) (hK : tw_K D s) (hI : tw_I D A ad (wM b σ) s.heap H locs) (hj : j < 32) (hdg : decode cc pc = .ok (.iastore, 1)) (kk : ∀ (H1 : Heap) (locs1 : List Loc), tw_I D A ad (wM b (sI σ 10 j v)) s.heap H1 locs1 → W p l e R s m args below meth c H1 locs1 cells slots Z (F0 m (pc + 1) ls rest)) : W p l e R s m args below meth c H locs cells slots Z (F0 m pc ls (.int v :: .int (nI j) :: .ref (ad 1010) :: rest)) := sm_10 S hK hI (vp_in_nI hj (by decide)) hdg (fun H1 locs1 h1 => kk H1 locs1 (by rw [show ix (nI j) = j from nI_clamp (by omega)] at h1; exact h1))
theorem ln_11 {j : Nat} (S : CallFix p m c cc nL s args tw_ws RX7) (hK : tw_K D s) (hI : tw_I D A ad (wM b σ) s.heap H locs) (hj : j < 32) (hdg : decode cc pc = .ok (.iaload, 1)) (kk : W p l e R s m args below meth c H locs cells slots Z (F0 m (pc + 1) ls (.int (σ.1 11 j) :: rest))) : W p l e R s m args below meth c H locs cells slots Z (F0 m pc ls (.int (nI j) :: .ref (ad 1011) :: rest)) := lm_11 S hK hI (vp_in_nI hj (by decide)) hdg (by rw [show ix (nI j) = j from nI_clamp (by omega)]; exact kk)
theorem sn_11 {j : Nat} {v : Int32} (S : CallFix p m c cc nL s args tw_ws RX7) (hK : tw_K D s) (hI : tw_I D A ad (wM b σ) s.heap H locs) (hj : j < 32) (hdg : decode cc pc = .ok (.iastore, 1)) (kk : ∀ (H1 : Heap) (locs1 : List Loc), tw_I D A ad (wM b (sI σ 11 j v)) s.heap H1 locs1 → W p l e R s m args below meth c H1 locs1 cells slots Z (F0 m (pc + 1) ls rest)) : W p l e R s m args below meth c H locs cells slots Z (F0 m pc ls (.int v :: .int (nI j) :: .ref (ad 1011) :: rest)) := sm_11 S hK hI (vp_in_nI hj (by decide)) hdg (fun H1 locs1 h1 => kk H1 locs1 (by rw [show ix (nI j) = j from nI_clamp (by omega)] at h1; exact h1))
theorem ln_12 {j : Nat} (S : CallFix p m c cc nL s args tw_ws RX7) (hK : tw_K D s) (hI : tw_I D A ad (wM b σ) s.heap H locs) (hj : j < 32) (hdg : decode cc pc = .ok (.iaload, 1)) (kk : W p l e R s m args below meth c H locs cells slots Z (F0 m (pc + 1) ls (.int (σ.1 12 j) :: rest))) : W p l e R s m args below meth c H locs cells slots Z (F0 m pc ls (.int (nI j) :: .ref (ad 1012) :: rest)) := lm_12 S hK hI (vp_in_nI hj (by decide)) hdg (by rw [show ix (nI j) = j from nI_clamp (by omega)]; exact kk)
theorem sn_12 {j : Nat} {v : Int32} (S : CallFix p m c cc nL s args tw_ws RX7) (hK : tw_K D s) (hI : tw_I D A ad (wM b σ) s.heap H locs) (hj : j < 32) (hdg : decode cc pc = .ok (.iastore, 1)) (kk : ∀ (H1 : Heap) (locs1 : List Loc), tw_I D A ad (wM b (sI σ 12 j v)) s.heap H1 locs1 → W p l e R s m args below meth c H1 locs1 cells slots Z (F0 m (pc + 1) ls rest)) : W p l e R s m args below meth c H locs cells slots Z (F0 m pc ls (.int v :: .int (nI j) :: .ref (ad 1012) :: rest)) := sm_12 S hK hI (vp_in_nI hj (by decide)) hdg (fun H1 locs1 h1 => kk H1 locs1 (by rw [show ix (nI j) = j from nI_clamp (by omega)] at h1; exact h1))
theorem ln_13 {j : Nat} (S : CallFix p m c cc nL s args tw_ws RX7) (hK : tw_K D s) (hI : tw_I D A ad (wM b σ) s.heap H locs) (hj : j < 32) (hdg : decode cc pc = .ok (.iaload, 1)) (kk : W p l e R s m args below meth c H locs cells slots Z (F0 m (pc + 1) ls (.int (σ.1 13 j) :: rest))) : W p l e R s m args below meth c H locs cells slots Z (F0 m pc ls (.int (nI j) :: .ref (ad 1013) :: rest)) := lm_13 S hK hI (vp_in_nI hj (by decide)) hdg (by rw [show ix (nI j) = j from nI_clamp (by omega)]; exact kk)
theorem sn_13 {j : Nat} {v : Int32} (S : CallFix p m c cc nL s args tw_ws RX7) (hK : tw_K D s) (hI : tw_I D A ad (wM b σ) s.heap H locs) (hj : j < 32) (hdg : decode cc pc = .ok (.iastore, 1)) (kk : ∀ (H1 : Heap) (locs1 : List Loc), tw_I D A ad (wM b (sI σ 13 j v)) s.heap H1 locs1 → W p l e R s m args below meth c H1 locs1 cells slots Z (F0 m (pc + 1) ls rest)) : W p l e R s m args below meth c H locs cells slots Z (F0 m pc ls (.int v :: .int (nI j) :: .ref (ad 1013) :: rest)) := sm_13 S hK hI (vp_in_nI hj (by decide)) hdg (fun H1 locs1 h1 => kk H1 locs1 (by rw [show ix (nI j) = j from nI_clamp (by omega)] at h1; exact h1))
theorem ln_21 {j : Nat} (S : CallFix p m c cc nL s args tw_ws RX7) (hK : tw_K D s) (hI : tw_I D A ad (wM b σ) s.heap H locs) (hj : j < 9) (hdg : decode cc pc = .ok (.iaload, 1)) (kk : W p l e R s m args below meth c H locs cells slots Z (F0 m (pc + 1) ls (.int (σ.1 21 j) :: rest))) : W p l e R s m args below meth c H locs cells slots Z (F0 m pc ls (.int (nI j) :: .ref (ad 1021) :: rest)) := lm_21 S hK hI (vp_in_nI hj (by decide)) hdg (by rw [show ix (nI j) = j from nI_clamp (by omega)]; exact kk)
theorem sn_21 {j : Nat} {v : Int32} (S : CallFix p m c cc nL s args tw_ws RX7) (hK : tw_K D s) (hI : tw_I D A ad (wM b σ) s.heap H locs) (hj : j < 9) (hdg : decode cc pc = .ok (.iastore, 1)) (kk : ∀ (H1 : Heap) (locs1 : List Loc), tw_I D A ad (wM b (sI σ 21 j v)) s.heap H1 locs1 → W p l e R s m args below meth c H1 locs1 cells slots Z (F0 m (pc + 1) ls rest)) : W p l e R s m args below meth c H locs cells slots Z (F0 m pc ls (.int v :: .int (nI j) :: .ref (ad 1021) :: rest)) := sm_21 S hK hI (vp_in_nI hj (by decide)) hdg (fun H1 locs1 h1 => kk H1 locs1 (by rw [show ix (nI j) = j from nI_clamp (by omega)] at h1; exact h1))
theorem ln_22 {j : Nat} (S : CallFix p m c cc nL s args tw_ws RX7) (hK : tw_K D s) (hI : tw_I D A ad (wM b σ) s.heap H locs) (hj : j < 9) (hdg : decode cc pc = .ok (.iaload, 1)) (kk : W p l e R s m args below meth c H locs cells slots Z (F0 m (pc + 1) ls (.int (σ.1 22 j) :: rest))) : W p l e R s m args below meth c H locs cells slots Z (F0 m pc ls (.int (nI j) :: .ref (ad 1022) :: rest)) := lm_22 S hK hI (vp_in_nI hj (by decide)) hdg (by rw [show ix (nI j) = j from nI_clamp (by omega)]; exact kk)
theorem sn_22 {j : Nat} {v : Int32} (S : CallFix p m c cc nL s args tw_ws RX7) (hK : tw_K D s) (hI : tw_I D A ad (wM b σ) s.heap H locs) (hj : j < 9) (hdg : decode cc pc = .ok (.iastore, 1)) (kk : ∀ (H1 : Heap) (locs1 : List Loc), tw_I D A ad (wM b (sI σ 22 j v)) s.heap H1 locs1 → W p l e R s m args below meth c H1 locs1 cells slots Z (F0 m (pc + 1) ls rest)) : W p l e R s m args below meth c H locs cells slots Z (F0 m pc ls (.int v :: .int (nI j) :: .ref (ad 1022) :: rest)) := sm_22 S hK hI (vp_in_nI hj (by decide)) hdg (fun H1 locs1 h1 => kk H1 locs1 (by rw [show ix (nI j) = j from nI_clamp (by omega)] at h1; exact h1))
theorem ln_23 {j : Nat} (S : CallFix p m c cc nL s args tw_ws RX7) (hK : tw_K D s) (hI : tw_I D A ad (wM b σ) s.heap H locs) (hj : j < 9) (hdg : decode cc pc = .ok (.iaload, 1)) (kk : W p l e R s m args below meth c H locs cells slots Z (F0 m (pc + 1) ls (.int (σ.1 23 j) :: rest))) : W p l e R s m args below meth c H locs cells slots Z (F0 m pc ls (.int (nI j) :: .ref (ad 1023) :: rest)) := lm_23 S hK hI (vp_in_nI hj (by decide)) hdg (by rw [show ix (nI j) = j from nI_clamp (by omega)]; exact kk)
theorem sn_23 {j : Nat} {v : Int32} (S : CallFix p m c cc nL s args tw_ws RX7) (hK : tw_K D s) (hI : tw_I D A ad (wM b σ) s.heap H locs) (hj : j < 9) (hdg : decode cc pc = .ok (.iastore, 1)) (kk : ∀ (H1 : Heap) (locs1 : List Loc), tw_I D A ad (wM b (sI σ 23 j v)) s.heap H1 locs1 → W p l e R s m args below meth c H1 locs1 cells slots Z (F0 m (pc + 1) ls rest)) : W p l e R s m args below meth c H locs cells slots Z (F0 m pc ls (.int v :: .int (nI j) :: .ref (ad 1023) :: rest)) := sm_23 S hK hI (vp_in_nI hj (by decide)) hdg (fun H1 locs1 h1 => kk H1 locs1 (by rw [show ix (nI j) = j from nI_clamp (by omega)] at h1; exact h1))
theorem ln_24 {j : Nat} (S : CallFix p m c cc nL s args tw_ws RX7) (hK : tw_K D s) (hI : tw_I D A ad (wM b σ) s.heap H locs) (hj : j < 9) (hdg : decode cc pc = .ok (.iaload, 1)) (kk : W p l e R s m args below meth c H locs cells slots Z (F0 m (pc + 1) ls (.int (σ.1 24 j) :: rest))) : W p l e R s m args below meth c H locs cells slots Z (F0 m pc ls (.int (nI j) :: .ref (ad 1024) :: rest)) := lm_24 S hK hI (vp_in_nI hj (by decide)) hdg (by rw [show ix (nI j) = j from nI_clamp (by omega)]; exact kk)
theorem sn_24 {j : Nat} {v : Int32} (S : CallFix p m c cc nL s args tw_ws RX7) (hK : tw_K D s) (hI : tw_I D A ad (wM b σ) s.heap H locs) (hj : j < 9) (hdg : decode cc pc = .ok (.iastore, 1)) (kk : ∀ (H1 : Heap) (locs1 : List Loc), tw_I D A ad (wM b (sI σ 24 j v)) s.heap H1 locs1 → W p l e R s m args below meth c H1 locs1 cells slots Z (F0 m (pc + 1) ls rest)) : W p l e R s m args below meth c H locs cells slots Z (F0 m pc ls (.int v :: .int (nI j) :: .ref (ad 1024) :: rest)) := sm_24 S hK hI (vp_in_nI hj (by decide)) hdg (fun H1 locs1 h1 => kk H1 locs1 (by rw [show ix (nI j) = j from nI_clamp (by omega)] at h1; exact h1))
theorem ln_8 {j : Nat} (S : CallFix p m c cc nL s args tw_ws RX7) (hK : tw_K D s) (hI : tw_I D A ad (wM b σ) s.heap H locs) (hj : j < 32) (hdg : decode cc pc = .ok (.baload, 1)) (kk : W p l e R s m args below meth c H locs cells slots Z (F0 m (pc + 1) ls (.int (σ.1 8 j) :: rest))) : W p l e R s m args below meth c H locs cells slots Z (F0 m pc ls (.int (nI j) :: .ref (ad 1008) :: rest)) := lm_8 S hK hI (vp_in_nI hj (by decide)) hdg (by rw [show ix (nI j) = j from nI_clamp (by omega)]; exact kk)
theorem sn_8 {j : Nat} {v : Int32} (S : CallFix p m c cc nL s args tw_ws RX7) (hK : tw_K D s) (hI : tw_I D A ad (wM b σ) s.heap H locs) (hj : j < 32) (hx0 : narrow .boolean (.int v) = .int v) (hdg : decode cc pc = .ok (.bastore, 1)) (kk : ∀ (H1 : Heap) (locs1 : List Loc), tw_I D A ad (wM b (sI σ 8 j v)) s.heap H1 locs1 → W p l e R s m args below meth c H1 locs1 cells slots Z (F0 m (pc + 1) ls rest)) : W p l e R s m args below meth c H locs cells slots Z (F0 m pc ls (.int v :: .int (nI j) :: .ref (ad 1008) :: rest)) := sm_8 S hK hI (vp_in_nI hj (by decide)) hx0 hdg (fun H1 locs1 h1 => kk H1 locs1 (by rw [show ix (nI j) = j from nI_clamp (by omega)] at h1; exact h1))
theorem ln_14 {j : Nat} (S : CallFix p m c cc nL s args tw_ws RX7) (hK : tw_K D s) (hI : tw_I D A ad (wM b σ) s.heap H locs) (hj : j < 32) (hdg : decode cc pc = .ok (.baload, 1)) (kk : W p l e R s m args below meth c H locs cells slots Z (F0 m (pc + 1) ls (.int (σ.1 14 j) :: rest))) : W p l e R s m args below meth c H locs cells slots Z (F0 m pc ls (.int (nI j) :: .ref (ad 1014) :: rest)) := lm_14 S hK hI (vp_in_nI hj (by decide)) hdg (by rw [show ix (nI j) = j from nI_clamp (by omega)]; exact kk)
theorem sn_14 {j : Nat} {v : Int32} (S : CallFix p m c cc nL s args tw_ws RX7) (hK : tw_K D s) (hI : tw_I D A ad (wM b σ) s.heap H locs) (hj : j < 32) (hx0 : narrow .boolean (.int v) = .int v) (hdg : decode cc pc = .ok (.bastore, 1)) (kk : ∀ (H1 : Heap) (locs1 : List Loc), tw_I D A ad (wM b (sI σ 14 j v)) s.heap H1 locs1 → W p l e R s m args below meth c H1 locs1 cells slots Z (F0 m (pc + 1) ls rest)) : W p l e R s m args below meth c H locs cells slots Z (F0 m pc ls (.int v :: .int (nI j) :: .ref (ad 1014) :: rest)) := sm_14 S hK hI (vp_in_nI hj (by decide)) hx0 hdg (fun H1 locs1 h1 => kk H1 locs1 (by rw [show ix (nI j) = j from nI_clamp (by omega)] at h1; exact h1))
theorem ln_4 {j : Nat} (S : CallFix p m c cc nL s args tw_ws RX7) (hK : tw_K D s) (hI : tw_I D A ad (wM b σ) s.heap H locs) (hj : j < 180) (hdg : decode cc pc = .ok (.laload, 1)) (kk : W p l e R s m args below meth c H locs cells slots Z (F0 m (pc + 1) ls (.long (σ.2 j) :: rest))) : W p l e R s m args below meth c H locs cells slots Z (F0 m pc ls (.int (nI j) :: .ref (ad 1004) :: rest)) := lm_4 S hK hI (vp_in_nI hj (by decide)) hdg (by rw [show ix (nI j) = j from nI_clamp (by omega)]; exact kk)
theorem sn_4 {j : Nat} {v : Int64} (S : CallFix p m c cc nL s args tw_ws RX7) (hK : tw_K D s) (hI : tw_I D A ad (wM b σ) s.heap H locs) (hj : j < 180) (hdg : decode cc pc = .ok (.lastore, 1)) (kk : ∀ (H1 : Heap) (locs1 : List Loc), tw_I D A ad (wM b (sC σ j v)) s.heap H1 locs1 → W p l e R s m args below meth c H1 locs1 cells slots Z (F0 m (pc + 1) ls rest)) : W p l e R s m args below meth c H locs cells slots Z (F0 m pc ls (.long v :: .int (nI j) :: .ref (ad 1004) :: rest)) := sm_4 S hK hI (vp_in_nI hj (by decide)) hdg (fun H1 locs1 h1 => kk H1 locs1 (by rw [show ix (nI j) = j from nI_clamp (by omega)] at h1; exact h1))
end ROWS3
def mkC (σ : Sg) (n : Nat) (v : Int64) : Sg := sC (sC (sC σ (3 * n) v) (3 * n + 1) v) (3 * n + 2) v
def mkS (σ : Sg) (n : Nat) (k z : Int32) : Sg := sI (mkC (sI (sI (sI σ 1 n k) 2 n (if isOneF k = 0 then z else 0)) 3 n 0) n (if isThF k = 0 then 0 else -1)) 0 0 (nI (n + 1))
def makeB (σ : Sg) (n : Nat) (k z : Int32) : Int32 × Sg := if nI n = 60 then (-3, refuseM σ (-3)) else (nI n, mkS σ n k z)
def makeM (σ : Sg) (n : Nat) (k z : Int32) : Int32 × Sg := if isInF k 0 12 = 0 then (-2, refuseM (acc σ) (-2)) else if isOneF k = 0 then (if isInF z 0 3 = 0 then (-2, refuseM (acc σ) (-2)) else makeB (acc σ) n k z) else makeB (acc σ) n k z
def turnF (σ : Sg) (k : Nat) : Sg := if σ.1 2 k = 2 then sC (sC σ (3 * k) (σ.2 (3 * k + 1))) (3 * k + 1) (σ.2 (3 * k)) else if σ.1 2 k = 3 then sC (sC σ (3 * k) (σ.2 (3 * k + 2))) (3 * k + 2) (σ.2 (3 * k)) else σ
def bumpF (κ : Int32) (v : Int64) : Int64 := if κ = 3 then 1 - v else keptF κ (v + 1)
def bump1 (σ : Sg) (κ : Int32) (j : Nat) : Sg := sC σ j (bumpF κ (σ.2 j))
def bumpN (σ : Sg) (κ : Int32) (k : Nat) : Nat → Sg
  | 0 => σ
  | z + 1 => bump1 (bumpN σ κ k z) κ (3 * k + z)
def addS (κ : Int32) : Int32 := if κ = 6 then 2 else if isOneF κ = 0 then 0 else 1
def stampLowF (σ : Sg) (k : Nat) : Sg := if isNumF (σ.1 1 k) = 0 then sI σ 3 k (σ.1 3 k + addS (σ.1 1 k)) else bumpN (sI σ 3 k (σ.1 3 k + addS (σ.1 1 k))) (σ.1 1 k) k (szS σ k)

theorem n60 {n : Nat} (h : n ≤ 60) (c : ¬ nI n = 60) : n < 60 := by
  rcases Nat.lt_or_ge n 60 with q | q
  · exact q
  · exact absurd (show nI n = 60 by rw [show n = 60 by omega]; rfl) c
set_option maxHeartbeats 2000000 in
set_option maxRecDepth 100000 in
theorem c_X7_make (l : Launch) (D : tw_G) (ad : Nat → Nat) (b : tw_W) (σ : Sg) (sz : Nat) (n : Nat) (k z : Int32) (hle : n ≤ 60) (hn : σ.1 0 0 = nI n) : Met l yX7_make (tw_w yX7_make cX7_make 4 (some .int)) (tw_R 3 0 0) (tw_Pc D ad (wM b σ) sz [.ref (ad 1000), .int k, .int z]) (tw_Q D ad (wM b (makeM σ n k z).2) (tw_A ad (wM b σ) sz) (some (.int (makeM σ n k z).1))) 0 0 (tw_A ad (wM b σ) sz) := by
  refine tw_met (by decide) rfl (by simp [lg_sl, Value.category]) (fun p e s m below meth c ls S hK hr hlocks hnm hsz hI hl => ?_)
  have hx := S.1
  have hb := S.2.1
  have hl : lv_has ls 4 [(0, .ref (ad 1000)), (1, .int k), (2, .int z)] := hl
  refine lv_aload_n hx hb dX7_make_0 rfl (lv_at hl 0 rfl) ?_
  refine lv_iconst (v := 0) hx hb dX7_make_1 (by decide) ?_
  refine pm_77 S hK hI dX7_make_2 (fun H locs hI => ?_)
  refine lv_iload_n hx hb dX7_make_5 rfl (lv_at hl 1 rfl) ?_
  refine lv_iconst (v := 0) hx hb dX7_make_6 (by decide) ?_
  refine lv_bipush (v := 12) hx hb dX7_make_7 (by decide) ?_
  refine tw_calli (tw_rS (As := [.int k, .int 0, .int 12]) (rest := []) S hK hI kX7_73 (c_X7_isIn l D ad _ _ _ _ _) ⟨Nat.le_of_ble_eq_true rfl, Nat.le_of_ble_eq_true rfl⟩ ⟨Nat.le_of_ble_eq_true rfl, Nat.le_of_ble_eq_true rfl⟩ rfl hl.1 rfl (Nat.le_of_ble_eq_true rfl) dX7_make_9) hI (fun H locs hI => ?_)
  refine lv_topi (fun x1 e1 => ?_)
  refine lv_if_eq (tgt := 31) hx hb dX7_make_12 (by decide) (fun c2 => ?_) (fun c2 => ?_)
  · refine lv_aload_n hx hb dX7_make_31 rfl (lv_at hl 0 rfl) ?_
    refine lv_bipush (v := (-2)) hx hb dX7_make_32 (by decide) ?_
    refine tw_calli (tw_rV (As := [.int (-2)]) (rest := []) S hK hI kX7_93 (c_X7_refuse l D ad _ _ _ _) (t := 1000) (fs := mRoot _) rfl rfl rfl ⟨Nat.le_of_ble_eq_true rfl, Nat.le_of_ble_eq_true rfl⟩ ⟨Nat.le_of_ble_eq_true rfl, Nat.le_of_ble_eq_true rfl⟩ rfl hl.1 rfl (Nat.le_of_ble_eq_true rfl) dX7_make_34) hI (fun H locs hI => ?_)
    refine lv_topi (fun x3 e3 => ?_)
    subst e3
    subst e1
    unfold makeM makeB mkS mkC
    try rw [if_pos c2]
    exact tw_iret S hr hlocks hI dX7_make_37
  · refine lv_iload_n hx hb dX7_make_15 rfl (lv_at hl 1 rfl) ?_
    refine tw_calli (tw_rS (As := [.int k]) (rest := []) S hK hI kX7_89 (c_X7_isOne l D ad _ _ _) ⟨Nat.le_of_ble_eq_true rfl, Nat.le_of_ble_eq_true rfl⟩ ⟨Nat.le_of_ble_eq_true rfl, Nat.le_of_ble_eq_true rfl⟩ rfl hl.1 rfl (Nat.le_of_ble_eq_true rfl) dX7_make_16) hI (fun H locs hI => ?_)
    refine lv_topi (fun x4 e4 => ?_)
    refine lv_if_ne (tgt := 38) hx hb dX7_make_19 (by decide) (fun c5 => ?_) (fun c5 => ?_)
    · refine lv_aload_n hx hb dX7_make_38 rfl (lv_at hl 0 rfl) ?_
      refine gm_70 S hK hI dX7_make_39 ?_
      refine lv_eqi (v := (nI n)) (hn) ?_
      refine lv_bipush (v := 60) hx hb dX7_make_42 (by decide) ?_
      refine lv_icmp_ne (tgt := 54) hx hb dX7_make_44 (by decide) (fun c6 => ?_) (fun c6 => ?_)
      · refine lv_aload_n hx hb dX7_make_54 rfl (lv_at hl 0 rfl) ?_
        refine gm_7 S hK hI dX7_make_55 ?_
        refine lv_aload_n hx hb dX7_make_58 rfl (lv_at hl 0 rfl) ?_
        refine gm_70 S hK hI dX7_make_59 ?_
        refine lv_eqi (v := (nI n)) (hn) ?_
        refine lv_iload_n hx hb dX7_make_62 rfl (lv_at hl 1 rfl) ?_
        refine sn_1 (j := n) S hK hI (by have h60 := n60 hle c6; omega) dX7_make_63 (fun H locs hI => ?_)
        refine lv_aload_n hx hb dX7_make_64 rfl (lv_at hl 0 rfl) ?_
        refine gm_13 S hK hI dX7_make_65 ?_
        refine lv_aload_n hx hb dX7_make_68 rfl (lv_at hl 0 rfl) ?_
        refine gm_70 S hK hI dX7_make_69 ?_
        refine lv_eqi (v := (nI n)) (hn) ?_
        refine lv_iload_n hx hb dX7_make_72 rfl (lv_at hl 1 rfl) ?_
        refine tw_calli (tw_rS (As := [.int k]) (rest := [.int (nI n), .ref (ad 1002)]) S hK hI kX7_89 (c_X7_isOne l D ad _ _ _) ⟨Nat.le_of_ble_eq_true rfl, Nat.le_of_ble_eq_true rfl⟩ ⟨Nat.le_of_ble_eq_true rfl, Nat.le_of_ble_eq_true rfl⟩ rfl hl.1 rfl (Nat.le_of_ble_eq_true rfl) dX7_make_73) hI (fun H locs hI => ?_)
        refine lv_topi (fun x7 e7 => ?_)
        refine lv_if_eq (tgt := 83) hx hb dX7_make_76 (by decide) (fun c8 => ?_) (fun c8 => ?_)
        · exact (by subst e7; subst e4; subst e1; exact absurd c8 c5)
        · refine lv_iconst (v := 0) hx hb dX7_make_79 (by decide) ?_
          refine lv_goto (tgt := 84) hx hb dX7_make_80 (by decide) ?_
          refine sn_2 (j := n) S hK hI (by have h60 := n60 hle c6; omega) dX7_make_84 (fun H locs hI => ?_)
          refine lv_aload_n hx hb dX7_make_85 rfl (lv_at hl 0 rfl) ?_
          refine gm_16 S hK hI dX7_make_86 ?_
          refine lv_aload_n hx hb dX7_make_89 rfl (lv_at hl 0 rfl) ?_
          refine gm_70 S hK hI dX7_make_90 ?_
          refine lv_eqi (v := (nI n)) (hn) ?_
          refine lv_iconst (v := 0) hx hb dX7_make_93 (by decide) ?_
          refine sn_3 (j := n) S hK hI (by have h60 := n60 hle c6; omega) dX7_make_94 (fun H locs hI => ?_)
          refine lv_iconst (v := 0) hx hb dX7_make_95 (by decide) ?_
          refine lv_istore_n (lv' := [(3, .int 0), (0, .ref (ad 1000)), (1, .int k), (2, .int z)]) hx hb dX7_make_96 rfl hl (by decide) rfl (fun ls hl => ?_)
          refine lv_iload_n hx hb dX7_make_97 rfl (lv_at hl 0 rfl) ?_
          refine lv_iconst (v := 3) hx hb dX7_make_98 (by decide) ?_
          refine lv_icmp_ge (tgt := 135) hx hb dX7_make_99 (by decide) (fun c9 => ?_) (fun c9 => ?_)
          · exact absurd c9 (by decide)
          · refine lv_aload_n hx hb dX7_make_102 rfl (lv_at hl 1 rfl) ?_
            refine gm_19 S hK hI dX7_make_103 ?_
            refine lv_iconst (v := 3) hx hb dX7_make_106 (by decide) ?_
            refine lv_aload_n hx hb dX7_make_107 rfl (lv_at hl 1 rfl) ?_
            refine gm_70 S hK hI dX7_make_108 ?_
            refine lv_eqi (v := (nI n)) (hn) ?_
            refine lv_imul hx hb dX7_make_111 ?_
            refine lv_eqi (v := (nI (3 * n))) (nM (a := 3) (b := n) (c := 3 * n) (by omega)) ?_
            refine lv_iload_n hx hb dX7_make_112 rfl (lv_at hl 0 rfl) ?_
            refine lv_iadd hx hb dX7_make_113 ?_
            refine lv_eqi (v := (nI (3 * n))) (nA (a := 3 * n) (b := 0) (c := 3 * n) (by omega)) ?_
            refine lv_iload_n hx hb dX7_make_114 rfl (lv_at hl 2 rfl) ?_
            refine tw_calli (tw_rS (As := [.int k]) (rest := [.int (nI (3 * n)), .ref (ad 1004)]) S hK hI kX7_97 (c_X7_isOfThings l D ad _ _ _) ⟨Nat.le_of_ble_eq_true rfl, Nat.le_of_ble_eq_true rfl⟩ ⟨Nat.le_of_ble_eq_true rfl, Nat.le_of_ble_eq_true rfl⟩ rfl hl.1 rfl (Nat.le_of_ble_eq_true rfl) dX7_make_115) hI (fun H locs hI => ?_)
            refine lv_topi (fun x10 e10 => ?_)
            refine lv_if_eq (tgt := 127) hx hb dX7_make_118 (by decide) (fun c11 => ?_) (fun c11 => ?_)
            · refine lv_lconst (v := 0) hx hb dX7_make_127 (by decide) ?_
              refine sn_4 (j := 3 * n) S hK hI (by have h60 := n60 hle c6; omega) dX7_make_128 (fun H locs hI => ?_)
              refine lv_iinc (v := 1) (lv' := [(3, .int 1), (0, .ref (ad 1000)), (1, .int k), (2, .int z)]) hx hb dX7_make_129 hl (k := 0) rfl (by decide) (by decide) rfl (fun ls hl => ?_)
              refine lv_goto (tgt := 97) hx hb dX7_make_132 (by decide) ?_
              refine lv_iload_n hx hb dX7_make_97 rfl (lv_at hl 0 rfl) ?_
              refine lv_iconst (v := 3) hx hb dX7_make_98 (by decide) ?_
              refine lv_icmp_ge (tgt := 135) hx hb dX7_make_99 (by decide) (fun c12 => ?_) (fun c12 => ?_)
              · exact absurd c12 (by decide)
              · refine lv_aload_n hx hb dX7_make_102 rfl (lv_at hl 1 rfl) ?_
                refine gm_19 S hK hI dX7_make_103 ?_
                refine lv_iconst (v := 3) hx hb dX7_make_106 (by decide) ?_
                refine lv_aload_n hx hb dX7_make_107 rfl (lv_at hl 1 rfl) ?_
                refine gm_70 S hK hI dX7_make_108 ?_
                refine lv_eqi (v := (nI n)) (hn) ?_
                refine lv_imul hx hb dX7_make_111 ?_
                refine lv_eqi (v := (nI (3 * n))) (nM (a := 3) (b := n) (c := 3 * n) (by omega)) ?_
                refine lv_iload_n hx hb dX7_make_112 rfl (lv_at hl 0 rfl) ?_
                refine lv_iadd hx hb dX7_make_113 ?_
                refine lv_eqi (v := (nI (3 * n + 1))) (nA (a := 3 * n) (b := 1) (c := 3 * n + 1) (by omega)) ?_
                refine lv_iload_n hx hb dX7_make_114 rfl (lv_at hl 2 rfl) ?_
                refine tw_calli (tw_rS (As := [.int k]) (rest := [.int (nI (3 * n + 1)), .ref (ad 1004)]) S hK hI kX7_97 (c_X7_isOfThings l D ad _ _ _) ⟨Nat.le_of_ble_eq_true rfl, Nat.le_of_ble_eq_true rfl⟩ ⟨Nat.le_of_ble_eq_true rfl, Nat.le_of_ble_eq_true rfl⟩ rfl hl.1 rfl (Nat.le_of_ble_eq_true rfl) dX7_make_115) hI (fun H locs hI => ?_)
                refine lv_topi (fun x13 e13 => ?_)
                refine lv_if_eq (tgt := 127) hx hb dX7_make_118 (by decide) (fun c14 => ?_) (fun c14 => ?_)
                · refine lv_lconst (v := 0) hx hb dX7_make_127 (by decide) ?_
                  refine sn_4 (j := 3 * n + 1) S hK hI (by have h60 := n60 hle c6; omega) dX7_make_128 (fun H locs hI => ?_)
                  refine lv_iinc (v := 2) (lv' := [(3, .int 2), (0, .ref (ad 1000)), (1, .int k), (2, .int z)]) hx hb dX7_make_129 hl (k := 0) rfl (by decide) (by decide) rfl (fun ls hl => ?_)
                  refine lv_goto (tgt := 97) hx hb dX7_make_132 (by decide) ?_
                  refine lv_iload_n hx hb dX7_make_97 rfl (lv_at hl 0 rfl) ?_
                  refine lv_iconst (v := 3) hx hb dX7_make_98 (by decide) ?_
                  refine lv_icmp_ge (tgt := 135) hx hb dX7_make_99 (by decide) (fun c15 => ?_) (fun c15 => ?_)
                  · exact absurd c15 (by decide)
                  · refine lv_aload_n hx hb dX7_make_102 rfl (lv_at hl 1 rfl) ?_
                    refine gm_19 S hK hI dX7_make_103 ?_
                    refine lv_iconst (v := 3) hx hb dX7_make_106 (by decide) ?_
                    refine lv_aload_n hx hb dX7_make_107 rfl (lv_at hl 1 rfl) ?_
                    refine gm_70 S hK hI dX7_make_108 ?_
                    refine lv_eqi (v := (nI n)) (hn) ?_
                    refine lv_imul hx hb dX7_make_111 ?_
                    refine lv_eqi (v := (nI (3 * n))) (nM (a := 3) (b := n) (c := 3 * n) (by omega)) ?_
                    refine lv_iload_n hx hb dX7_make_112 rfl (lv_at hl 0 rfl) ?_
                    refine lv_iadd hx hb dX7_make_113 ?_
                    refine lv_eqi (v := (nI (3 * n + 2))) (nA (a := 3 * n) (b := 2) (c := 3 * n + 2) (by omega)) ?_
                    refine lv_iload_n hx hb dX7_make_114 rfl (lv_at hl 2 rfl) ?_
                    refine tw_calli (tw_rS (As := [.int k]) (rest := [.int (nI (3 * n + 2)), .ref (ad 1004)]) S hK hI kX7_97 (c_X7_isOfThings l D ad _ _ _) ⟨Nat.le_of_ble_eq_true rfl, Nat.le_of_ble_eq_true rfl⟩ ⟨Nat.le_of_ble_eq_true rfl, Nat.le_of_ble_eq_true rfl⟩ rfl hl.1 rfl (Nat.le_of_ble_eq_true rfl) dX7_make_115) hI (fun H locs hI => ?_)
                    refine lv_topi (fun x16 e16 => ?_)
                    refine lv_if_eq (tgt := 127) hx hb dX7_make_118 (by decide) (fun c17 => ?_) (fun c17 => ?_)
                    · refine lv_lconst (v := 0) hx hb dX7_make_127 (by decide) ?_
                      refine sn_4 (j := 3 * n + 2) S hK hI (by have h60 := n60 hle c6; omega) dX7_make_128 (fun H locs hI => ?_)
                      refine lv_iinc (v := 3) (lv' := [(3, .int 3), (0, .ref (ad 1000)), (1, .int k), (2, .int z)]) hx hb dX7_make_129 hl (k := 0) rfl (by decide) (by decide) rfl (fun ls hl => ?_)
                      refine lv_goto (tgt := 97) hx hb dX7_make_132 (by decide) ?_
                      refine lv_iload_n hx hb dX7_make_97 rfl (lv_at hl 0 rfl) ?_
                      refine lv_iconst (v := 3) hx hb dX7_make_98 (by decide) ?_
                      refine lv_icmp_ge (tgt := 135) hx hb dX7_make_99 (by decide) (fun c18 => ?_) (fun c18 => ?_)
                      · refine lv_aload_n hx hb dX7_make_135 rfl (lv_at hl 1 rfl) ?_
                        refine lv_dup hx hb dX7_make_136 rfl ?_
                        refine gm_70 S hK hI dX7_make_137 ?_
                        refine lv_eqi (v := (nI n)) (hn) ?_
                        refine lv_iconst (v := 1) hx hb dX7_make_140 (by decide) ?_
                        refine lv_iadd hx hb dX7_make_141 ?_
                        refine lv_eqi (v := (nI (n + 1))) (nA (a := n) (b := 1) (c := n + 1) (by omega)) ?_
                        refine pm_70 S hK hI dX7_make_142 (fun H locs hI => ?_)
                        refine lv_aload_n hx hb dX7_make_145 rfl (lv_at hl 1 rfl) ?_
                        refine gm_70 S hK hI dX7_make_146 ?_
                        refine lv_eqi (v := (nI (n + 1))) (rfl) ?_
                        refine lv_iconst (v := 1) hx hb dX7_make_149 (by decide) ?_
                        refine lv_isub hx hb dX7_make_150 ?_
                        refine lv_eqi (v := (nI n)) (nB (a := n + 1) (b := 1) (c := n) (by omega) (by omega)) ?_
                        subst e16
                        subst e13
                        subst e10
                        subst e7
                        subst e4
                        subst e1
                        unfold makeM makeB mkS mkC
                        try rw [if_neg c2]
                        try rw [if_neg c5]
                        try rw [if_neg c6]
                        try rw [if_neg c5]
                        try rw [if_neg (show ¬ (3 : Int32) ≤ 0 from by decide)]
                        try rw [if_pos c11]
                        try rw [if_neg (show ¬ (3 : Int32) ≤ 1 from by decide)]
                        try rw [if_pos c11]
                        try rw [if_neg (show ¬ (3 : Int32) ≤ 2 from by decide)]
                        try rw [if_pos c11]
                        try rw [if_pos (show (3 : Int32) ≤ 3 from by decide)]
                        exact tw_iret S hr hlocks hI dX7_make_151
                      · exact absurd c18 (by decide)
                    · exact (by subst e16; subst e13; subst e10; subst e7; subst e4; subst e1; exact absurd c11 c17)
                · exact (by subst e13; subst e10; subst e7; subst e4; subst e1; exact absurd c11 c14)
            · refine lv_ldc2 (own := RX7) (v := (-1)) hx hb S.2.2.2.1 (S.2.2.2.2 _ (tw_mem (by decide +kernel) rfl)) dX7_make_121 ?_
              refine lv_goto (tgt := 128) hx hb dX7_make_124 (by decide) ?_
              refine sn_4 (j := 3 * n) S hK hI (by have h60 := n60 hle c6; omega) dX7_make_128 (fun H locs hI => ?_)
              refine lv_iinc (v := 1) (lv' := [(3, .int 1), (0, .ref (ad 1000)), (1, .int k), (2, .int z)]) hx hb dX7_make_129 hl (k := 0) rfl (by decide) (by decide) rfl (fun ls hl => ?_)
              refine lv_goto (tgt := 97) hx hb dX7_make_132 (by decide) ?_
              refine lv_iload_n hx hb dX7_make_97 rfl (lv_at hl 0 rfl) ?_
              refine lv_iconst (v := 3) hx hb dX7_make_98 (by decide) ?_
              refine lv_icmp_ge (tgt := 135) hx hb dX7_make_99 (by decide) (fun c19 => ?_) (fun c19 => ?_)
              · exact absurd c19 (by decide)
              · refine lv_aload_n hx hb dX7_make_102 rfl (lv_at hl 1 rfl) ?_
                refine gm_19 S hK hI dX7_make_103 ?_
                refine lv_iconst (v := 3) hx hb dX7_make_106 (by decide) ?_
                refine lv_aload_n hx hb dX7_make_107 rfl (lv_at hl 1 rfl) ?_
                refine gm_70 S hK hI dX7_make_108 ?_
                refine lv_eqi (v := (nI n)) (hn) ?_
                refine lv_imul hx hb dX7_make_111 ?_
                refine lv_eqi (v := (nI (3 * n))) (nM (a := 3) (b := n) (c := 3 * n) (by omega)) ?_
                refine lv_iload_n hx hb dX7_make_112 rfl (lv_at hl 0 rfl) ?_
                refine lv_iadd hx hb dX7_make_113 ?_
                refine lv_eqi (v := (nI (3 * n + 1))) (nA (a := 3 * n) (b := 1) (c := 3 * n + 1) (by omega)) ?_
                refine lv_iload_n hx hb dX7_make_114 rfl (lv_at hl 2 rfl) ?_
                refine tw_calli (tw_rS (As := [.int k]) (rest := [.int (nI (3 * n + 1)), .ref (ad 1004)]) S hK hI kX7_97 (c_X7_isOfThings l D ad _ _ _) ⟨Nat.le_of_ble_eq_true rfl, Nat.le_of_ble_eq_true rfl⟩ ⟨Nat.le_of_ble_eq_true rfl, Nat.le_of_ble_eq_true rfl⟩ rfl hl.1 rfl (Nat.le_of_ble_eq_true rfl) dX7_make_115) hI (fun H locs hI => ?_)
                refine lv_topi (fun x20 e20 => ?_)
                refine lv_if_eq (tgt := 127) hx hb dX7_make_118 (by decide) (fun c21 => ?_) (fun c21 => ?_)
                · exact (by subst e20; subst e10; subst e7; subst e4; subst e1; exact absurd c21 c11)
                · refine lv_ldc2 (own := RX7) (v := (-1)) hx hb S.2.2.2.1 (S.2.2.2.2 _ (tw_mem (by decide +kernel) rfl)) dX7_make_121 ?_
                  refine lv_goto (tgt := 128) hx hb dX7_make_124 (by decide) ?_
                  refine sn_4 (j := 3 * n + 1) S hK hI (by have h60 := n60 hle c6; omega) dX7_make_128 (fun H locs hI => ?_)
                  refine lv_iinc (v := 2) (lv' := [(3, .int 2), (0, .ref (ad 1000)), (1, .int k), (2, .int z)]) hx hb dX7_make_129 hl (k := 0) rfl (by decide) (by decide) rfl (fun ls hl => ?_)
                  refine lv_goto (tgt := 97) hx hb dX7_make_132 (by decide) ?_
                  refine lv_iload_n hx hb dX7_make_97 rfl (lv_at hl 0 rfl) ?_
                  refine lv_iconst (v := 3) hx hb dX7_make_98 (by decide) ?_
                  refine lv_icmp_ge (tgt := 135) hx hb dX7_make_99 (by decide) (fun c22 => ?_) (fun c22 => ?_)
                  · exact absurd c22 (by decide)
                  · refine lv_aload_n hx hb dX7_make_102 rfl (lv_at hl 1 rfl) ?_
                    refine gm_19 S hK hI dX7_make_103 ?_
                    refine lv_iconst (v := 3) hx hb dX7_make_106 (by decide) ?_
                    refine lv_aload_n hx hb dX7_make_107 rfl (lv_at hl 1 rfl) ?_
                    refine gm_70 S hK hI dX7_make_108 ?_
                    refine lv_eqi (v := (nI n)) (hn) ?_
                    refine lv_imul hx hb dX7_make_111 ?_
                    refine lv_eqi (v := (nI (3 * n))) (nM (a := 3) (b := n) (c := 3 * n) (by omega)) ?_
                    refine lv_iload_n hx hb dX7_make_112 rfl (lv_at hl 0 rfl) ?_
                    refine lv_iadd hx hb dX7_make_113 ?_
                    refine lv_eqi (v := (nI (3 * n + 2))) (nA (a := 3 * n) (b := 2) (c := 3 * n + 2) (by omega)) ?_
                    refine lv_iload_n hx hb dX7_make_114 rfl (lv_at hl 2 rfl) ?_
                    refine tw_calli (tw_rS (As := [.int k]) (rest := [.int (nI (3 * n + 2)), .ref (ad 1004)]) S hK hI kX7_97 (c_X7_isOfThings l D ad _ _ _) ⟨Nat.le_of_ble_eq_true rfl, Nat.le_of_ble_eq_true rfl⟩ ⟨Nat.le_of_ble_eq_true rfl, Nat.le_of_ble_eq_true rfl⟩ rfl hl.1 rfl (Nat.le_of_ble_eq_true rfl) dX7_make_115) hI (fun H locs hI => ?_)
                    refine lv_topi (fun x23 e23 => ?_)
                    refine lv_if_eq (tgt := 127) hx hb dX7_make_118 (by decide) (fun c24 => ?_) (fun c24 => ?_)
                    · exact (by subst e23; subst e20; subst e10; subst e7; subst e4; subst e1; exact absurd c24 c11)
                    · refine lv_ldc2 (own := RX7) (v := (-1)) hx hb S.2.2.2.1 (S.2.2.2.2 _ (tw_mem (by decide +kernel) rfl)) dX7_make_121 ?_
                      refine lv_goto (tgt := 128) hx hb dX7_make_124 (by decide) ?_
                      refine sn_4 (j := 3 * n + 2) S hK hI (by have h60 := n60 hle c6; omega) dX7_make_128 (fun H locs hI => ?_)
                      refine lv_iinc (v := 3) (lv' := [(3, .int 3), (0, .ref (ad 1000)), (1, .int k), (2, .int z)]) hx hb dX7_make_129 hl (k := 0) rfl (by decide) (by decide) rfl (fun ls hl => ?_)
                      refine lv_goto (tgt := 97) hx hb dX7_make_132 (by decide) ?_
                      refine lv_iload_n hx hb dX7_make_97 rfl (lv_at hl 0 rfl) ?_
                      refine lv_iconst (v := 3) hx hb dX7_make_98 (by decide) ?_
                      refine lv_icmp_ge (tgt := 135) hx hb dX7_make_99 (by decide) (fun c25 => ?_) (fun c25 => ?_)
                      · refine lv_aload_n hx hb dX7_make_135 rfl (lv_at hl 1 rfl) ?_
                        refine lv_dup hx hb dX7_make_136 rfl ?_
                        refine gm_70 S hK hI dX7_make_137 ?_
                        refine lv_eqi (v := (nI n)) (hn) ?_
                        refine lv_iconst (v := 1) hx hb dX7_make_140 (by decide) ?_
                        refine lv_iadd hx hb dX7_make_141 ?_
                        refine lv_eqi (v := (nI (n + 1))) (nA (a := n) (b := 1) (c := n + 1) (by omega)) ?_
                        refine pm_70 S hK hI dX7_make_142 (fun H locs hI => ?_)
                        refine lv_aload_n hx hb dX7_make_145 rfl (lv_at hl 1 rfl) ?_
                        refine gm_70 S hK hI dX7_make_146 ?_
                        refine lv_eqi (v := (nI (n + 1))) (rfl) ?_
                        refine lv_iconst (v := 1) hx hb dX7_make_149 (by decide) ?_
                        refine lv_isub hx hb dX7_make_150 ?_
                        refine lv_eqi (v := (nI n)) (nB (a := n + 1) (b := 1) (c := n) (by omega) (by omega)) ?_
                        subst e23
                        subst e20
                        subst e10
                        subst e7
                        subst e4
                        subst e1
                        unfold makeM makeB mkS mkC
                        try rw [if_neg c2]
                        try rw [if_neg c5]
                        try rw [if_neg c6]
                        try rw [if_neg c5]
                        try rw [if_neg (show ¬ (3 : Int32) ≤ 0 from by decide)]
                        try rw [if_neg c11]
                        try rw [if_neg (show ¬ (3 : Int32) ≤ 1 from by decide)]
                        try rw [if_neg c11]
                        try rw [if_neg (show ¬ (3 : Int32) ≤ 2 from by decide)]
                        try rw [if_neg c11]
                        try rw [if_pos (show (3 : Int32) ≤ 3 from by decide)]
                        exact tw_iret S hr hlocks hI dX7_make_151
                      · exact absurd c25 (by decide)
      · refine lv_aload_n hx hb dX7_make_47 rfl (lv_at hl 0 rfl) ?_
        refine lv_bipush (v := (-3)) hx hb dX7_make_48 (by decide) ?_
        refine tw_calli (tw_rV (As := [.int (-3)]) (rest := []) S hK hI kX7_93 (c_X7_refuse l D ad _ _ _ _) (t := 1000) (fs := mRoot _) rfl rfl rfl ⟨Nat.le_of_ble_eq_true rfl, Nat.le_of_ble_eq_true rfl⟩ ⟨Nat.le_of_ble_eq_true rfl, Nat.le_of_ble_eq_true rfl⟩ rfl hl.1 rfl (Nat.le_of_ble_eq_true rfl) dX7_make_50) hI (fun H locs hI => ?_)
        refine lv_topi (fun x26 e26 => ?_)
        subst e26
        subst e4
        subst e1
        unfold makeM makeB mkS mkC
        try rw [if_neg c2]
        try rw [if_neg c5]
        try rw [if_pos c6]
        exact tw_iret S hr hlocks hI dX7_make_53
    · refine lv_iload_n hx hb dX7_make_22 rfl (lv_at hl 2 rfl) ?_
      refine lv_iconst (v := 0) hx hb dX7_make_23 (by decide) ?_
      refine lv_iconst (v := 3) hx hb dX7_make_24 (by decide) ?_
      refine tw_calli (tw_rS (As := [.int z, .int 0, .int 3]) (rest := []) S hK hI kX7_73 (c_X7_isIn l D ad _ _ _ _ _) ⟨Nat.le_of_ble_eq_true rfl, Nat.le_of_ble_eq_true rfl⟩ ⟨Nat.le_of_ble_eq_true rfl, Nat.le_of_ble_eq_true rfl⟩ rfl hl.1 rfl (Nat.le_of_ble_eq_true rfl) dX7_make_25) hI (fun H locs hI => ?_)
      refine lv_topi (fun x27 e27 => ?_)
      refine lv_if_ne (tgt := 38) hx hb dX7_make_28 (by decide) (fun c28 => ?_) (fun c28 => ?_)
      · refine lv_aload_n hx hb dX7_make_38 rfl (lv_at hl 0 rfl) ?_
        refine gm_70 S hK hI dX7_make_39 ?_
        refine lv_eqi (v := (nI n)) (hn) ?_
        refine lv_bipush (v := 60) hx hb dX7_make_42 (by decide) ?_
        refine lv_icmp_ne (tgt := 54) hx hb dX7_make_44 (by decide) (fun c29 => ?_) (fun c29 => ?_)
        · refine lv_aload_n hx hb dX7_make_54 rfl (lv_at hl 0 rfl) ?_
          refine gm_7 S hK hI dX7_make_55 ?_
          refine lv_aload_n hx hb dX7_make_58 rfl (lv_at hl 0 rfl) ?_
          refine gm_70 S hK hI dX7_make_59 ?_
          refine lv_eqi (v := (nI n)) (hn) ?_
          refine lv_iload_n hx hb dX7_make_62 rfl (lv_at hl 1 rfl) ?_
          refine sn_1 (j := n) S hK hI (by have h60 := n60 hle c29; omega) dX7_make_63 (fun H locs hI => ?_)
          refine lv_aload_n hx hb dX7_make_64 rfl (lv_at hl 0 rfl) ?_
          refine gm_13 S hK hI dX7_make_65 ?_
          refine lv_aload_n hx hb dX7_make_68 rfl (lv_at hl 0 rfl) ?_
          refine gm_70 S hK hI dX7_make_69 ?_
          refine lv_eqi (v := (nI n)) (hn) ?_
          refine lv_iload_n hx hb dX7_make_72 rfl (lv_at hl 1 rfl) ?_
          refine tw_calli (tw_rS (As := [.int k]) (rest := [.int (nI n), .ref (ad 1002)]) S hK hI kX7_89 (c_X7_isOne l D ad _ _ _) ⟨Nat.le_of_ble_eq_true rfl, Nat.le_of_ble_eq_true rfl⟩ ⟨Nat.le_of_ble_eq_true rfl, Nat.le_of_ble_eq_true rfl⟩ rfl hl.1 rfl (Nat.le_of_ble_eq_true rfl) dX7_make_73) hI (fun H locs hI => ?_)
          refine lv_topi (fun x30 e30 => ?_)
          refine lv_if_eq (tgt := 83) hx hb dX7_make_76 (by decide) (fun c31 => ?_) (fun c31 => ?_)
          · refine lv_iload_n hx hb dX7_make_83 rfl (lv_at hl 2 rfl) ?_
            refine sn_2 (j := n) S hK hI (by have h60 := n60 hle c29; omega) dX7_make_84 (fun H locs hI => ?_)
            refine lv_aload_n hx hb dX7_make_85 rfl (lv_at hl 0 rfl) ?_
            refine gm_16 S hK hI dX7_make_86 ?_
            refine lv_aload_n hx hb dX7_make_89 rfl (lv_at hl 0 rfl) ?_
            refine gm_70 S hK hI dX7_make_90 ?_
            refine lv_eqi (v := (nI n)) (hn) ?_
            refine lv_iconst (v := 0) hx hb dX7_make_93 (by decide) ?_
            refine sn_3 (j := n) S hK hI (by have h60 := n60 hle c29; omega) dX7_make_94 (fun H locs hI => ?_)
            refine lv_iconst (v := 0) hx hb dX7_make_95 (by decide) ?_
            refine lv_istore_n (lv' := [(3, .int 0), (0, .ref (ad 1000)), (1, .int k), (2, .int z)]) hx hb dX7_make_96 rfl hl (by decide) rfl (fun ls hl => ?_)
            refine lv_iload_n hx hb dX7_make_97 rfl (lv_at hl 0 rfl) ?_
            refine lv_iconst (v := 3) hx hb dX7_make_98 (by decide) ?_
            refine lv_icmp_ge (tgt := 135) hx hb dX7_make_99 (by decide) (fun c32 => ?_) (fun c32 => ?_)
            · exact absurd c32 (by decide)
            · refine lv_aload_n hx hb dX7_make_102 rfl (lv_at hl 1 rfl) ?_
              refine gm_19 S hK hI dX7_make_103 ?_
              refine lv_iconst (v := 3) hx hb dX7_make_106 (by decide) ?_
              refine lv_aload_n hx hb dX7_make_107 rfl (lv_at hl 1 rfl) ?_
              refine gm_70 S hK hI dX7_make_108 ?_
              refine lv_eqi (v := (nI n)) (hn) ?_
              refine lv_imul hx hb dX7_make_111 ?_
              refine lv_eqi (v := (nI (3 * n))) (nM (a := 3) (b := n) (c := 3 * n) (by omega)) ?_
              refine lv_iload_n hx hb dX7_make_112 rfl (lv_at hl 0 rfl) ?_
              refine lv_iadd hx hb dX7_make_113 ?_
              refine lv_eqi (v := (nI (3 * n))) (nA (a := 3 * n) (b := 0) (c := 3 * n) (by omega)) ?_
              refine lv_iload_n hx hb dX7_make_114 rfl (lv_at hl 2 rfl) ?_
              refine tw_calli (tw_rS (As := [.int k]) (rest := [.int (nI (3 * n)), .ref (ad 1004)]) S hK hI kX7_97 (c_X7_isOfThings l D ad _ _ _) ⟨Nat.le_of_ble_eq_true rfl, Nat.le_of_ble_eq_true rfl⟩ ⟨Nat.le_of_ble_eq_true rfl, Nat.le_of_ble_eq_true rfl⟩ rfl hl.1 rfl (Nat.le_of_ble_eq_true rfl) dX7_make_115) hI (fun H locs hI => ?_)
              refine lv_topi (fun x33 e33 => ?_)
              refine lv_if_eq (tgt := 127) hx hb dX7_make_118 (by decide) (fun c34 => ?_) (fun c34 => ?_)
              · refine lv_lconst (v := 0) hx hb dX7_make_127 (by decide) ?_
                refine sn_4 (j := 3 * n) S hK hI (by have h60 := n60 hle c29; omega) dX7_make_128 (fun H locs hI => ?_)
                refine lv_iinc (v := 1) (lv' := [(3, .int 1), (0, .ref (ad 1000)), (1, .int k), (2, .int z)]) hx hb dX7_make_129 hl (k := 0) rfl (by decide) (by decide) rfl (fun ls hl => ?_)
                refine lv_goto (tgt := 97) hx hb dX7_make_132 (by decide) ?_
                refine lv_iload_n hx hb dX7_make_97 rfl (lv_at hl 0 rfl) ?_
                refine lv_iconst (v := 3) hx hb dX7_make_98 (by decide) ?_
                refine lv_icmp_ge (tgt := 135) hx hb dX7_make_99 (by decide) (fun c35 => ?_) (fun c35 => ?_)
                · exact absurd c35 (by decide)
                · refine lv_aload_n hx hb dX7_make_102 rfl (lv_at hl 1 rfl) ?_
                  refine gm_19 S hK hI dX7_make_103 ?_
                  refine lv_iconst (v := 3) hx hb dX7_make_106 (by decide) ?_
                  refine lv_aload_n hx hb dX7_make_107 rfl (lv_at hl 1 rfl) ?_
                  refine gm_70 S hK hI dX7_make_108 ?_
                  refine lv_eqi (v := (nI n)) (hn) ?_
                  refine lv_imul hx hb dX7_make_111 ?_
                  refine lv_eqi (v := (nI (3 * n))) (nM (a := 3) (b := n) (c := 3 * n) (by omega)) ?_
                  refine lv_iload_n hx hb dX7_make_112 rfl (lv_at hl 0 rfl) ?_
                  refine lv_iadd hx hb dX7_make_113 ?_
                  refine lv_eqi (v := (nI (3 * n + 1))) (nA (a := 3 * n) (b := 1) (c := 3 * n + 1) (by omega)) ?_
                  refine lv_iload_n hx hb dX7_make_114 rfl (lv_at hl 2 rfl) ?_
                  refine tw_calli (tw_rS (As := [.int k]) (rest := [.int (nI (3 * n + 1)), .ref (ad 1004)]) S hK hI kX7_97 (c_X7_isOfThings l D ad _ _ _) ⟨Nat.le_of_ble_eq_true rfl, Nat.le_of_ble_eq_true rfl⟩ ⟨Nat.le_of_ble_eq_true rfl, Nat.le_of_ble_eq_true rfl⟩ rfl hl.1 rfl (Nat.le_of_ble_eq_true rfl) dX7_make_115) hI (fun H locs hI => ?_)
                  refine lv_topi (fun x36 e36 => ?_)
                  refine lv_if_eq (tgt := 127) hx hb dX7_make_118 (by decide) (fun c37 => ?_) (fun c37 => ?_)
                  · refine lv_lconst (v := 0) hx hb dX7_make_127 (by decide) ?_
                    refine sn_4 (j := 3 * n + 1) S hK hI (by have h60 := n60 hle c29; omega) dX7_make_128 (fun H locs hI => ?_)
                    refine lv_iinc (v := 2) (lv' := [(3, .int 2), (0, .ref (ad 1000)), (1, .int k), (2, .int z)]) hx hb dX7_make_129 hl (k := 0) rfl (by decide) (by decide) rfl (fun ls hl => ?_)
                    refine lv_goto (tgt := 97) hx hb dX7_make_132 (by decide) ?_
                    refine lv_iload_n hx hb dX7_make_97 rfl (lv_at hl 0 rfl) ?_
                    refine lv_iconst (v := 3) hx hb dX7_make_98 (by decide) ?_
                    refine lv_icmp_ge (tgt := 135) hx hb dX7_make_99 (by decide) (fun c38 => ?_) (fun c38 => ?_)
                    · exact absurd c38 (by decide)
                    · refine lv_aload_n hx hb dX7_make_102 rfl (lv_at hl 1 rfl) ?_
                      refine gm_19 S hK hI dX7_make_103 ?_
                      refine lv_iconst (v := 3) hx hb dX7_make_106 (by decide) ?_
                      refine lv_aload_n hx hb dX7_make_107 rfl (lv_at hl 1 rfl) ?_
                      refine gm_70 S hK hI dX7_make_108 ?_
                      refine lv_eqi (v := (nI n)) (hn) ?_
                      refine lv_imul hx hb dX7_make_111 ?_
                      refine lv_eqi (v := (nI (3 * n))) (nM (a := 3) (b := n) (c := 3 * n) (by omega)) ?_
                      refine lv_iload_n hx hb dX7_make_112 rfl (lv_at hl 0 rfl) ?_
                      refine lv_iadd hx hb dX7_make_113 ?_
                      refine lv_eqi (v := (nI (3 * n + 2))) (nA (a := 3 * n) (b := 2) (c := 3 * n + 2) (by omega)) ?_
                      refine lv_iload_n hx hb dX7_make_114 rfl (lv_at hl 2 rfl) ?_
                      refine tw_calli (tw_rS (As := [.int k]) (rest := [.int (nI (3 * n + 2)), .ref (ad 1004)]) S hK hI kX7_97 (c_X7_isOfThings l D ad _ _ _) ⟨Nat.le_of_ble_eq_true rfl, Nat.le_of_ble_eq_true rfl⟩ ⟨Nat.le_of_ble_eq_true rfl, Nat.le_of_ble_eq_true rfl⟩ rfl hl.1 rfl (Nat.le_of_ble_eq_true rfl) dX7_make_115) hI (fun H locs hI => ?_)
                      refine lv_topi (fun x39 e39 => ?_)
                      refine lv_if_eq (tgt := 127) hx hb dX7_make_118 (by decide) (fun c40 => ?_) (fun c40 => ?_)
                      · refine lv_lconst (v := 0) hx hb dX7_make_127 (by decide) ?_
                        refine sn_4 (j := 3 * n + 2) S hK hI (by have h60 := n60 hle c29; omega) dX7_make_128 (fun H locs hI => ?_)
                        refine lv_iinc (v := 3) (lv' := [(3, .int 3), (0, .ref (ad 1000)), (1, .int k), (2, .int z)]) hx hb dX7_make_129 hl (k := 0) rfl (by decide) (by decide) rfl (fun ls hl => ?_)
                        refine lv_goto (tgt := 97) hx hb dX7_make_132 (by decide) ?_
                        refine lv_iload_n hx hb dX7_make_97 rfl (lv_at hl 0 rfl) ?_
                        refine lv_iconst (v := 3) hx hb dX7_make_98 (by decide) ?_
                        refine lv_icmp_ge (tgt := 135) hx hb dX7_make_99 (by decide) (fun c41 => ?_) (fun c41 => ?_)
                        · refine lv_aload_n hx hb dX7_make_135 rfl (lv_at hl 1 rfl) ?_
                          refine lv_dup hx hb dX7_make_136 rfl ?_
                          refine gm_70 S hK hI dX7_make_137 ?_
                          refine lv_eqi (v := (nI n)) (hn) ?_
                          refine lv_iconst (v := 1) hx hb dX7_make_140 (by decide) ?_
                          refine lv_iadd hx hb dX7_make_141 ?_
                          refine lv_eqi (v := (nI (n + 1))) (nA (a := n) (b := 1) (c := n + 1) (by omega)) ?_
                          refine pm_70 S hK hI dX7_make_142 (fun H locs hI => ?_)
                          refine lv_aload_n hx hb dX7_make_145 rfl (lv_at hl 1 rfl) ?_
                          refine gm_70 S hK hI dX7_make_146 ?_
                          refine lv_eqi (v := (nI (n + 1))) (rfl) ?_
                          refine lv_iconst (v := 1) hx hb dX7_make_149 (by decide) ?_
                          refine lv_isub hx hb dX7_make_150 ?_
                          refine lv_eqi (v := (nI n)) (nB (a := n + 1) (b := 1) (c := n) (by omega) (by omega)) ?_
                          subst e39
                          subst e36
                          subst e33
                          subst e30
                          subst e27
                          subst e4
                          subst e1
                          unfold makeM makeB mkS mkC
                          try rw [if_neg c2]
                          try rw [if_pos c5]
                          try rw [if_neg c28]
                          try rw [if_neg c29]
                          try rw [if_pos c5]
                          try rw [if_neg (show ¬ (3 : Int32) ≤ 0 from by decide)]
                          try rw [if_pos c34]
                          try rw [if_neg (show ¬ (3 : Int32) ≤ 1 from by decide)]
                          try rw [if_pos c34]
                          try rw [if_neg (show ¬ (3 : Int32) ≤ 2 from by decide)]
                          try rw [if_pos c34]
                          try rw [if_pos (show (3 : Int32) ≤ 3 from by decide)]
                          exact tw_iret S hr hlocks hI dX7_make_151
                        · exact absurd c41 (by decide)
                      · exact (by subst e39; subst e36; subst e33; subst e30; subst e27; subst e4; subst e1; exact absurd c34 c40)
                  · exact (by subst e36; subst e33; subst e30; subst e27; subst e4; subst e1; exact absurd c34 c37)
              · refine lv_ldc2 (own := RX7) (v := (-1)) hx hb S.2.2.2.1 (S.2.2.2.2 _ (tw_mem (by decide +kernel) rfl)) dX7_make_121 ?_
                refine lv_goto (tgt := 128) hx hb dX7_make_124 (by decide) ?_
                refine sn_4 (j := 3 * n) S hK hI (by have h60 := n60 hle c29; omega) dX7_make_128 (fun H locs hI => ?_)
                refine lv_iinc (v := 1) (lv' := [(3, .int 1), (0, .ref (ad 1000)), (1, .int k), (2, .int z)]) hx hb dX7_make_129 hl (k := 0) rfl (by decide) (by decide) rfl (fun ls hl => ?_)
                refine lv_goto (tgt := 97) hx hb dX7_make_132 (by decide) ?_
                refine lv_iload_n hx hb dX7_make_97 rfl (lv_at hl 0 rfl) ?_
                refine lv_iconst (v := 3) hx hb dX7_make_98 (by decide) ?_
                refine lv_icmp_ge (tgt := 135) hx hb dX7_make_99 (by decide) (fun c42 => ?_) (fun c42 => ?_)
                · exact absurd c42 (by decide)
                · refine lv_aload_n hx hb dX7_make_102 rfl (lv_at hl 1 rfl) ?_
                  refine gm_19 S hK hI dX7_make_103 ?_
                  refine lv_iconst (v := 3) hx hb dX7_make_106 (by decide) ?_
                  refine lv_aload_n hx hb dX7_make_107 rfl (lv_at hl 1 rfl) ?_
                  refine gm_70 S hK hI dX7_make_108 ?_
                  refine lv_eqi (v := (nI n)) (hn) ?_
                  refine lv_imul hx hb dX7_make_111 ?_
                  refine lv_eqi (v := (nI (3 * n))) (nM (a := 3) (b := n) (c := 3 * n) (by omega)) ?_
                  refine lv_iload_n hx hb dX7_make_112 rfl (lv_at hl 0 rfl) ?_
                  refine lv_iadd hx hb dX7_make_113 ?_
                  refine lv_eqi (v := (nI (3 * n + 1))) (nA (a := 3 * n) (b := 1) (c := 3 * n + 1) (by omega)) ?_
                  refine lv_iload_n hx hb dX7_make_114 rfl (lv_at hl 2 rfl) ?_
                  refine tw_calli (tw_rS (As := [.int k]) (rest := [.int (nI (3 * n + 1)), .ref (ad 1004)]) S hK hI kX7_97 (c_X7_isOfThings l D ad _ _ _) ⟨Nat.le_of_ble_eq_true rfl, Nat.le_of_ble_eq_true rfl⟩ ⟨Nat.le_of_ble_eq_true rfl, Nat.le_of_ble_eq_true rfl⟩ rfl hl.1 rfl (Nat.le_of_ble_eq_true rfl) dX7_make_115) hI (fun H locs hI => ?_)
                  refine lv_topi (fun x43 e43 => ?_)
                  refine lv_if_eq (tgt := 127) hx hb dX7_make_118 (by decide) (fun c44 => ?_) (fun c44 => ?_)
                  · exact (by subst e43; subst e33; subst e30; subst e27; subst e4; subst e1; exact absurd c44 c34)
                  · refine lv_ldc2 (own := RX7) (v := (-1)) hx hb S.2.2.2.1 (S.2.2.2.2 _ (tw_mem (by decide +kernel) rfl)) dX7_make_121 ?_
                    refine lv_goto (tgt := 128) hx hb dX7_make_124 (by decide) ?_
                    refine sn_4 (j := 3 * n + 1) S hK hI (by have h60 := n60 hle c29; omega) dX7_make_128 (fun H locs hI => ?_)
                    refine lv_iinc (v := 2) (lv' := [(3, .int 2), (0, .ref (ad 1000)), (1, .int k), (2, .int z)]) hx hb dX7_make_129 hl (k := 0) rfl (by decide) (by decide) rfl (fun ls hl => ?_)
                    refine lv_goto (tgt := 97) hx hb dX7_make_132 (by decide) ?_
                    refine lv_iload_n hx hb dX7_make_97 rfl (lv_at hl 0 rfl) ?_
                    refine lv_iconst (v := 3) hx hb dX7_make_98 (by decide) ?_
                    refine lv_icmp_ge (tgt := 135) hx hb dX7_make_99 (by decide) (fun c45 => ?_) (fun c45 => ?_)
                    · exact absurd c45 (by decide)
                    · refine lv_aload_n hx hb dX7_make_102 rfl (lv_at hl 1 rfl) ?_
                      refine gm_19 S hK hI dX7_make_103 ?_
                      refine lv_iconst (v := 3) hx hb dX7_make_106 (by decide) ?_
                      refine lv_aload_n hx hb dX7_make_107 rfl (lv_at hl 1 rfl) ?_
                      refine gm_70 S hK hI dX7_make_108 ?_
                      refine lv_eqi (v := (nI n)) (hn) ?_
                      refine lv_imul hx hb dX7_make_111 ?_
                      refine lv_eqi (v := (nI (3 * n))) (nM (a := 3) (b := n) (c := 3 * n) (by omega)) ?_
                      refine lv_iload_n hx hb dX7_make_112 rfl (lv_at hl 0 rfl) ?_
                      refine lv_iadd hx hb dX7_make_113 ?_
                      refine lv_eqi (v := (nI (3 * n + 2))) (nA (a := 3 * n) (b := 2) (c := 3 * n + 2) (by omega)) ?_
                      refine lv_iload_n hx hb dX7_make_114 rfl (lv_at hl 2 rfl) ?_
                      refine tw_calli (tw_rS (As := [.int k]) (rest := [.int (nI (3 * n + 2)), .ref (ad 1004)]) S hK hI kX7_97 (c_X7_isOfThings l D ad _ _ _) ⟨Nat.le_of_ble_eq_true rfl, Nat.le_of_ble_eq_true rfl⟩ ⟨Nat.le_of_ble_eq_true rfl, Nat.le_of_ble_eq_true rfl⟩ rfl hl.1 rfl (Nat.le_of_ble_eq_true rfl) dX7_make_115) hI (fun H locs hI => ?_)
                      refine lv_topi (fun x46 e46 => ?_)
                      refine lv_if_eq (tgt := 127) hx hb dX7_make_118 (by decide) (fun c47 => ?_) (fun c47 => ?_)
                      · exact (by subst e46; subst e43; subst e33; subst e30; subst e27; subst e4; subst e1; exact absurd c47 c34)
                      · refine lv_ldc2 (own := RX7) (v := (-1)) hx hb S.2.2.2.1 (S.2.2.2.2 _ (tw_mem (by decide +kernel) rfl)) dX7_make_121 ?_
                        refine lv_goto (tgt := 128) hx hb dX7_make_124 (by decide) ?_
                        refine sn_4 (j := 3 * n + 2) S hK hI (by have h60 := n60 hle c29; omega) dX7_make_128 (fun H locs hI => ?_)
                        refine lv_iinc (v := 3) (lv' := [(3, .int 3), (0, .ref (ad 1000)), (1, .int k), (2, .int z)]) hx hb dX7_make_129 hl (k := 0) rfl (by decide) (by decide) rfl (fun ls hl => ?_)
                        refine lv_goto (tgt := 97) hx hb dX7_make_132 (by decide) ?_
                        refine lv_iload_n hx hb dX7_make_97 rfl (lv_at hl 0 rfl) ?_
                        refine lv_iconst (v := 3) hx hb dX7_make_98 (by decide) ?_
                        refine lv_icmp_ge (tgt := 135) hx hb dX7_make_99 (by decide) (fun c48 => ?_) (fun c48 => ?_)
                        · refine lv_aload_n hx hb dX7_make_135 rfl (lv_at hl 1 rfl) ?_
                          refine lv_dup hx hb dX7_make_136 rfl ?_
                          refine gm_70 S hK hI dX7_make_137 ?_
                          refine lv_eqi (v := (nI n)) (hn) ?_
                          refine lv_iconst (v := 1) hx hb dX7_make_140 (by decide) ?_
                          refine lv_iadd hx hb dX7_make_141 ?_
                          refine lv_eqi (v := (nI (n + 1))) (nA (a := n) (b := 1) (c := n + 1) (by omega)) ?_
                          refine pm_70 S hK hI dX7_make_142 (fun H locs hI => ?_)
                          refine lv_aload_n hx hb dX7_make_145 rfl (lv_at hl 1 rfl) ?_
                          refine gm_70 S hK hI dX7_make_146 ?_
                          refine lv_eqi (v := (nI (n + 1))) (rfl) ?_
                          refine lv_iconst (v := 1) hx hb dX7_make_149 (by decide) ?_
                          refine lv_isub hx hb dX7_make_150 ?_
                          refine lv_eqi (v := (nI n)) (nB (a := n + 1) (b := 1) (c := n) (by omega) (by omega)) ?_
                          subst e46
                          subst e43
                          subst e33
                          subst e30
                          subst e27
                          subst e4
                          subst e1
                          unfold makeM makeB mkS mkC
                          try rw [if_neg c2]
                          try rw [if_pos c5]
                          try rw [if_neg c28]
                          try rw [if_neg c29]
                          try rw [if_pos c5]
                          try rw [if_neg (show ¬ (3 : Int32) ≤ 0 from by decide)]
                          try rw [if_neg c34]
                          try rw [if_neg (show ¬ (3 : Int32) ≤ 1 from by decide)]
                          try rw [if_neg c34]
                          try rw [if_neg (show ¬ (3 : Int32) ≤ 2 from by decide)]
                          try rw [if_neg c34]
                          try rw [if_pos (show (3 : Int32) ≤ 3 from by decide)]
                          exact tw_iret S hr hlocks hI dX7_make_151
                        · exact absurd c48 (by decide)
          · exact (by subst e30; subst e27; subst e4; subst e1; exact absurd c5 c31)
        · refine lv_aload_n hx hb dX7_make_47 rfl (lv_at hl 0 rfl) ?_
          refine lv_bipush (v := (-3)) hx hb dX7_make_48 (by decide) ?_
          refine tw_calli (tw_rV (As := [.int (-3)]) (rest := []) S hK hI kX7_93 (c_X7_refuse l D ad _ _ _ _) (t := 1000) (fs := mRoot _) rfl rfl rfl ⟨Nat.le_of_ble_eq_true rfl, Nat.le_of_ble_eq_true rfl⟩ ⟨Nat.le_of_ble_eq_true rfl, Nat.le_of_ble_eq_true rfl⟩ rfl hl.1 rfl (Nat.le_of_ble_eq_true rfl) dX7_make_50) hI (fun H locs hI => ?_)
          refine lv_topi (fun x49 e49 => ?_)
          subst e49
          subst e27
          subst e4
          subst e1
          unfold makeM makeB mkS mkC
          try rw [if_neg c2]
          try rw [if_pos c5]
          try rw [if_neg c28]
          try rw [if_pos c29]
          exact tw_iret S hr hlocks hI dX7_make_53
      · refine lv_aload_n hx hb dX7_make_31 rfl (lv_at hl 0 rfl) ?_
        refine lv_bipush (v := (-2)) hx hb dX7_make_32 (by decide) ?_
        refine tw_calli (tw_rV (As := [.int (-2)]) (rest := []) S hK hI kX7_93 (c_X7_refuse l D ad _ _ _ _) (t := 1000) (fs := mRoot _) rfl rfl rfl ⟨Nat.le_of_ble_eq_true rfl, Nat.le_of_ble_eq_true rfl⟩ ⟨Nat.le_of_ble_eq_true rfl, Nat.le_of_ble_eq_true rfl⟩ rfl hl.1 rfl (Nat.le_of_ble_eq_true rfl) dX7_make_34) hI (fun H locs hI => ?_)
        refine lv_topi (fun x50 e50 => ?_)
        subst e50
        subst e27
        subst e4
        subst e1
        unfold makeM makeB mkS mkC
        try rw [if_neg c2]
        try rw [if_pos c5]
        try rw [if_pos c28]
        exact tw_iret S hr hlocks hI dX7_make_37

set_option maxHeartbeats 2000000 in
set_option maxRecDepth 100000 in
theorem c_X7_turn (l : Launch) (D : tw_G) (ad : Nat → Nat) (b : tw_W) (σ : Sg) (sz : Nat) (k : Nat) (hok : okM σ) (hk : k < 60) : Met l yX7_turn (tw_w yX7_turn cX7_turn 5 none) (tw_R 0 0 0) (tw_Pc D ad (wM b σ) sz [.ref (ad 1000), .int (nI k)]) (tw_Q D ad (wM b (turnF σ k)) (tw_A ad (wM b σ) sz) none) 0 0 (tw_A ad (wM b σ) sz) := by
  refine tw_met (by decide) rfl (by simp [lg_sl, Value.category]) (fun p e s m below meth c ls S hK hr hlocks hnm hsz hI hl => ?_)
  have hx := S.1
  have hb := S.2.1
  have hl : lv_has ls 5 [(0, .ref (ad 1000)), (1, .int (nI k))] := hl
  obtain ⟨z, hz, ez⟩ := hok.2.1 k hk
  rcases (show z = 0 ∨ z = 1 ∨ z = 2 ∨ z = 3 by omega) with rfl | rfl | rfl | rfl
  · refine lv_iconst (v := 0) hx hb dX7_turn_0 (by decide) ?_
    refine lv_istore_n (lv' := [(2, .int 0), (0, .ref (ad 1000)), (1, .int (nI k))]) hx hb dX7_turn_1 rfl hl (by decide) rfl (fun ls hl => ?_)
    refine lv_iload_n hx hb dX7_turn_2 rfl (lv_at hl 0 rfl) ?_
    refine lv_aload_n hx hb dX7_turn_3 rfl (lv_at hl 1 rfl) ?_
    refine gm_13 S hK hI dX7_turn_4 ?_
    refine lv_iload_n hx hb dX7_turn_7 rfl (lv_at hl 2 rfl) ?_
    refine ln_2 (j := k) S hK hI (by omega) dX7_turn_8 ?_
    refine lv_eqi (v := 0) (ez) ?_
    refine lv_iconst (v := 2) hx hb dX7_turn_9 (by decide) ?_
    refine lv_idiv hx hb dX7_turn_10 (by decide) ?_
    refine lv_eqi (v := 0) (by decide) ?_
    refine lv_icmp_ge (tgt := 80) hx hb dX7_turn_11 (by decide) (fun c1 => ?_) (fun c1 => ?_)
    · unfold turnF
      have q2 : ¬ σ.1 2 k = 2 := by rw [ez]; decide
      have q3 : ¬ σ.1 2 k = 3 := by rw [ez]; decide
      try rw [if_neg q2]
      try rw [if_neg q3]
      try rw [if_pos (show (0 : Int32) ≤ 0 from by decide)]
      exact tw_vret S hr hlocks hI dX7_turn_80
    · exact absurd c1 (by decide)
  · refine lv_iconst (v := 0) hx hb dX7_turn_0 (by decide) ?_
    refine lv_istore_n (lv' := [(2, .int 0), (0, .ref (ad 1000)), (1, .int (nI k))]) hx hb dX7_turn_1 rfl hl (by decide) rfl (fun ls hl => ?_)
    refine lv_iload_n hx hb dX7_turn_2 rfl (lv_at hl 0 rfl) ?_
    refine lv_aload_n hx hb dX7_turn_3 rfl (lv_at hl 1 rfl) ?_
    refine gm_13 S hK hI dX7_turn_4 ?_
    refine lv_iload_n hx hb dX7_turn_7 rfl (lv_at hl 2 rfl) ?_
    refine ln_2 (j := k) S hK hI (by omega) dX7_turn_8 ?_
    refine lv_eqi (v := 1) (ez) ?_
    refine lv_iconst (v := 2) hx hb dX7_turn_9 (by decide) ?_
    refine lv_idiv hx hb dX7_turn_10 (by decide) ?_
    refine lv_eqi (v := 0) (by decide) ?_
    refine lv_icmp_ge (tgt := 80) hx hb dX7_turn_11 (by decide) (fun c2 => ?_) (fun c2 => ?_)
    · unfold turnF
      have q2 : ¬ σ.1 2 k = 2 := by rw [ez]; decide
      have q3 : ¬ σ.1 2 k = 3 := by rw [ez]; decide
      try rw [if_neg q2]
      try rw [if_neg q3]
      try rw [if_pos (show (0 : Int32) ≤ 0 from by decide)]
      exact tw_vret S hr hlocks hI dX7_turn_80
    · exact absurd c2 (by decide)
  · refine lv_iconst (v := 0) hx hb dX7_turn_0 (by decide) ?_
    refine lv_istore_n (lv' := [(2, .int 0), (0, .ref (ad 1000)), (1, .int (nI k))]) hx hb dX7_turn_1 rfl hl (by decide) rfl (fun ls hl => ?_)
    refine lv_iload_n hx hb dX7_turn_2 rfl (lv_at hl 0 rfl) ?_
    refine lv_aload_n hx hb dX7_turn_3 rfl (lv_at hl 1 rfl) ?_
    refine gm_13 S hK hI dX7_turn_4 ?_
    refine lv_iload_n hx hb dX7_turn_7 rfl (lv_at hl 2 rfl) ?_
    refine ln_2 (j := k) S hK hI (by omega) dX7_turn_8 ?_
    refine lv_eqi (v := 2) (ez) ?_
    refine lv_iconst (v := 2) hx hb dX7_turn_9 (by decide) ?_
    refine lv_idiv hx hb dX7_turn_10 (by decide) ?_
    refine lv_eqi (v := 1) (by decide) ?_
    refine lv_icmp_ge (tgt := 80) hx hb dX7_turn_11 (by decide) (fun c3 => ?_) (fun c3 => ?_)
    · exact absurd c3 (by decide)
    · refine lv_aload_n hx hb dX7_turn_14 rfl (lv_at hl 1 rfl) ?_
      refine gm_19 S hK hI dX7_turn_15 ?_
      refine lv_iconst (v := 3) hx hb dX7_turn_18 (by decide) ?_
      refine lv_iload_n hx hb dX7_turn_19 rfl (lv_at hl 2 rfl) ?_
      refine lv_imul hx hb dX7_turn_20 ?_
      refine lv_eqi (v := (nI (3 * k))) (nM (a := 3) (b := k) (c := 3 * k) (by omega)) ?_
      refine lv_iload_n hx hb dX7_turn_21 rfl (lv_at hl 0 rfl) ?_
      refine lv_iadd hx hb dX7_turn_22 ?_
      refine lv_eqi (v := (nI (3 * k))) (nA (a := 3 * k) (b := 0) (c := 3 * k) (by omega)) ?_
      refine ln_4 (j := 3 * k) S hK hI (by omega) dX7_turn_23 ?_
      refine lv_topl (fun x4 e4 => ?_)
      refine lv_lstore_n (lv' := [(3, .long x4), (2, .int 0), (0, .ref (ad 1000)), (1, .int (nI k))]) hx hb dX7_turn_24 rfl hl (by decide) rfl (fun ls hl => ?_)
      refine lv_aload_n hx hb dX7_turn_25 rfl (lv_at hl 2 rfl) ?_
      refine gm_19 S hK hI dX7_turn_26 ?_
      refine lv_iconst (v := 3) hx hb dX7_turn_29 (by decide) ?_
      refine lv_iload_n hx hb dX7_turn_30 rfl (lv_at hl 3 rfl) ?_
      refine lv_imul hx hb dX7_turn_31 ?_
      refine lv_eqi (v := (nI (3 * k))) (nM (a := 3) (b := k) (c := 3 * k) (by omega)) ?_
      refine lv_iload_n hx hb dX7_turn_32 rfl (lv_at hl 1 rfl) ?_
      refine lv_iadd hx hb dX7_turn_33 ?_
      refine lv_eqi (v := (nI (3 * k))) (nA (a := 3 * k) (b := 0) (c := 3 * k) (by omega)) ?_
      refine lv_aload_n hx hb dX7_turn_34 rfl (lv_at hl 2 rfl) ?_
      refine gm_19 S hK hI dX7_turn_35 ?_
      refine lv_iconst (v := 3) hx hb dX7_turn_38 (by decide) ?_
      refine lv_iload_n hx hb dX7_turn_39 rfl (lv_at hl 3 rfl) ?_
      refine lv_imul hx hb dX7_turn_40 ?_
      refine lv_eqi (v := (nI (3 * k))) (nM (a := 3) (b := k) (c := 3 * k) (by omega)) ?_
      refine lv_aload_n hx hb dX7_turn_41 rfl (lv_at hl 2 rfl) ?_
      refine gm_13 S hK hI dX7_turn_42 ?_
      refine lv_iload_n hx hb dX7_turn_45 rfl (lv_at hl 3 rfl) ?_
      refine ln_2 (j := k) S hK hI (by omega) dX7_turn_46 ?_
      refine lv_eqi (v := 2) (ez) ?_
      refine lv_iadd hx hb dX7_turn_47 ?_
      refine lv_eqi (v := (nI (3 * k + 2))) (nA (a := 3 * k) (b := 2) (c := 3 * k + 2) (by omega)) ?_
      refine lv_iconst (v := 1) hx hb dX7_turn_48 (by decide) ?_
      refine lv_isub hx hb dX7_turn_49 ?_
      refine lv_eqi (v := (nI (3 * k + 1))) (nB (a := 3 * k + 2) (b := 1) (c := 3 * k + 1) (by omega) (by omega)) ?_
      refine lv_iload_n hx hb dX7_turn_50 rfl (lv_at hl 1 rfl) ?_
      refine lv_isub hx hb dX7_turn_51 ?_
      refine lv_eqi (v := (nI (3 * k + 1))) (nB (a := 3 * k + 1) (b := 0) (c := 3 * k + 1) (by omega) (by omega)) ?_
      refine ln_4 (j := 3 * k + 1) S hK hI (by omega) dX7_turn_52 ?_
      refine lv_topl (fun x5 e5 => ?_)
      refine sn_4 (j := 3 * k) S hK hI (by omega) dX7_turn_53 (fun H locs hI => ?_)
      refine lv_aload_n hx hb dX7_turn_54 rfl (lv_at hl 2 rfl) ?_
      refine gm_19 S hK hI dX7_turn_55 ?_
      refine lv_iconst (v := 3) hx hb dX7_turn_58 (by decide) ?_
      refine lv_iload_n hx hb dX7_turn_59 rfl (lv_at hl 3 rfl) ?_
      refine lv_imul hx hb dX7_turn_60 ?_
      refine lv_eqi (v := (nI (3 * k))) (nM (a := 3) (b := k) (c := 3 * k) (by omega)) ?_
      refine lv_aload_n hx hb dX7_turn_61 rfl (lv_at hl 2 rfl) ?_
      refine gm_13 S hK hI dX7_turn_62 ?_
      refine lv_iload_n hx hb dX7_turn_65 rfl (lv_at hl 3 rfl) ?_
      refine ln_2 (j := k) S hK hI (by omega) dX7_turn_66 ?_
      refine lv_eqi (v := 2) (ez) ?_
      refine lv_iadd hx hb dX7_turn_67 ?_
      refine lv_eqi (v := (nI (3 * k + 2))) (nA (a := 3 * k) (b := 2) (c := 3 * k + 2) (by omega)) ?_
      refine lv_iconst (v := 1) hx hb dX7_turn_68 (by decide) ?_
      refine lv_isub hx hb dX7_turn_69 ?_
      refine lv_eqi (v := (nI (3 * k + 1))) (nB (a := 3 * k + 2) (b := 1) (c := 3 * k + 1) (by omega) (by omega)) ?_
      refine lv_iload_n hx hb dX7_turn_70 rfl (lv_at hl 1 rfl) ?_
      refine lv_isub hx hb dX7_turn_71 ?_
      refine lv_eqi (v := (nI (3 * k + 1))) (nB (a := 3 * k + 1) (b := 0) (c := 3 * k + 1) (by omega) (by omega)) ?_
      refine lv_lload_n hx hb dX7_turn_72 rfl (lv_at hl 0 rfl) ?_
      refine sn_4 (j := 3 * k + 1) S hK hI (by omega) dX7_turn_73 (fun H locs hI => ?_)
      refine lv_iinc (v := 1) (lv' := [(2, .int 1), (3, .long x4), (0, .ref (ad 1000)), (1, .int (nI k))]) hx hb dX7_turn_74 hl (k := 1) rfl (by decide) (by decide) rfl (fun ls hl => ?_)
      refine lv_goto (tgt := 2) hx hb dX7_turn_77 (by decide) ?_
      refine lv_iload_n hx hb dX7_turn_2 rfl (lv_at hl 0 rfl) ?_
      refine lv_aload_n hx hb dX7_turn_3 rfl (lv_at hl 2 rfl) ?_
      refine gm_13 S hK hI dX7_turn_4 ?_
      refine lv_iload_n hx hb dX7_turn_7 rfl (lv_at hl 3 rfl) ?_
      refine ln_2 (j := k) S hK hI (by omega) dX7_turn_8 ?_
      refine lv_eqi (v := 2) (ez) ?_
      refine lv_iconst (v := 2) hx hb dX7_turn_9 (by decide) ?_
      refine lv_idiv hx hb dX7_turn_10 (by decide) ?_
      refine lv_eqi (v := 1) (by decide) ?_
      refine lv_icmp_ge (tgt := 80) hx hb dX7_turn_11 (by decide) (fun c6 => ?_) (fun c6 => ?_)
      · subst e5
        subst e4
        unfold turnF
        have q2 :  σ.1 2 k = 2 := by rw [ez]; decide
        have q3 : ¬ σ.1 2 k = 3 := by rw [ez]; decide
        try rw [if_pos q2]
        try rw [if_neg q3]
        try rw [if_neg (show ¬ (1 : Int32) ≤ 0 from by decide)]
        try rw [if_pos (show (1 : Int32) ≤ 1 from by decide)]
        exact tw_vret S hr hlocks hI dX7_turn_80
      · exact absurd c6 (by decide)
  · refine lv_iconst (v := 0) hx hb dX7_turn_0 (by decide) ?_
    refine lv_istore_n (lv' := [(2, .int 0), (0, .ref (ad 1000)), (1, .int (nI k))]) hx hb dX7_turn_1 rfl hl (by decide) rfl (fun ls hl => ?_)
    refine lv_iload_n hx hb dX7_turn_2 rfl (lv_at hl 0 rfl) ?_
    refine lv_aload_n hx hb dX7_turn_3 rfl (lv_at hl 1 rfl) ?_
    refine gm_13 S hK hI dX7_turn_4 ?_
    refine lv_iload_n hx hb dX7_turn_7 rfl (lv_at hl 2 rfl) ?_
    refine ln_2 (j := k) S hK hI (by omega) dX7_turn_8 ?_
    refine lv_eqi (v := 3) (ez) ?_
    refine lv_iconst (v := 2) hx hb dX7_turn_9 (by decide) ?_
    refine lv_idiv hx hb dX7_turn_10 (by decide) ?_
    refine lv_eqi (v := 1) (by decide) ?_
    refine lv_icmp_ge (tgt := 80) hx hb dX7_turn_11 (by decide) (fun c7 => ?_) (fun c7 => ?_)
    · exact absurd c7 (by decide)
    · refine lv_aload_n hx hb dX7_turn_14 rfl (lv_at hl 1 rfl) ?_
      refine gm_19 S hK hI dX7_turn_15 ?_
      refine lv_iconst (v := 3) hx hb dX7_turn_18 (by decide) ?_
      refine lv_iload_n hx hb dX7_turn_19 rfl (lv_at hl 2 rfl) ?_
      refine lv_imul hx hb dX7_turn_20 ?_
      refine lv_eqi (v := (nI (3 * k))) (nM (a := 3) (b := k) (c := 3 * k) (by omega)) ?_
      refine lv_iload_n hx hb dX7_turn_21 rfl (lv_at hl 0 rfl) ?_
      refine lv_iadd hx hb dX7_turn_22 ?_
      refine lv_eqi (v := (nI (3 * k))) (nA (a := 3 * k) (b := 0) (c := 3 * k) (by omega)) ?_
      refine ln_4 (j := 3 * k) S hK hI (by omega) dX7_turn_23 ?_
      refine lv_topl (fun x8 e8 => ?_)
      refine lv_lstore_n (lv' := [(3, .long x8), (2, .int 0), (0, .ref (ad 1000)), (1, .int (nI k))]) hx hb dX7_turn_24 rfl hl (by decide) rfl (fun ls hl => ?_)
      refine lv_aload_n hx hb dX7_turn_25 rfl (lv_at hl 2 rfl) ?_
      refine gm_19 S hK hI dX7_turn_26 ?_
      refine lv_iconst (v := 3) hx hb dX7_turn_29 (by decide) ?_
      refine lv_iload_n hx hb dX7_turn_30 rfl (lv_at hl 3 rfl) ?_
      refine lv_imul hx hb dX7_turn_31 ?_
      refine lv_eqi (v := (nI (3 * k))) (nM (a := 3) (b := k) (c := 3 * k) (by omega)) ?_
      refine lv_iload_n hx hb dX7_turn_32 rfl (lv_at hl 1 rfl) ?_
      refine lv_iadd hx hb dX7_turn_33 ?_
      refine lv_eqi (v := (nI (3 * k))) (nA (a := 3 * k) (b := 0) (c := 3 * k) (by omega)) ?_
      refine lv_aload_n hx hb dX7_turn_34 rfl (lv_at hl 2 rfl) ?_
      refine gm_19 S hK hI dX7_turn_35 ?_
      refine lv_iconst (v := 3) hx hb dX7_turn_38 (by decide) ?_
      refine lv_iload_n hx hb dX7_turn_39 rfl (lv_at hl 3 rfl) ?_
      refine lv_imul hx hb dX7_turn_40 ?_
      refine lv_eqi (v := (nI (3 * k))) (nM (a := 3) (b := k) (c := 3 * k) (by omega)) ?_
      refine lv_aload_n hx hb dX7_turn_41 rfl (lv_at hl 2 rfl) ?_
      refine gm_13 S hK hI dX7_turn_42 ?_
      refine lv_iload_n hx hb dX7_turn_45 rfl (lv_at hl 3 rfl) ?_
      refine ln_2 (j := k) S hK hI (by omega) dX7_turn_46 ?_
      refine lv_eqi (v := 3) (ez) ?_
      refine lv_iadd hx hb dX7_turn_47 ?_
      refine lv_eqi (v := (nI (3 * k + 3))) (nA (a := 3 * k) (b := 3) (c := 3 * k + 3) (by omega)) ?_
      refine lv_iconst (v := 1) hx hb dX7_turn_48 (by decide) ?_
      refine lv_isub hx hb dX7_turn_49 ?_
      refine lv_eqi (v := (nI (3 * k + 2))) (nB (a := 3 * k + 3) (b := 1) (c := 3 * k + 2) (by omega) (by omega)) ?_
      refine lv_iload_n hx hb dX7_turn_50 rfl (lv_at hl 1 rfl) ?_
      refine lv_isub hx hb dX7_turn_51 ?_
      refine lv_eqi (v := (nI (3 * k + 2))) (nB (a := 3 * k + 2) (b := 0) (c := 3 * k + 2) (by omega) (by omega)) ?_
      refine ln_4 (j := 3 * k + 2) S hK hI (by omega) dX7_turn_52 ?_
      refine lv_topl (fun x9 e9 => ?_)
      refine sn_4 (j := 3 * k) S hK hI (by omega) dX7_turn_53 (fun H locs hI => ?_)
      refine lv_aload_n hx hb dX7_turn_54 rfl (lv_at hl 2 rfl) ?_
      refine gm_19 S hK hI dX7_turn_55 ?_
      refine lv_iconst (v := 3) hx hb dX7_turn_58 (by decide) ?_
      refine lv_iload_n hx hb dX7_turn_59 rfl (lv_at hl 3 rfl) ?_
      refine lv_imul hx hb dX7_turn_60 ?_
      refine lv_eqi (v := (nI (3 * k))) (nM (a := 3) (b := k) (c := 3 * k) (by omega)) ?_
      refine lv_aload_n hx hb dX7_turn_61 rfl (lv_at hl 2 rfl) ?_
      refine gm_13 S hK hI dX7_turn_62 ?_
      refine lv_iload_n hx hb dX7_turn_65 rfl (lv_at hl 3 rfl) ?_
      refine ln_2 (j := k) S hK hI (by omega) dX7_turn_66 ?_
      refine lv_eqi (v := 3) (ez) ?_
      refine lv_iadd hx hb dX7_turn_67 ?_
      refine lv_eqi (v := (nI (3 * k + 3))) (nA (a := 3 * k) (b := 3) (c := 3 * k + 3) (by omega)) ?_
      refine lv_iconst (v := 1) hx hb dX7_turn_68 (by decide) ?_
      refine lv_isub hx hb dX7_turn_69 ?_
      refine lv_eqi (v := (nI (3 * k + 2))) (nB (a := 3 * k + 3) (b := 1) (c := 3 * k + 2) (by omega) (by omega)) ?_
      refine lv_iload_n hx hb dX7_turn_70 rfl (lv_at hl 1 rfl) ?_
      refine lv_isub hx hb dX7_turn_71 ?_
      refine lv_eqi (v := (nI (3 * k + 2))) (nB (a := 3 * k + 2) (b := 0) (c := 3 * k + 2) (by omega) (by omega)) ?_
      refine lv_lload_n hx hb dX7_turn_72 rfl (lv_at hl 0 rfl) ?_
      refine sn_4 (j := 3 * k + 2) S hK hI (by omega) dX7_turn_73 (fun H locs hI => ?_)
      refine lv_iinc (v := 1) (lv' := [(2, .int 1), (3, .long x8), (0, .ref (ad 1000)), (1, .int (nI k))]) hx hb dX7_turn_74 hl (k := 1) rfl (by decide) (by decide) rfl (fun ls hl => ?_)
      refine lv_goto (tgt := 2) hx hb dX7_turn_77 (by decide) ?_
      refine lv_iload_n hx hb dX7_turn_2 rfl (lv_at hl 0 rfl) ?_
      refine lv_aload_n hx hb dX7_turn_3 rfl (lv_at hl 2 rfl) ?_
      refine gm_13 S hK hI dX7_turn_4 ?_
      refine lv_iload_n hx hb dX7_turn_7 rfl (lv_at hl 3 rfl) ?_
      refine ln_2 (j := k) S hK hI (by omega) dX7_turn_8 ?_
      refine lv_eqi (v := 3) (ez) ?_
      refine lv_iconst (v := 2) hx hb dX7_turn_9 (by decide) ?_
      refine lv_idiv hx hb dX7_turn_10 (by decide) ?_
      refine lv_eqi (v := 1) (by decide) ?_
      refine lv_icmp_ge (tgt := 80) hx hb dX7_turn_11 (by decide) (fun c10 => ?_) (fun c10 => ?_)
      · subst e9
        subst e8
        unfold turnF
        have q2 : ¬ σ.1 2 k = 2 := by rw [ez]; decide
        have q3 :  σ.1 2 k = 3 := by rw [ez]; decide
        try rw [if_neg q2]
        try rw [if_pos q3]
        try rw [if_neg (show ¬ (1 : Int32) ≤ 0 from by decide)]
        try rw [if_pos (show (1 : Int32) ≤ 1 from by decide)]
        exact tw_vret S hr hlocks hI dX7_turn_80
      · exact absurd c10 (by decide)

set_option maxHeartbeats 2000000 in
set_option maxRecDepth 100000 in
theorem c_X7_stampLow (l : Launch) (D : tw_G) (ad : Nat → Nat) (b : tw_W) (σ : Sg) (sz : Nat) (k : Nat) (hok : okM σ) (hk : k < 60) : Met l yX7_stampLow (tw_w yX7_stampLow cX7_stampLow 5 none) (tw_R 2 0 0) (tw_Pc D ad (wM b σ) sz [.ref (ad 1000), .int (nI k)]) (tw_Q D ad (wM b (stampLowF σ k)) (tw_A ad (wM b σ) sz) none) 0 0 (tw_A ad (wM b σ) sz) := by
  refine tw_met (by decide) rfl (by simp [lg_sl, Value.category]) (fun p e s m below meth c ls S hK hr hlocks hnm hsz hI hl => ?_)
  have hx := S.1
  have hb := S.2.1
  have hl : lv_has ls 5 [(0, .ref (ad 1000)), (1, .int (nI k))] := hl
  obtain ⟨κ, eκ⟩ : ∃ κ : Int32, σ.1 1 k = κ := ⟨_, rfl⟩
  obtain ⟨z, hz, ez⟩ := hok.2.1 k hk
  rcases (show z = 0 ∨ z = 1 ∨ z = 2 ∨ z = 3 by omega) with rfl | rfl | rfl | rfl <;> by_cases hN : isNumF κ = 0
  · refine lv_aload_n hx hb dX7_stampLow_0 rfl (lv_at hl 0 rfl) ?_
    refine gm_16 S hK hI dX7_stampLow_1 ?_
    refine lv_iload_n hx hb dX7_stampLow_4 rfl (lv_at hl 1 rfl) ?_
    refine lv_dup2_11 hx hb dX7_stampLow_5 rfl rfl ?_
    refine ln_3 (j := k) S hK hI (by omega) dX7_stampLow_6 ?_
    refine lv_topi (fun x1 e1 => ?_)
    refine lv_aload_n hx hb dX7_stampLow_7 rfl (lv_at hl 0 rfl) ?_
    refine gm_7 S hK hI dX7_stampLow_8 ?_
    refine lv_iload_n hx hb dX7_stampLow_11 rfl (lv_at hl 1 rfl) ?_
    refine ln_1 (j := k) S hK hI (by omega) dX7_stampLow_12 ?_
    refine lv_eqi (v := κ) (eκ) ?_
    refine lv_bipush (v := 6) hx hb dX7_stampLow_13 (by decide) ?_
    refine lv_icmp_ne (tgt := 22) hx hb dX7_stampLow_15 (by decide) (fun c2 => ?_) (fun c2 => ?_)
    · refine lv_aload_n hx hb dX7_stampLow_22 rfl (lv_at hl 0 rfl) ?_
      refine gm_7 S hK hI dX7_stampLow_23 ?_
      refine lv_iload_n hx hb dX7_stampLow_26 rfl (lv_at hl 1 rfl) ?_
      refine ln_1 (j := k) S hK hI (by omega) dX7_stampLow_27 ?_
      refine lv_eqi (v := κ) (eκ) ?_
      refine tw_calli (tw_rS (As := [.int κ]) (rest := [.int x1, .int (nI k), .ref (ad 1003)]) S hK hI kX7_89 (c_X7_isOne l D ad _ _ _) ⟨Nat.le_of_ble_eq_true rfl, Nat.le_of_ble_eq_true rfl⟩ ⟨Nat.le_of_ble_eq_true rfl, Nat.le_of_ble_eq_true rfl⟩ rfl hl.1 rfl (Nat.le_of_ble_eq_true rfl) dX7_stampLow_28) hI (fun H locs hI => ?_)
      refine lv_topi (fun x3 e3 => ?_)
      refine lv_if_eq (tgt := 38) hx hb dX7_stampLow_31 (by decide) (fun c4 => ?_) (fun c4 => ?_)
      · refine lv_iconst (v := 0) hx hb dX7_stampLow_38 (by decide) ?_
        refine lv_iadd hx hb dX7_stampLow_39 ?_
        refine lv_topi (fun x5 e5 => ?_)
        refine sn_3 (j := k) S hK hI (by omega) dX7_stampLow_40 (fun H locs hI => ?_)
        refine lv_iconst (v := 0) hx hb dX7_stampLow_41 (by decide) ?_
        refine lv_istore_n (lv' := [(2, .int 0), (0, .ref (ad 1000)), (1, .int (nI k))]) hx hb dX7_stampLow_42 rfl hl (by decide) rfl (fun ls hl => ?_)
        refine lv_iload_n hx hb dX7_stampLow_43 rfl (lv_at hl 0 rfl) ?_
        refine lv_aload_n hx hb dX7_stampLow_44 rfl (lv_at hl 1 rfl) ?_
        refine gm_13 S hK hI dX7_stampLow_45 ?_
        refine lv_iload_n hx hb dX7_stampLow_48 rfl (lv_at hl 2 rfl) ?_
        refine ln_2 (j := k) S hK hI (by omega) dX7_stampLow_49 ?_
        refine lv_eqi (v := 0) (ez) ?_
        refine lv_icmp_ge (tgt := 120) hx hb dX7_stampLow_50 (by decide) (fun c6 => ?_) (fun c6 => ?_)
        · subst e5
          subst e3
          subst e1
          unfold stampLowF
          unfold addS
          have es : szS σ k = 0 := by unfold szS; rw [ez]; rfl
          rw [es]
          rw [eκ]
          try simp only [bumpN, bump1, bumpF, Nat.add_zero]
          try rw [if_pos hN]
          try rw [if_neg c2]
          try rw [if_pos c4]
          try rw [if_pos (show (0 : Int32) ≤ 0 from by decide)]
          exact tw_vret S hr hlocks hI dX7_stampLow_120
        · exact absurd c6 (by decide)
      · refine lv_iconst (v := 1) hx hb dX7_stampLow_34 (by decide) ?_
        refine lv_goto (tgt := 39) hx hb dX7_stampLow_35 (by decide) ?_
        refine lv_iadd hx hb dX7_stampLow_39 ?_
        refine lv_topi (fun x7 e7 => ?_)
        refine sn_3 (j := k) S hK hI (by omega) dX7_stampLow_40 (fun H locs hI => ?_)
        refine lv_iconst (v := 0) hx hb dX7_stampLow_41 (by decide) ?_
        refine lv_istore_n (lv' := [(2, .int 0), (0, .ref (ad 1000)), (1, .int (nI k))]) hx hb dX7_stampLow_42 rfl hl (by decide) rfl (fun ls hl => ?_)
        refine lv_iload_n hx hb dX7_stampLow_43 rfl (lv_at hl 0 rfl) ?_
        refine lv_aload_n hx hb dX7_stampLow_44 rfl (lv_at hl 1 rfl) ?_
        refine gm_13 S hK hI dX7_stampLow_45 ?_
        refine lv_iload_n hx hb dX7_stampLow_48 rfl (lv_at hl 2 rfl) ?_
        refine ln_2 (j := k) S hK hI (by omega) dX7_stampLow_49 ?_
        refine lv_eqi (v := 0) (ez) ?_
        refine lv_icmp_ge (tgt := 120) hx hb dX7_stampLow_50 (by decide) (fun c8 => ?_) (fun c8 => ?_)
        · subst e7
          subst e3
          subst e1
          unfold stampLowF
          unfold addS
          have es : szS σ k = 0 := by unfold szS; rw [ez]; rfl
          rw [es]
          rw [eκ]
          try simp only [bumpN, bump1, bumpF, Nat.add_zero]
          try rw [if_pos hN]
          try rw [if_neg c2]
          try rw [if_neg c4]
          try rw [if_pos (show (0 : Int32) ≤ 0 from by decide)]
          exact tw_vret S hr hlocks hI dX7_stampLow_120
        · exact absurd c8 (by decide)
    · refine lv_iconst (v := 2) hx hb dX7_stampLow_18 (by decide) ?_
      refine lv_goto (tgt := 39) hx hb dX7_stampLow_19 (by decide) ?_
      refine lv_iadd hx hb dX7_stampLow_39 ?_
      refine lv_topi (fun x9 e9 => ?_)
      refine sn_3 (j := k) S hK hI (by omega) dX7_stampLow_40 (fun H locs hI => ?_)
      refine lv_iconst (v := 0) hx hb dX7_stampLow_41 (by decide) ?_
      refine lv_istore_n (lv' := [(2, .int 0), (0, .ref (ad 1000)), (1, .int (nI k))]) hx hb dX7_stampLow_42 rfl hl (by decide) rfl (fun ls hl => ?_)
      refine lv_iload_n hx hb dX7_stampLow_43 rfl (lv_at hl 0 rfl) ?_
      refine lv_aload_n hx hb dX7_stampLow_44 rfl (lv_at hl 1 rfl) ?_
      refine gm_13 S hK hI dX7_stampLow_45 ?_
      refine lv_iload_n hx hb dX7_stampLow_48 rfl (lv_at hl 2 rfl) ?_
      refine ln_2 (j := k) S hK hI (by omega) dX7_stampLow_49 ?_
      refine lv_eqi (v := 0) (ez) ?_
      refine lv_icmp_ge (tgt := 120) hx hb dX7_stampLow_50 (by decide) (fun c10 => ?_) (fun c10 => ?_)
      · subst e9
        subst e1
        unfold stampLowF
        unfold addS
        have es : szS σ k = 0 := by unfold szS; rw [ez]; rfl
        rw [es]
        rw [eκ]
        try simp only [bumpN, bump1, bumpF, Nat.add_zero]
        try rw [if_pos hN]
        try rw [if_pos c2]
        try rw [if_pos (show (0 : Int32) ≤ 0 from by decide)]
        exact tw_vret S hr hlocks hI dX7_stampLow_120
      · exact absurd c10 (by decide)
  · refine lv_aload_n hx hb dX7_stampLow_0 rfl (lv_at hl 0 rfl) ?_
    refine gm_16 S hK hI dX7_stampLow_1 ?_
    refine lv_iload_n hx hb dX7_stampLow_4 rfl (lv_at hl 1 rfl) ?_
    refine lv_dup2_11 hx hb dX7_stampLow_5 rfl rfl ?_
    refine ln_3 (j := k) S hK hI (by omega) dX7_stampLow_6 ?_
    refine lv_topi (fun x11 e11 => ?_)
    refine lv_aload_n hx hb dX7_stampLow_7 rfl (lv_at hl 0 rfl) ?_
    refine gm_7 S hK hI dX7_stampLow_8 ?_
    refine lv_iload_n hx hb dX7_stampLow_11 rfl (lv_at hl 1 rfl) ?_
    refine ln_1 (j := k) S hK hI (by omega) dX7_stampLow_12 ?_
    refine lv_eqi (v := κ) (eκ) ?_
    refine lv_bipush (v := 6) hx hb dX7_stampLow_13 (by decide) ?_
    refine lv_icmp_ne (tgt := 22) hx hb dX7_stampLow_15 (by decide) (fun c12 => ?_) (fun c12 => ?_)
    · refine lv_aload_n hx hb dX7_stampLow_22 rfl (lv_at hl 0 rfl) ?_
      refine gm_7 S hK hI dX7_stampLow_23 ?_
      refine lv_iload_n hx hb dX7_stampLow_26 rfl (lv_at hl 1 rfl) ?_
      refine ln_1 (j := k) S hK hI (by omega) dX7_stampLow_27 ?_
      refine lv_eqi (v := κ) (eκ) ?_
      refine tw_calli (tw_rS (As := [.int κ]) (rest := [.int x11, .int (nI k), .ref (ad 1003)]) S hK hI kX7_89 (c_X7_isOne l D ad _ _ _) ⟨Nat.le_of_ble_eq_true rfl, Nat.le_of_ble_eq_true rfl⟩ ⟨Nat.le_of_ble_eq_true rfl, Nat.le_of_ble_eq_true rfl⟩ rfl hl.1 rfl (Nat.le_of_ble_eq_true rfl) dX7_stampLow_28) hI (fun H locs hI => ?_)
      refine lv_topi (fun x13 e13 => ?_)
      refine lv_if_eq (tgt := 38) hx hb dX7_stampLow_31 (by decide) (fun c14 => ?_) (fun c14 => ?_)
      · refine lv_iconst (v := 0) hx hb dX7_stampLow_38 (by decide) ?_
        refine lv_iadd hx hb dX7_stampLow_39 ?_
        refine lv_topi (fun x15 e15 => ?_)
        refine sn_3 (j := k) S hK hI (by omega) dX7_stampLow_40 (fun H locs hI => ?_)
        refine lv_iconst (v := 0) hx hb dX7_stampLow_41 (by decide) ?_
        refine lv_istore_n (lv' := [(2, .int 0), (0, .ref (ad 1000)), (1, .int (nI k))]) hx hb dX7_stampLow_42 rfl hl (by decide) rfl (fun ls hl => ?_)
        refine lv_iload_n hx hb dX7_stampLow_43 rfl (lv_at hl 0 rfl) ?_
        refine lv_aload_n hx hb dX7_stampLow_44 rfl (lv_at hl 1 rfl) ?_
        refine gm_13 S hK hI dX7_stampLow_45 ?_
        refine lv_iload_n hx hb dX7_stampLow_48 rfl (lv_at hl 2 rfl) ?_
        refine ln_2 (j := k) S hK hI (by omega) dX7_stampLow_49 ?_
        refine lv_eqi (v := 0) (ez) ?_
        refine lv_icmp_ge (tgt := 120) hx hb dX7_stampLow_50 (by decide) (fun c16 => ?_) (fun c16 => ?_)
        · subst e15
          subst e13
          subst e11
          unfold stampLowF
          unfold addS
          have es : szS σ k = 0 := by unfold szS; rw [ez]; rfl
          rw [es]
          rw [eκ]
          try simp only [bumpN, bump1, bumpF, Nat.add_zero]
          try rw [if_neg hN]
          try rw [if_neg c12]
          try rw [if_pos c14]
          try rw [if_pos (show (0 : Int32) ≤ 0 from by decide)]
          exact tw_vret S hr hlocks hI dX7_stampLow_120
        · exact absurd c16 (by decide)
      · refine lv_iconst (v := 1) hx hb dX7_stampLow_34 (by decide) ?_
        refine lv_goto (tgt := 39) hx hb dX7_stampLow_35 (by decide) ?_
        refine lv_iadd hx hb dX7_stampLow_39 ?_
        refine lv_topi (fun x17 e17 => ?_)
        refine sn_3 (j := k) S hK hI (by omega) dX7_stampLow_40 (fun H locs hI => ?_)
        refine lv_iconst (v := 0) hx hb dX7_stampLow_41 (by decide) ?_
        refine lv_istore_n (lv' := [(2, .int 0), (0, .ref (ad 1000)), (1, .int (nI k))]) hx hb dX7_stampLow_42 rfl hl (by decide) rfl (fun ls hl => ?_)
        refine lv_iload_n hx hb dX7_stampLow_43 rfl (lv_at hl 0 rfl) ?_
        refine lv_aload_n hx hb dX7_stampLow_44 rfl (lv_at hl 1 rfl) ?_
        refine gm_13 S hK hI dX7_stampLow_45 ?_
        refine lv_iload_n hx hb dX7_stampLow_48 rfl (lv_at hl 2 rfl) ?_
        refine ln_2 (j := k) S hK hI (by omega) dX7_stampLow_49 ?_
        refine lv_eqi (v := 0) (ez) ?_
        refine lv_icmp_ge (tgt := 120) hx hb dX7_stampLow_50 (by decide) (fun c18 => ?_) (fun c18 => ?_)
        · subst e17
          subst e13
          subst e11
          unfold stampLowF
          unfold addS
          have es : szS σ k = 0 := by unfold szS; rw [ez]; rfl
          rw [es]
          rw [eκ]
          try simp only [bumpN, bump1, bumpF, Nat.add_zero]
          try rw [if_neg hN]
          try rw [if_neg c12]
          try rw [if_neg c14]
          try rw [if_pos (show (0 : Int32) ≤ 0 from by decide)]
          exact tw_vret S hr hlocks hI dX7_stampLow_120
        · exact absurd c18 (by decide)
    · refine lv_iconst (v := 2) hx hb dX7_stampLow_18 (by decide) ?_
      refine lv_goto (tgt := 39) hx hb dX7_stampLow_19 (by decide) ?_
      refine lv_iadd hx hb dX7_stampLow_39 ?_
      refine lv_topi (fun x19 e19 => ?_)
      refine sn_3 (j := k) S hK hI (by omega) dX7_stampLow_40 (fun H locs hI => ?_)
      refine lv_iconst (v := 0) hx hb dX7_stampLow_41 (by decide) ?_
      refine lv_istore_n (lv' := [(2, .int 0), (0, .ref (ad 1000)), (1, .int (nI k))]) hx hb dX7_stampLow_42 rfl hl (by decide) rfl (fun ls hl => ?_)
      refine lv_iload_n hx hb dX7_stampLow_43 rfl (lv_at hl 0 rfl) ?_
      refine lv_aload_n hx hb dX7_stampLow_44 rfl (lv_at hl 1 rfl) ?_
      refine gm_13 S hK hI dX7_stampLow_45 ?_
      refine lv_iload_n hx hb dX7_stampLow_48 rfl (lv_at hl 2 rfl) ?_
      refine ln_2 (j := k) S hK hI (by omega) dX7_stampLow_49 ?_
      refine lv_eqi (v := 0) (ez) ?_
      refine lv_icmp_ge (tgt := 120) hx hb dX7_stampLow_50 (by decide) (fun c20 => ?_) (fun c20 => ?_)
      · subst e19
        subst e11
        unfold stampLowF
        unfold addS
        have es : szS σ k = 0 := by unfold szS; rw [ez]; rfl
        rw [es]
        rw [eκ]
        try simp only [bumpN, bump1, bumpF, Nat.add_zero]
        try rw [if_neg hN]
        try rw [if_pos c12]
        try rw [if_pos (show (0 : Int32) ≤ 0 from by decide)]
        exact tw_vret S hr hlocks hI dX7_stampLow_120
      · exact absurd c20 (by decide)
  · refine lv_aload_n hx hb dX7_stampLow_0 rfl (lv_at hl 0 rfl) ?_
    refine gm_16 S hK hI dX7_stampLow_1 ?_
    refine lv_iload_n hx hb dX7_stampLow_4 rfl (lv_at hl 1 rfl) ?_
    refine lv_dup2_11 hx hb dX7_stampLow_5 rfl rfl ?_
    refine ln_3 (j := k) S hK hI (by omega) dX7_stampLow_6 ?_
    refine lv_topi (fun x21 e21 => ?_)
    refine lv_aload_n hx hb dX7_stampLow_7 rfl (lv_at hl 0 rfl) ?_
    refine gm_7 S hK hI dX7_stampLow_8 ?_
    refine lv_iload_n hx hb dX7_stampLow_11 rfl (lv_at hl 1 rfl) ?_
    refine ln_1 (j := k) S hK hI (by omega) dX7_stampLow_12 ?_
    refine lv_eqi (v := κ) (eκ) ?_
    refine lv_bipush (v := 6) hx hb dX7_stampLow_13 (by decide) ?_
    refine lv_icmp_ne (tgt := 22) hx hb dX7_stampLow_15 (by decide) (fun c22 => ?_) (fun c22 => ?_)
    · refine lv_aload_n hx hb dX7_stampLow_22 rfl (lv_at hl 0 rfl) ?_
      refine gm_7 S hK hI dX7_stampLow_23 ?_
      refine lv_iload_n hx hb dX7_stampLow_26 rfl (lv_at hl 1 rfl) ?_
      refine ln_1 (j := k) S hK hI (by omega) dX7_stampLow_27 ?_
      refine lv_eqi (v := κ) (eκ) ?_
      refine tw_calli (tw_rS (As := [.int κ]) (rest := [.int x21, .int (nI k), .ref (ad 1003)]) S hK hI kX7_89 (c_X7_isOne l D ad _ _ _) ⟨Nat.le_of_ble_eq_true rfl, Nat.le_of_ble_eq_true rfl⟩ ⟨Nat.le_of_ble_eq_true rfl, Nat.le_of_ble_eq_true rfl⟩ rfl hl.1 rfl (Nat.le_of_ble_eq_true rfl) dX7_stampLow_28) hI (fun H locs hI => ?_)
      refine lv_topi (fun x23 e23 => ?_)
      refine lv_if_eq (tgt := 38) hx hb dX7_stampLow_31 (by decide) (fun c24 => ?_) (fun c24 => ?_)
      · refine lv_iconst (v := 0) hx hb dX7_stampLow_38 (by decide) ?_
        refine lv_iadd hx hb dX7_stampLow_39 ?_
        refine lv_topi (fun x25 e25 => ?_)
        refine sn_3 (j := k) S hK hI (by omega) dX7_stampLow_40 (fun H locs hI => ?_)
        refine lv_iconst (v := 0) hx hb dX7_stampLow_41 (by decide) ?_
        refine lv_istore_n (lv' := [(2, .int 0), (0, .ref (ad 1000)), (1, .int (nI k))]) hx hb dX7_stampLow_42 rfl hl (by decide) rfl (fun ls hl => ?_)
        refine lv_iload_n hx hb dX7_stampLow_43 rfl (lv_at hl 0 rfl) ?_
        refine lv_aload_n hx hb dX7_stampLow_44 rfl (lv_at hl 1 rfl) ?_
        refine gm_13 S hK hI dX7_stampLow_45 ?_
        refine lv_iload_n hx hb dX7_stampLow_48 rfl (lv_at hl 2 rfl) ?_
        refine ln_2 (j := k) S hK hI (by omega) dX7_stampLow_49 ?_
        refine lv_eqi (v := 1) (ez) ?_
        refine lv_icmp_ge (tgt := 120) hx hb dX7_stampLow_50 (by decide) (fun c26 => ?_) (fun c26 => ?_)
        · exact absurd c26 (by decide)
        · refine lv_aload_n hx hb dX7_stampLow_53 rfl (lv_at hl 1 rfl) ?_
          refine gm_7 S hK hI dX7_stampLow_54 ?_
          refine lv_iload_n hx hb dX7_stampLow_57 rfl (lv_at hl 2 rfl) ?_
          refine ln_1 (j := k) S hK hI (by omega) dX7_stampLow_58 ?_
          refine lv_eqi (v := κ) (eκ) ?_
          refine tw_calli (tw_rS (As := [.int κ]) (rest := []) S hK hI kX7_107 (c_X7_isOfNumbers l D ad _ _ _) ⟨Nat.le_of_ble_eq_true rfl, Nat.le_of_ble_eq_true rfl⟩ ⟨Nat.le_of_ble_eq_true rfl, Nat.le_of_ble_eq_true rfl⟩ rfl hl.1 rfl (Nat.le_of_ble_eq_true rfl) dX7_stampLow_59) hI (fun H locs hI => ?_)
          refine lv_topi (fun x27 e27 => ?_)
          refine lv_if_eq (tgt := 120) hx hb dX7_stampLow_62 (by decide) (fun c28 => ?_) (fun c28 => ?_)
          · subst e27
            subst e25
            subst e23
            subst e21
            unfold stampLowF
            unfold addS
            have es : szS σ k = 1 := by unfold szS; rw [ez]; rfl
            rw [es]
            rw [eκ]
            try simp only [bumpN, bump1, bumpF, Nat.add_zero]
            try rw [if_pos hN]
            try rw [if_neg c22]
            try rw [if_pos c24]
            try rw [if_neg (show ¬ (1 : Int32) ≤ 0 from by decide)]
            try rw [if_pos hN]
            exact tw_vret S hr hlocks hI dX7_stampLow_120
          · exact (by subst e27; subst e25; subst e23; subst e21; exact absurd hN c28)
      · refine lv_iconst (v := 1) hx hb dX7_stampLow_34 (by decide) ?_
        refine lv_goto (tgt := 39) hx hb dX7_stampLow_35 (by decide) ?_
        refine lv_iadd hx hb dX7_stampLow_39 ?_
        refine lv_topi (fun x29 e29 => ?_)
        refine sn_3 (j := k) S hK hI (by omega) dX7_stampLow_40 (fun H locs hI => ?_)
        refine lv_iconst (v := 0) hx hb dX7_stampLow_41 (by decide) ?_
        refine lv_istore_n (lv' := [(2, .int 0), (0, .ref (ad 1000)), (1, .int (nI k))]) hx hb dX7_stampLow_42 rfl hl (by decide) rfl (fun ls hl => ?_)
        refine lv_iload_n hx hb dX7_stampLow_43 rfl (lv_at hl 0 rfl) ?_
        refine lv_aload_n hx hb dX7_stampLow_44 rfl (lv_at hl 1 rfl) ?_
        refine gm_13 S hK hI dX7_stampLow_45 ?_
        refine lv_iload_n hx hb dX7_stampLow_48 rfl (lv_at hl 2 rfl) ?_
        refine ln_2 (j := k) S hK hI (by omega) dX7_stampLow_49 ?_
        refine lv_eqi (v := 1) (ez) ?_
        refine lv_icmp_ge (tgt := 120) hx hb dX7_stampLow_50 (by decide) (fun c30 => ?_) (fun c30 => ?_)
        · exact absurd c30 (by decide)
        · refine lv_aload_n hx hb dX7_stampLow_53 rfl (lv_at hl 1 rfl) ?_
          refine gm_7 S hK hI dX7_stampLow_54 ?_
          refine lv_iload_n hx hb dX7_stampLow_57 rfl (lv_at hl 2 rfl) ?_
          refine ln_1 (j := k) S hK hI (by omega) dX7_stampLow_58 ?_
          refine lv_eqi (v := κ) (eκ) ?_
          refine tw_calli (tw_rS (As := [.int κ]) (rest := []) S hK hI kX7_107 (c_X7_isOfNumbers l D ad _ _ _) ⟨Nat.le_of_ble_eq_true rfl, Nat.le_of_ble_eq_true rfl⟩ ⟨Nat.le_of_ble_eq_true rfl, Nat.le_of_ble_eq_true rfl⟩ rfl hl.1 rfl (Nat.le_of_ble_eq_true rfl) dX7_stampLow_59) hI (fun H locs hI => ?_)
          refine lv_topi (fun x31 e31 => ?_)
          refine lv_if_eq (tgt := 120) hx hb dX7_stampLow_62 (by decide) (fun c32 => ?_) (fun c32 => ?_)
          · subst e31
            subst e29
            subst e23
            subst e21
            unfold stampLowF
            unfold addS
            have es : szS σ k = 1 := by unfold szS; rw [ez]; rfl
            rw [es]
            rw [eκ]
            try simp only [bumpN, bump1, bumpF, Nat.add_zero]
            try rw [if_pos hN]
            try rw [if_neg c22]
            try rw [if_neg c24]
            try rw [if_neg (show ¬ (1 : Int32) ≤ 0 from by decide)]
            try rw [if_pos hN]
            exact tw_vret S hr hlocks hI dX7_stampLow_120
          · exact (by subst e31; subst e29; subst e23; subst e21; exact absurd hN c32)
    · refine lv_iconst (v := 2) hx hb dX7_stampLow_18 (by decide) ?_
      refine lv_goto (tgt := 39) hx hb dX7_stampLow_19 (by decide) ?_
      refine lv_iadd hx hb dX7_stampLow_39 ?_
      refine lv_topi (fun x33 e33 => ?_)
      refine sn_3 (j := k) S hK hI (by omega) dX7_stampLow_40 (fun H locs hI => ?_)
      refine lv_iconst (v := 0) hx hb dX7_stampLow_41 (by decide) ?_
      refine lv_istore_n (lv' := [(2, .int 0), (0, .ref (ad 1000)), (1, .int (nI k))]) hx hb dX7_stampLow_42 rfl hl (by decide) rfl (fun ls hl => ?_)
      refine lv_iload_n hx hb dX7_stampLow_43 rfl (lv_at hl 0 rfl) ?_
      refine lv_aload_n hx hb dX7_stampLow_44 rfl (lv_at hl 1 rfl) ?_
      refine gm_13 S hK hI dX7_stampLow_45 ?_
      refine lv_iload_n hx hb dX7_stampLow_48 rfl (lv_at hl 2 rfl) ?_
      refine ln_2 (j := k) S hK hI (by omega) dX7_stampLow_49 ?_
      refine lv_eqi (v := 1) (ez) ?_
      refine lv_icmp_ge (tgt := 120) hx hb dX7_stampLow_50 (by decide) (fun c34 => ?_) (fun c34 => ?_)
      · exact absurd c34 (by decide)
      · refine lv_aload_n hx hb dX7_stampLow_53 rfl (lv_at hl 1 rfl) ?_
        refine gm_7 S hK hI dX7_stampLow_54 ?_
        refine lv_iload_n hx hb dX7_stampLow_57 rfl (lv_at hl 2 rfl) ?_
        refine ln_1 (j := k) S hK hI (by omega) dX7_stampLow_58 ?_
        refine lv_eqi (v := κ) (eκ) ?_
        refine tw_calli (tw_rS (As := [.int κ]) (rest := []) S hK hI kX7_107 (c_X7_isOfNumbers l D ad _ _ _) ⟨Nat.le_of_ble_eq_true rfl, Nat.le_of_ble_eq_true rfl⟩ ⟨Nat.le_of_ble_eq_true rfl, Nat.le_of_ble_eq_true rfl⟩ rfl hl.1 rfl (Nat.le_of_ble_eq_true rfl) dX7_stampLow_59) hI (fun H locs hI => ?_)
        refine lv_topi (fun x35 e35 => ?_)
        refine lv_if_eq (tgt := 120) hx hb dX7_stampLow_62 (by decide) (fun c36 => ?_) (fun c36 => ?_)
        · subst e35
          subst e33
          subst e21
          unfold stampLowF
          unfold addS
          have es : szS σ k = 1 := by unfold szS; rw [ez]; rfl
          rw [es]
          rw [eκ]
          try simp only [bumpN, bump1, bumpF, Nat.add_zero]
          try rw [if_pos hN]
          try rw [if_pos c22]
          try rw [if_neg (show ¬ (1 : Int32) ≤ 0 from by decide)]
          try rw [if_pos hN]
          exact tw_vret S hr hlocks hI dX7_stampLow_120
        · exact (by subst e35; subst e33; subst e21; exact absurd hN c36)
  · refine lv_aload_n hx hb dX7_stampLow_0 rfl (lv_at hl 0 rfl) ?_
    refine gm_16 S hK hI dX7_stampLow_1 ?_
    refine lv_iload_n hx hb dX7_stampLow_4 rfl (lv_at hl 1 rfl) ?_
    refine lv_dup2_11 hx hb dX7_stampLow_5 rfl rfl ?_
    refine ln_3 (j := k) S hK hI (by omega) dX7_stampLow_6 ?_
    refine lv_topi (fun x37 e37 => ?_)
    refine lv_aload_n hx hb dX7_stampLow_7 rfl (lv_at hl 0 rfl) ?_
    refine gm_7 S hK hI dX7_stampLow_8 ?_
    refine lv_iload_n hx hb dX7_stampLow_11 rfl (lv_at hl 1 rfl) ?_
    refine ln_1 (j := k) S hK hI (by omega) dX7_stampLow_12 ?_
    refine lv_eqi (v := κ) (eκ) ?_
    refine lv_bipush (v := 6) hx hb dX7_stampLow_13 (by decide) ?_
    refine lv_icmp_ne (tgt := 22) hx hb dX7_stampLow_15 (by decide) (fun c38 => ?_) (fun c38 => ?_)
    · refine lv_aload_n hx hb dX7_stampLow_22 rfl (lv_at hl 0 rfl) ?_
      refine gm_7 S hK hI dX7_stampLow_23 ?_
      refine lv_iload_n hx hb dX7_stampLow_26 rfl (lv_at hl 1 rfl) ?_
      refine ln_1 (j := k) S hK hI (by omega) dX7_stampLow_27 ?_
      refine lv_eqi (v := κ) (eκ) ?_
      refine tw_calli (tw_rS (As := [.int κ]) (rest := [.int x37, .int (nI k), .ref (ad 1003)]) S hK hI kX7_89 (c_X7_isOne l D ad _ _ _) ⟨Nat.le_of_ble_eq_true rfl, Nat.le_of_ble_eq_true rfl⟩ ⟨Nat.le_of_ble_eq_true rfl, Nat.le_of_ble_eq_true rfl⟩ rfl hl.1 rfl (Nat.le_of_ble_eq_true rfl) dX7_stampLow_28) hI (fun H locs hI => ?_)
      refine lv_topi (fun x39 e39 => ?_)
      refine lv_if_eq (tgt := 38) hx hb dX7_stampLow_31 (by decide) (fun c40 => ?_) (fun c40 => ?_)
      · refine lv_iconst (v := 0) hx hb dX7_stampLow_38 (by decide) ?_
        refine lv_iadd hx hb dX7_stampLow_39 ?_
        refine lv_topi (fun x41 e41 => ?_)
        refine sn_3 (j := k) S hK hI (by omega) dX7_stampLow_40 (fun H locs hI => ?_)
        refine lv_iconst (v := 0) hx hb dX7_stampLow_41 (by decide) ?_
        refine lv_istore_n (lv' := [(2, .int 0), (0, .ref (ad 1000)), (1, .int (nI k))]) hx hb dX7_stampLow_42 rfl hl (by decide) rfl (fun ls hl => ?_)
        refine lv_iload_n hx hb dX7_stampLow_43 rfl (lv_at hl 0 rfl) ?_
        refine lv_aload_n hx hb dX7_stampLow_44 rfl (lv_at hl 1 rfl) ?_
        refine gm_13 S hK hI dX7_stampLow_45 ?_
        refine lv_iload_n hx hb dX7_stampLow_48 rfl (lv_at hl 2 rfl) ?_
        refine ln_2 (j := k) S hK hI (by omega) dX7_stampLow_49 ?_
        refine lv_eqi (v := 1) (ez) ?_
        refine lv_icmp_ge (tgt := 120) hx hb dX7_stampLow_50 (by decide) (fun c42 => ?_) (fun c42 => ?_)
        · exact absurd c42 (by decide)
        · refine lv_aload_n hx hb dX7_stampLow_53 rfl (lv_at hl 1 rfl) ?_
          refine gm_7 S hK hI dX7_stampLow_54 ?_
          refine lv_iload_n hx hb dX7_stampLow_57 rfl (lv_at hl 2 rfl) ?_
          refine ln_1 (j := k) S hK hI (by omega) dX7_stampLow_58 ?_
          refine lv_eqi (v := κ) (eκ) ?_
          refine tw_calli (tw_rS (As := [.int κ]) (rest := []) S hK hI kX7_107 (c_X7_isOfNumbers l D ad _ _ _) ⟨Nat.le_of_ble_eq_true rfl, Nat.le_of_ble_eq_true rfl⟩ ⟨Nat.le_of_ble_eq_true rfl, Nat.le_of_ble_eq_true rfl⟩ rfl hl.1 rfl (Nat.le_of_ble_eq_true rfl) dX7_stampLow_59) hI (fun H locs hI => ?_)
          refine lv_topi (fun x43 e43 => ?_)
          refine lv_if_eq (tgt := 120) hx hb dX7_stampLow_62 (by decide) (fun c44 => ?_) (fun c44 => ?_)
          · exact (by subst e43; subst e41; subst e39; subst e37; exact absurd c44 hN)
          · refine lv_aload_n hx hb dX7_stampLow_65 rfl (lv_at hl 1 rfl) ?_
            refine gm_19 S hK hI dX7_stampLow_66 ?_
            refine lv_iconst (v := 3) hx hb dX7_stampLow_69 (by decide) ?_
            refine lv_iload_n hx hb dX7_stampLow_70 rfl (lv_at hl 2 rfl) ?_
            refine lv_imul hx hb dX7_stampLow_71 ?_
            refine lv_eqi (v := (nI (3 * k))) (nM (a := 3) (b := k) (c := 3 * k) (by omega)) ?_
            refine lv_iload_n hx hb dX7_stampLow_72 rfl (lv_at hl 0 rfl) ?_
            refine lv_iadd hx hb dX7_stampLow_73 ?_
            refine lv_eqi (v := (nI (3 * k))) (nA (a := 3 * k) (b := 0) (c := 3 * k) (by omega)) ?_
            refine ln_4 (j := 3 * k) S hK hI (by omega) dX7_stampLow_74 ?_
            refine lv_topl (fun x45 e45 => ?_)
            refine lv_lstore_n (lv' := [(3, .long x45), (2, .int 0), (0, .ref (ad 1000)), (1, .int (nI k))]) hx hb dX7_stampLow_75 rfl hl (by decide) rfl (fun ls hl => ?_)
            refine lv_aload_n hx hb dX7_stampLow_76 rfl (lv_at hl 2 rfl) ?_
            refine gm_19 S hK hI dX7_stampLow_77 ?_
            refine lv_iconst (v := 3) hx hb dX7_stampLow_80 (by decide) ?_
            refine lv_iload_n hx hb dX7_stampLow_81 rfl (lv_at hl 3 rfl) ?_
            refine lv_imul hx hb dX7_stampLow_82 ?_
            refine lv_eqi (v := (nI (3 * k))) (nM (a := 3) (b := k) (c := 3 * k) (by omega)) ?_
            refine lv_iload_n hx hb dX7_stampLow_83 rfl (lv_at hl 1 rfl) ?_
            refine lv_iadd hx hb dX7_stampLow_84 ?_
            refine lv_eqi (v := (nI (3 * k))) (nA (a := 3 * k) (b := 0) (c := 3 * k) (by omega)) ?_
            refine lv_aload_n hx hb dX7_stampLow_85 rfl (lv_at hl 2 rfl) ?_
            refine gm_7 S hK hI dX7_stampLow_86 ?_
            refine lv_iload_n hx hb dX7_stampLow_89 rfl (lv_at hl 3 rfl) ?_
            refine ln_1 (j := k) S hK hI (by omega) dX7_stampLow_90 ?_
            refine lv_eqi (v := κ) (eκ) ?_
            refine lv_iconst (v := 3) hx hb dX7_stampLow_91 (by decide) ?_
            refine lv_icmp_ne (tgt := 101) hx hb dX7_stampLow_92 (by decide) (fun c46 => ?_) (fun c46 => ?_)
            · refine lv_aload_n hx hb dX7_stampLow_101 rfl (lv_at hl 2 rfl) ?_
              refine gm_7 S hK hI dX7_stampLow_102 ?_
              refine lv_iload_n hx hb dX7_stampLow_105 rfl (lv_at hl 3 rfl) ?_
              refine ln_1 (j := k) S hK hI (by omega) dX7_stampLow_106 ?_
              refine lv_eqi (v := κ) (eκ) ?_
              refine lv_lload_n hx hb dX7_stampLow_107 rfl (lv_at hl 0 rfl) ?_
              refine lv_lconst (v := 1) hx hb dX7_stampLow_108 (by decide) ?_
              refine lv_ladd hx hb dX7_stampLow_109 ?_
              refine lv_topl (fun x47 e47 => ?_)
              refine tw_calll (tw_rS (As := [.int κ, .long x47]) (rest := [.int (nI (3 * k)), .ref (ad 1004)]) S hK hI kX7_114 (c_X7_kept l D ad _ _ _ _) ⟨Nat.le_of_ble_eq_true rfl, Nat.le_of_ble_eq_true rfl⟩ ⟨Nat.le_of_ble_eq_true rfl, Nat.le_of_ble_eq_true rfl⟩ rfl hl.1 rfl (Nat.le_of_ble_eq_true rfl) dX7_stampLow_110) hI (fun H locs hI => ?_)
              refine lv_topl (fun x48 e48 => ?_)
              refine sn_4 (j := 3 * k) S hK hI (by omega) dX7_stampLow_113 (fun H locs hI => ?_)
              refine lv_iinc (v := 1) (lv' := [(2, .int 1), (3, .long x45), (0, .ref (ad 1000)), (1, .int (nI k))]) hx hb dX7_stampLow_114 hl (k := 1) rfl (by decide) (by decide) rfl (fun ls hl => ?_)
              refine lv_goto (tgt := 43) hx hb dX7_stampLow_117 (by decide) ?_
              refine lv_iload_n hx hb dX7_stampLow_43 rfl (lv_at hl 0 rfl) ?_
              refine lv_aload_n hx hb dX7_stampLow_44 rfl (lv_at hl 2 rfl) ?_
              refine gm_13 S hK hI dX7_stampLow_45 ?_
              refine lv_iload_n hx hb dX7_stampLow_48 rfl (lv_at hl 3 rfl) ?_
              refine ln_2 (j := k) S hK hI (by omega) dX7_stampLow_49 ?_
              refine lv_eqi (v := 1) (ez) ?_
              refine lv_icmp_ge (tgt := 120) hx hb dX7_stampLow_50 (by decide) (fun c49 => ?_) (fun c49 => ?_)
              · subst e48
                subst e47
                subst e45
                subst e43
                subst e41
                subst e39
                subst e37
                unfold stampLowF
                unfold addS
                have es : szS σ k = 1 := by unfold szS; rw [ez]; rfl
                rw [es]
                rw [eκ]
                try simp only [bumpN, bump1, bumpF, Nat.add_zero]
                try rw [if_neg hN]
                try rw [if_neg c38]
                try rw [if_pos c40]
                try rw [if_neg (show ¬ (1 : Int32) ≤ 0 from by decide)]
                try rw [if_neg hN]
                try rw [if_neg c46]
                try rw [if_pos (show (1 : Int32) ≤ 1 from by decide)]
                exact tw_vret S hr hlocks hI dX7_stampLow_120
              · exact absurd c49 (by decide)
            · refine lv_lconst (v := 1) hx hb dX7_stampLow_95 (by decide) ?_
              refine lv_lload_n hx hb dX7_stampLow_96 rfl (lv_at hl 0 rfl) ?_
              refine lv_lsub hx hb dX7_stampLow_97 ?_
              refine lv_topl (fun x50 e50 => ?_)
              refine lv_goto (tgt := 113) hx hb dX7_stampLow_98 (by decide) ?_
              refine sn_4 (j := 3 * k) S hK hI (by omega) dX7_stampLow_113 (fun H locs hI => ?_)
              refine lv_iinc (v := 1) (lv' := [(2, .int 1), (3, .long x45), (0, .ref (ad 1000)), (1, .int (nI k))]) hx hb dX7_stampLow_114 hl (k := 1) rfl (by decide) (by decide) rfl (fun ls hl => ?_)
              refine lv_goto (tgt := 43) hx hb dX7_stampLow_117 (by decide) ?_
              refine lv_iload_n hx hb dX7_stampLow_43 rfl (lv_at hl 0 rfl) ?_
              refine lv_aload_n hx hb dX7_stampLow_44 rfl (lv_at hl 2 rfl) ?_
              refine gm_13 S hK hI dX7_stampLow_45 ?_
              refine lv_iload_n hx hb dX7_stampLow_48 rfl (lv_at hl 3 rfl) ?_
              refine ln_2 (j := k) S hK hI (by omega) dX7_stampLow_49 ?_
              refine lv_eqi (v := 1) (ez) ?_
              refine lv_icmp_ge (tgt := 120) hx hb dX7_stampLow_50 (by decide) (fun c51 => ?_) (fun c51 => ?_)
              · subst e50
                subst e45
                subst e43
                subst e41
                subst e39
                subst e37
                unfold stampLowF
                unfold addS
                have es : szS σ k = 1 := by unfold szS; rw [ez]; rfl
                rw [es]
                rw [eκ]
                try simp only [bumpN, bump1, bumpF, Nat.add_zero]
                try rw [if_neg hN]
                try rw [if_neg c38]
                try rw [if_pos c40]
                try rw [if_neg (show ¬ (1 : Int32) ≤ 0 from by decide)]
                try rw [if_neg hN]
                try rw [if_pos c46]
                try rw [if_pos (show (1 : Int32) ≤ 1 from by decide)]
                exact tw_vret S hr hlocks hI dX7_stampLow_120
              · exact absurd c51 (by decide)
      · refine lv_iconst (v := 1) hx hb dX7_stampLow_34 (by decide) ?_
        refine lv_goto (tgt := 39) hx hb dX7_stampLow_35 (by decide) ?_
        refine lv_iadd hx hb dX7_stampLow_39 ?_
        refine lv_topi (fun x52 e52 => ?_)
        refine sn_3 (j := k) S hK hI (by omega) dX7_stampLow_40 (fun H locs hI => ?_)
        refine lv_iconst (v := 0) hx hb dX7_stampLow_41 (by decide) ?_
        refine lv_istore_n (lv' := [(2, .int 0), (0, .ref (ad 1000)), (1, .int (nI k))]) hx hb dX7_stampLow_42 rfl hl (by decide) rfl (fun ls hl => ?_)
        refine lv_iload_n hx hb dX7_stampLow_43 rfl (lv_at hl 0 rfl) ?_
        refine lv_aload_n hx hb dX7_stampLow_44 rfl (lv_at hl 1 rfl) ?_
        refine gm_13 S hK hI dX7_stampLow_45 ?_
        refine lv_iload_n hx hb dX7_stampLow_48 rfl (lv_at hl 2 rfl) ?_
        refine ln_2 (j := k) S hK hI (by omega) dX7_stampLow_49 ?_
        refine lv_eqi (v := 1) (ez) ?_
        refine lv_icmp_ge (tgt := 120) hx hb dX7_stampLow_50 (by decide) (fun c53 => ?_) (fun c53 => ?_)
        · exact absurd c53 (by decide)
        · refine lv_aload_n hx hb dX7_stampLow_53 rfl (lv_at hl 1 rfl) ?_
          refine gm_7 S hK hI dX7_stampLow_54 ?_
          refine lv_iload_n hx hb dX7_stampLow_57 rfl (lv_at hl 2 rfl) ?_
          refine ln_1 (j := k) S hK hI (by omega) dX7_stampLow_58 ?_
          refine lv_eqi (v := κ) (eκ) ?_
          refine tw_calli (tw_rS (As := [.int κ]) (rest := []) S hK hI kX7_107 (c_X7_isOfNumbers l D ad _ _ _) ⟨Nat.le_of_ble_eq_true rfl, Nat.le_of_ble_eq_true rfl⟩ ⟨Nat.le_of_ble_eq_true rfl, Nat.le_of_ble_eq_true rfl⟩ rfl hl.1 rfl (Nat.le_of_ble_eq_true rfl) dX7_stampLow_59) hI (fun H locs hI => ?_)
          refine lv_topi (fun x54 e54 => ?_)
          refine lv_if_eq (tgt := 120) hx hb dX7_stampLow_62 (by decide) (fun c55 => ?_) (fun c55 => ?_)
          · exact (by subst e54; subst e52; subst e39; subst e37; exact absurd c55 hN)
          · refine lv_aload_n hx hb dX7_stampLow_65 rfl (lv_at hl 1 rfl) ?_
            refine gm_19 S hK hI dX7_stampLow_66 ?_
            refine lv_iconst (v := 3) hx hb dX7_stampLow_69 (by decide) ?_
            refine lv_iload_n hx hb dX7_stampLow_70 rfl (lv_at hl 2 rfl) ?_
            refine lv_imul hx hb dX7_stampLow_71 ?_
            refine lv_eqi (v := (nI (3 * k))) (nM (a := 3) (b := k) (c := 3 * k) (by omega)) ?_
            refine lv_iload_n hx hb dX7_stampLow_72 rfl (lv_at hl 0 rfl) ?_
            refine lv_iadd hx hb dX7_stampLow_73 ?_
            refine lv_eqi (v := (nI (3 * k))) (nA (a := 3 * k) (b := 0) (c := 3 * k) (by omega)) ?_
            refine ln_4 (j := 3 * k) S hK hI (by omega) dX7_stampLow_74 ?_
            refine lv_topl (fun x56 e56 => ?_)
            refine lv_lstore_n (lv' := [(3, .long x56), (2, .int 0), (0, .ref (ad 1000)), (1, .int (nI k))]) hx hb dX7_stampLow_75 rfl hl (by decide) rfl (fun ls hl => ?_)
            refine lv_aload_n hx hb dX7_stampLow_76 rfl (lv_at hl 2 rfl) ?_
            refine gm_19 S hK hI dX7_stampLow_77 ?_
            refine lv_iconst (v := 3) hx hb dX7_stampLow_80 (by decide) ?_
            refine lv_iload_n hx hb dX7_stampLow_81 rfl (lv_at hl 3 rfl) ?_
            refine lv_imul hx hb dX7_stampLow_82 ?_
            refine lv_eqi (v := (nI (3 * k))) (nM (a := 3) (b := k) (c := 3 * k) (by omega)) ?_
            refine lv_iload_n hx hb dX7_stampLow_83 rfl (lv_at hl 1 rfl) ?_
            refine lv_iadd hx hb dX7_stampLow_84 ?_
            refine lv_eqi (v := (nI (3 * k))) (nA (a := 3 * k) (b := 0) (c := 3 * k) (by omega)) ?_
            refine lv_aload_n hx hb dX7_stampLow_85 rfl (lv_at hl 2 rfl) ?_
            refine gm_7 S hK hI dX7_stampLow_86 ?_
            refine lv_iload_n hx hb dX7_stampLow_89 rfl (lv_at hl 3 rfl) ?_
            refine ln_1 (j := k) S hK hI (by omega) dX7_stampLow_90 ?_
            refine lv_eqi (v := κ) (eκ) ?_
            refine lv_iconst (v := 3) hx hb dX7_stampLow_91 (by decide) ?_
            refine lv_icmp_ne (tgt := 101) hx hb dX7_stampLow_92 (by decide) (fun c57 => ?_) (fun c57 => ?_)
            · refine lv_aload_n hx hb dX7_stampLow_101 rfl (lv_at hl 2 rfl) ?_
              refine gm_7 S hK hI dX7_stampLow_102 ?_
              refine lv_iload_n hx hb dX7_stampLow_105 rfl (lv_at hl 3 rfl) ?_
              refine ln_1 (j := k) S hK hI (by omega) dX7_stampLow_106 ?_
              refine lv_eqi (v := κ) (eκ) ?_
              refine lv_lload_n hx hb dX7_stampLow_107 rfl (lv_at hl 0 rfl) ?_
              refine lv_lconst (v := 1) hx hb dX7_stampLow_108 (by decide) ?_
              refine lv_ladd hx hb dX7_stampLow_109 ?_
              refine lv_topl (fun x58 e58 => ?_)
              refine tw_calll (tw_rS (As := [.int κ, .long x58]) (rest := [.int (nI (3 * k)), .ref (ad 1004)]) S hK hI kX7_114 (c_X7_kept l D ad _ _ _ _) ⟨Nat.le_of_ble_eq_true rfl, Nat.le_of_ble_eq_true rfl⟩ ⟨Nat.le_of_ble_eq_true rfl, Nat.le_of_ble_eq_true rfl⟩ rfl hl.1 rfl (Nat.le_of_ble_eq_true rfl) dX7_stampLow_110) hI (fun H locs hI => ?_)
              refine lv_topl (fun x59 e59 => ?_)
              refine sn_4 (j := 3 * k) S hK hI (by omega) dX7_stampLow_113 (fun H locs hI => ?_)
              refine lv_iinc (v := 1) (lv' := [(2, .int 1), (3, .long x56), (0, .ref (ad 1000)), (1, .int (nI k))]) hx hb dX7_stampLow_114 hl (k := 1) rfl (by decide) (by decide) rfl (fun ls hl => ?_)
              refine lv_goto (tgt := 43) hx hb dX7_stampLow_117 (by decide) ?_
              refine lv_iload_n hx hb dX7_stampLow_43 rfl (lv_at hl 0 rfl) ?_
              refine lv_aload_n hx hb dX7_stampLow_44 rfl (lv_at hl 2 rfl) ?_
              refine gm_13 S hK hI dX7_stampLow_45 ?_
              refine lv_iload_n hx hb dX7_stampLow_48 rfl (lv_at hl 3 rfl) ?_
              refine ln_2 (j := k) S hK hI (by omega) dX7_stampLow_49 ?_
              refine lv_eqi (v := 1) (ez) ?_
              refine lv_icmp_ge (tgt := 120) hx hb dX7_stampLow_50 (by decide) (fun c60 => ?_) (fun c60 => ?_)
              · subst e59
                subst e58
                subst e56
                subst e54
                subst e52
                subst e39
                subst e37
                unfold stampLowF
                unfold addS
                have es : szS σ k = 1 := by unfold szS; rw [ez]; rfl
                rw [es]
                rw [eκ]
                try simp only [bumpN, bump1, bumpF, Nat.add_zero]
                try rw [if_neg hN]
                try rw [if_neg c38]
                try rw [if_neg c40]
                try rw [if_neg (show ¬ (1 : Int32) ≤ 0 from by decide)]
                try rw [if_neg hN]
                try rw [if_neg c57]
                try rw [if_pos (show (1 : Int32) ≤ 1 from by decide)]
                exact tw_vret S hr hlocks hI dX7_stampLow_120
              · exact absurd c60 (by decide)
            · refine lv_lconst (v := 1) hx hb dX7_stampLow_95 (by decide) ?_
              refine lv_lload_n hx hb dX7_stampLow_96 rfl (lv_at hl 0 rfl) ?_
              refine lv_lsub hx hb dX7_stampLow_97 ?_
              refine lv_topl (fun x61 e61 => ?_)
              refine lv_goto (tgt := 113) hx hb dX7_stampLow_98 (by decide) ?_
              refine sn_4 (j := 3 * k) S hK hI (by omega) dX7_stampLow_113 (fun H locs hI => ?_)
              refine lv_iinc (v := 1) (lv' := [(2, .int 1), (3, .long x56), (0, .ref (ad 1000)), (1, .int (nI k))]) hx hb dX7_stampLow_114 hl (k := 1) rfl (by decide) (by decide) rfl (fun ls hl => ?_)
              refine lv_goto (tgt := 43) hx hb dX7_stampLow_117 (by decide) ?_
              refine lv_iload_n hx hb dX7_stampLow_43 rfl (lv_at hl 0 rfl) ?_
              refine lv_aload_n hx hb dX7_stampLow_44 rfl (lv_at hl 2 rfl) ?_
              refine gm_13 S hK hI dX7_stampLow_45 ?_
              refine lv_iload_n hx hb dX7_stampLow_48 rfl (lv_at hl 3 rfl) ?_
              refine ln_2 (j := k) S hK hI (by omega) dX7_stampLow_49 ?_
              refine lv_eqi (v := 1) (ez) ?_
              refine lv_icmp_ge (tgt := 120) hx hb dX7_stampLow_50 (by decide) (fun c62 => ?_) (fun c62 => ?_)
              · subst e61
                subst e56
                subst e54
                subst e52
                subst e39
                subst e37
                unfold stampLowF
                unfold addS
                have es : szS σ k = 1 := by unfold szS; rw [ez]; rfl
                rw [es]
                rw [eκ]
                try simp only [bumpN, bump1, bumpF, Nat.add_zero]
                try rw [if_neg hN]
                try rw [if_neg c38]
                try rw [if_neg c40]
                try rw [if_neg (show ¬ (1 : Int32) ≤ 0 from by decide)]
                try rw [if_neg hN]
                try rw [if_pos c57]
                try rw [if_pos (show (1 : Int32) ≤ 1 from by decide)]
                exact tw_vret S hr hlocks hI dX7_stampLow_120
              · exact absurd c62 (by decide)
    · refine lv_iconst (v := 2) hx hb dX7_stampLow_18 (by decide) ?_
      refine lv_goto (tgt := 39) hx hb dX7_stampLow_19 (by decide) ?_
      refine lv_iadd hx hb dX7_stampLow_39 ?_
      refine lv_topi (fun x63 e63 => ?_)
      refine sn_3 (j := k) S hK hI (by omega) dX7_stampLow_40 (fun H locs hI => ?_)
      refine lv_iconst (v := 0) hx hb dX7_stampLow_41 (by decide) ?_
      refine lv_istore_n (lv' := [(2, .int 0), (0, .ref (ad 1000)), (1, .int (nI k))]) hx hb dX7_stampLow_42 rfl hl (by decide) rfl (fun ls hl => ?_)
      refine lv_iload_n hx hb dX7_stampLow_43 rfl (lv_at hl 0 rfl) ?_
      refine lv_aload_n hx hb dX7_stampLow_44 rfl (lv_at hl 1 rfl) ?_
      refine gm_13 S hK hI dX7_stampLow_45 ?_
      refine lv_iload_n hx hb dX7_stampLow_48 rfl (lv_at hl 2 rfl) ?_
      refine ln_2 (j := k) S hK hI (by omega) dX7_stampLow_49 ?_
      refine lv_eqi (v := 1) (ez) ?_
      refine lv_icmp_ge (tgt := 120) hx hb dX7_stampLow_50 (by decide) (fun c64 => ?_) (fun c64 => ?_)
      · exact absurd c64 (by decide)
      · refine lv_aload_n hx hb dX7_stampLow_53 rfl (lv_at hl 1 rfl) ?_
        refine gm_7 S hK hI dX7_stampLow_54 ?_
        refine lv_iload_n hx hb dX7_stampLow_57 rfl (lv_at hl 2 rfl) ?_
        refine ln_1 (j := k) S hK hI (by omega) dX7_stampLow_58 ?_
        refine lv_eqi (v := κ) (eκ) ?_
        refine tw_calli (tw_rS (As := [.int κ]) (rest := []) S hK hI kX7_107 (c_X7_isOfNumbers l D ad _ _ _) ⟨Nat.le_of_ble_eq_true rfl, Nat.le_of_ble_eq_true rfl⟩ ⟨Nat.le_of_ble_eq_true rfl, Nat.le_of_ble_eq_true rfl⟩ rfl hl.1 rfl (Nat.le_of_ble_eq_true rfl) dX7_stampLow_59) hI (fun H locs hI => ?_)
        refine lv_topi (fun x65 e65 => ?_)
        refine lv_if_eq (tgt := 120) hx hb dX7_stampLow_62 (by decide) (fun c66 => ?_) (fun c66 => ?_)
        · exact (by subst e65; subst e63; subst e37; exact absurd c66 hN)
        · refine lv_aload_n hx hb dX7_stampLow_65 rfl (lv_at hl 1 rfl) ?_
          refine gm_19 S hK hI dX7_stampLow_66 ?_
          refine lv_iconst (v := 3) hx hb dX7_stampLow_69 (by decide) ?_
          refine lv_iload_n hx hb dX7_stampLow_70 rfl (lv_at hl 2 rfl) ?_
          refine lv_imul hx hb dX7_stampLow_71 ?_
          refine lv_eqi (v := (nI (3 * k))) (nM (a := 3) (b := k) (c := 3 * k) (by omega)) ?_
          refine lv_iload_n hx hb dX7_stampLow_72 rfl (lv_at hl 0 rfl) ?_
          refine lv_iadd hx hb dX7_stampLow_73 ?_
          refine lv_eqi (v := (nI (3 * k))) (nA (a := 3 * k) (b := 0) (c := 3 * k) (by omega)) ?_
          refine ln_4 (j := 3 * k) S hK hI (by omega) dX7_stampLow_74 ?_
          refine lv_topl (fun x67 e67 => ?_)
          refine lv_lstore_n (lv' := [(3, .long x67), (2, .int 0), (0, .ref (ad 1000)), (1, .int (nI k))]) hx hb dX7_stampLow_75 rfl hl (by decide) rfl (fun ls hl => ?_)
          refine lv_aload_n hx hb dX7_stampLow_76 rfl (lv_at hl 2 rfl) ?_
          refine gm_19 S hK hI dX7_stampLow_77 ?_
          refine lv_iconst (v := 3) hx hb dX7_stampLow_80 (by decide) ?_
          refine lv_iload_n hx hb dX7_stampLow_81 rfl (lv_at hl 3 rfl) ?_
          refine lv_imul hx hb dX7_stampLow_82 ?_
          refine lv_eqi (v := (nI (3 * k))) (nM (a := 3) (b := k) (c := 3 * k) (by omega)) ?_
          refine lv_iload_n hx hb dX7_stampLow_83 rfl (lv_at hl 1 rfl) ?_
          refine lv_iadd hx hb dX7_stampLow_84 ?_
          refine lv_eqi (v := (nI (3 * k))) (nA (a := 3 * k) (b := 0) (c := 3 * k) (by omega)) ?_
          refine lv_aload_n hx hb dX7_stampLow_85 rfl (lv_at hl 2 rfl) ?_
          refine gm_7 S hK hI dX7_stampLow_86 ?_
          refine lv_iload_n hx hb dX7_stampLow_89 rfl (lv_at hl 3 rfl) ?_
          refine ln_1 (j := k) S hK hI (by omega) dX7_stampLow_90 ?_
          refine lv_eqi (v := κ) (eκ) ?_
          refine lv_iconst (v := 3) hx hb dX7_stampLow_91 (by decide) ?_
          refine lv_icmp_ne (tgt := 101) hx hb dX7_stampLow_92 (by decide) (fun c68 => ?_) (fun c68 => ?_)
          · refine lv_aload_n hx hb dX7_stampLow_101 rfl (lv_at hl 2 rfl) ?_
            refine gm_7 S hK hI dX7_stampLow_102 ?_
            refine lv_iload_n hx hb dX7_stampLow_105 rfl (lv_at hl 3 rfl) ?_
            refine ln_1 (j := k) S hK hI (by omega) dX7_stampLow_106 ?_
            refine lv_eqi (v := κ) (eκ) ?_
            refine lv_lload_n hx hb dX7_stampLow_107 rfl (lv_at hl 0 rfl) ?_
            refine lv_lconst (v := 1) hx hb dX7_stampLow_108 (by decide) ?_
            refine lv_ladd hx hb dX7_stampLow_109 ?_
            refine lv_topl (fun x69 e69 => ?_)
            refine tw_calll (tw_rS (As := [.int κ, .long x69]) (rest := [.int (nI (3 * k)), .ref (ad 1004)]) S hK hI kX7_114 (c_X7_kept l D ad _ _ _ _) ⟨Nat.le_of_ble_eq_true rfl, Nat.le_of_ble_eq_true rfl⟩ ⟨Nat.le_of_ble_eq_true rfl, Nat.le_of_ble_eq_true rfl⟩ rfl hl.1 rfl (Nat.le_of_ble_eq_true rfl) dX7_stampLow_110) hI (fun H locs hI => ?_)
            refine lv_topl (fun x70 e70 => ?_)
            refine sn_4 (j := 3 * k) S hK hI (by omega) dX7_stampLow_113 (fun H locs hI => ?_)
            refine lv_iinc (v := 1) (lv' := [(2, .int 1), (3, .long x67), (0, .ref (ad 1000)), (1, .int (nI k))]) hx hb dX7_stampLow_114 hl (k := 1) rfl (by decide) (by decide) rfl (fun ls hl => ?_)
            refine lv_goto (tgt := 43) hx hb dX7_stampLow_117 (by decide) ?_
            refine lv_iload_n hx hb dX7_stampLow_43 rfl (lv_at hl 0 rfl) ?_
            refine lv_aload_n hx hb dX7_stampLow_44 rfl (lv_at hl 2 rfl) ?_
            refine gm_13 S hK hI dX7_stampLow_45 ?_
            refine lv_iload_n hx hb dX7_stampLow_48 rfl (lv_at hl 3 rfl) ?_
            refine ln_2 (j := k) S hK hI (by omega) dX7_stampLow_49 ?_
            refine lv_eqi (v := 1) (ez) ?_
            refine lv_icmp_ge (tgt := 120) hx hb dX7_stampLow_50 (by decide) (fun c71 => ?_) (fun c71 => ?_)
            · subst e70
              subst e69
              subst e67
              subst e65
              subst e63
              subst e37
              unfold stampLowF
              unfold addS
              have es : szS σ k = 1 := by unfold szS; rw [ez]; rfl
              rw [es]
              rw [eκ]
              try simp only [bumpN, bump1, bumpF, Nat.add_zero]
              try rw [if_neg hN]
              try rw [if_pos c38]
              try rw [if_neg (show ¬ (1 : Int32) ≤ 0 from by decide)]
              try rw [if_neg hN]
              try rw [if_neg c68]
              try rw [if_pos (show (1 : Int32) ≤ 1 from by decide)]
              exact tw_vret S hr hlocks hI dX7_stampLow_120
            · exact absurd c71 (by decide)
          · refine lv_lconst (v := 1) hx hb dX7_stampLow_95 (by decide) ?_
            refine lv_lload_n hx hb dX7_stampLow_96 rfl (lv_at hl 0 rfl) ?_
            refine lv_lsub hx hb dX7_stampLow_97 ?_
            refine lv_topl (fun x72 e72 => ?_)
            refine lv_goto (tgt := 113) hx hb dX7_stampLow_98 (by decide) ?_
            refine sn_4 (j := 3 * k) S hK hI (by omega) dX7_stampLow_113 (fun H locs hI => ?_)
            refine lv_iinc (v := 1) (lv' := [(2, .int 1), (3, .long x67), (0, .ref (ad 1000)), (1, .int (nI k))]) hx hb dX7_stampLow_114 hl (k := 1) rfl (by decide) (by decide) rfl (fun ls hl => ?_)
            refine lv_goto (tgt := 43) hx hb dX7_stampLow_117 (by decide) ?_
            refine lv_iload_n hx hb dX7_stampLow_43 rfl (lv_at hl 0 rfl) ?_
            refine lv_aload_n hx hb dX7_stampLow_44 rfl (lv_at hl 2 rfl) ?_
            refine gm_13 S hK hI dX7_stampLow_45 ?_
            refine lv_iload_n hx hb dX7_stampLow_48 rfl (lv_at hl 3 rfl) ?_
            refine ln_2 (j := k) S hK hI (by omega) dX7_stampLow_49 ?_
            refine lv_eqi (v := 1) (ez) ?_
            refine lv_icmp_ge (tgt := 120) hx hb dX7_stampLow_50 (by decide) (fun c73 => ?_) (fun c73 => ?_)
            · subst e72
              subst e67
              subst e65
              subst e63
              subst e37
              unfold stampLowF
              unfold addS
              have es : szS σ k = 1 := by unfold szS; rw [ez]; rfl
              rw [es]
              rw [eκ]
              try simp only [bumpN, bump1, bumpF, Nat.add_zero]
              try rw [if_neg hN]
              try rw [if_pos c38]
              try rw [if_neg (show ¬ (1 : Int32) ≤ 0 from by decide)]
              try rw [if_neg hN]
              try rw [if_pos c68]
              try rw [if_pos (show (1 : Int32) ≤ 1 from by decide)]
              exact tw_vret S hr hlocks hI dX7_stampLow_120
            · exact absurd c73 (by decide)
  · refine lv_aload_n hx hb dX7_stampLow_0 rfl (lv_at hl 0 rfl) ?_
    refine gm_16 S hK hI dX7_stampLow_1 ?_
    refine lv_iload_n hx hb dX7_stampLow_4 rfl (lv_at hl 1 rfl) ?_
    refine lv_dup2_11 hx hb dX7_stampLow_5 rfl rfl ?_
    refine ln_3 (j := k) S hK hI (by omega) dX7_stampLow_6 ?_
    refine lv_topi (fun x74 e74 => ?_)
    refine lv_aload_n hx hb dX7_stampLow_7 rfl (lv_at hl 0 rfl) ?_
    refine gm_7 S hK hI dX7_stampLow_8 ?_
    refine lv_iload_n hx hb dX7_stampLow_11 rfl (lv_at hl 1 rfl) ?_
    refine ln_1 (j := k) S hK hI (by omega) dX7_stampLow_12 ?_
    refine lv_eqi (v := κ) (eκ) ?_
    refine lv_bipush (v := 6) hx hb dX7_stampLow_13 (by decide) ?_
    refine lv_icmp_ne (tgt := 22) hx hb dX7_stampLow_15 (by decide) (fun c75 => ?_) (fun c75 => ?_)
    · refine lv_aload_n hx hb dX7_stampLow_22 rfl (lv_at hl 0 rfl) ?_
      refine gm_7 S hK hI dX7_stampLow_23 ?_
      refine lv_iload_n hx hb dX7_stampLow_26 rfl (lv_at hl 1 rfl) ?_
      refine ln_1 (j := k) S hK hI (by omega) dX7_stampLow_27 ?_
      refine lv_eqi (v := κ) (eκ) ?_
      refine tw_calli (tw_rS (As := [.int κ]) (rest := [.int x74, .int (nI k), .ref (ad 1003)]) S hK hI kX7_89 (c_X7_isOne l D ad _ _ _) ⟨Nat.le_of_ble_eq_true rfl, Nat.le_of_ble_eq_true rfl⟩ ⟨Nat.le_of_ble_eq_true rfl, Nat.le_of_ble_eq_true rfl⟩ rfl hl.1 rfl (Nat.le_of_ble_eq_true rfl) dX7_stampLow_28) hI (fun H locs hI => ?_)
      refine lv_topi (fun x76 e76 => ?_)
      refine lv_if_eq (tgt := 38) hx hb dX7_stampLow_31 (by decide) (fun c77 => ?_) (fun c77 => ?_)
      · refine lv_iconst (v := 0) hx hb dX7_stampLow_38 (by decide) ?_
        refine lv_iadd hx hb dX7_stampLow_39 ?_
        refine lv_topi (fun x78 e78 => ?_)
        refine sn_3 (j := k) S hK hI (by omega) dX7_stampLow_40 (fun H locs hI => ?_)
        refine lv_iconst (v := 0) hx hb dX7_stampLow_41 (by decide) ?_
        refine lv_istore_n (lv' := [(2, .int 0), (0, .ref (ad 1000)), (1, .int (nI k))]) hx hb dX7_stampLow_42 rfl hl (by decide) rfl (fun ls hl => ?_)
        refine lv_iload_n hx hb dX7_stampLow_43 rfl (lv_at hl 0 rfl) ?_
        refine lv_aload_n hx hb dX7_stampLow_44 rfl (lv_at hl 1 rfl) ?_
        refine gm_13 S hK hI dX7_stampLow_45 ?_
        refine lv_iload_n hx hb dX7_stampLow_48 rfl (lv_at hl 2 rfl) ?_
        refine ln_2 (j := k) S hK hI (by omega) dX7_stampLow_49 ?_
        refine lv_eqi (v := 2) (ez) ?_
        refine lv_icmp_ge (tgt := 120) hx hb dX7_stampLow_50 (by decide) (fun c79 => ?_) (fun c79 => ?_)
        · exact absurd c79 (by decide)
        · refine lv_aload_n hx hb dX7_stampLow_53 rfl (lv_at hl 1 rfl) ?_
          refine gm_7 S hK hI dX7_stampLow_54 ?_
          refine lv_iload_n hx hb dX7_stampLow_57 rfl (lv_at hl 2 rfl) ?_
          refine ln_1 (j := k) S hK hI (by omega) dX7_stampLow_58 ?_
          refine lv_eqi (v := κ) (eκ) ?_
          refine tw_calli (tw_rS (As := [.int κ]) (rest := []) S hK hI kX7_107 (c_X7_isOfNumbers l D ad _ _ _) ⟨Nat.le_of_ble_eq_true rfl, Nat.le_of_ble_eq_true rfl⟩ ⟨Nat.le_of_ble_eq_true rfl, Nat.le_of_ble_eq_true rfl⟩ rfl hl.1 rfl (Nat.le_of_ble_eq_true rfl) dX7_stampLow_59) hI (fun H locs hI => ?_)
          refine lv_topi (fun x80 e80 => ?_)
          refine lv_if_eq (tgt := 120) hx hb dX7_stampLow_62 (by decide) (fun c81 => ?_) (fun c81 => ?_)
          · subst e80
            subst e78
            subst e76
            subst e74
            unfold stampLowF
            unfold addS
            have es : szS σ k = 2 := by unfold szS; rw [ez]; rfl
            rw [es]
            rw [eκ]
            try simp only [bumpN, bump1, bumpF, Nat.add_zero]
            try rw [if_pos hN]
            try rw [if_neg c75]
            try rw [if_pos c77]
            try rw [if_neg (show ¬ (2 : Int32) ≤ 0 from by decide)]
            try rw [if_pos hN]
            exact tw_vret S hr hlocks hI dX7_stampLow_120
          · exact (by subst e80; subst e78; subst e76; subst e74; exact absurd hN c81)
      · refine lv_iconst (v := 1) hx hb dX7_stampLow_34 (by decide) ?_
        refine lv_goto (tgt := 39) hx hb dX7_stampLow_35 (by decide) ?_
        refine lv_iadd hx hb dX7_stampLow_39 ?_
        refine lv_topi (fun x82 e82 => ?_)
        refine sn_3 (j := k) S hK hI (by omega) dX7_stampLow_40 (fun H locs hI => ?_)
        refine lv_iconst (v := 0) hx hb dX7_stampLow_41 (by decide) ?_
        refine lv_istore_n (lv' := [(2, .int 0), (0, .ref (ad 1000)), (1, .int (nI k))]) hx hb dX7_stampLow_42 rfl hl (by decide) rfl (fun ls hl => ?_)
        refine lv_iload_n hx hb dX7_stampLow_43 rfl (lv_at hl 0 rfl) ?_
        refine lv_aload_n hx hb dX7_stampLow_44 rfl (lv_at hl 1 rfl) ?_
        refine gm_13 S hK hI dX7_stampLow_45 ?_
        refine lv_iload_n hx hb dX7_stampLow_48 rfl (lv_at hl 2 rfl) ?_
        refine ln_2 (j := k) S hK hI (by omega) dX7_stampLow_49 ?_
        refine lv_eqi (v := 2) (ez) ?_
        refine lv_icmp_ge (tgt := 120) hx hb dX7_stampLow_50 (by decide) (fun c83 => ?_) (fun c83 => ?_)
        · exact absurd c83 (by decide)
        · refine lv_aload_n hx hb dX7_stampLow_53 rfl (lv_at hl 1 rfl) ?_
          refine gm_7 S hK hI dX7_stampLow_54 ?_
          refine lv_iload_n hx hb dX7_stampLow_57 rfl (lv_at hl 2 rfl) ?_
          refine ln_1 (j := k) S hK hI (by omega) dX7_stampLow_58 ?_
          refine lv_eqi (v := κ) (eκ) ?_
          refine tw_calli (tw_rS (As := [.int κ]) (rest := []) S hK hI kX7_107 (c_X7_isOfNumbers l D ad _ _ _) ⟨Nat.le_of_ble_eq_true rfl, Nat.le_of_ble_eq_true rfl⟩ ⟨Nat.le_of_ble_eq_true rfl, Nat.le_of_ble_eq_true rfl⟩ rfl hl.1 rfl (Nat.le_of_ble_eq_true rfl) dX7_stampLow_59) hI (fun H locs hI => ?_)
          refine lv_topi (fun x84 e84 => ?_)
          refine lv_if_eq (tgt := 120) hx hb dX7_stampLow_62 (by decide) (fun c85 => ?_) (fun c85 => ?_)
          · subst e84
            subst e82
            subst e76
            subst e74
            unfold stampLowF
            unfold addS
            have es : szS σ k = 2 := by unfold szS; rw [ez]; rfl
            rw [es]
            rw [eκ]
            try simp only [bumpN, bump1, bumpF, Nat.add_zero]
            try rw [if_pos hN]
            try rw [if_neg c75]
            try rw [if_neg c77]
            try rw [if_neg (show ¬ (2 : Int32) ≤ 0 from by decide)]
            try rw [if_pos hN]
            exact tw_vret S hr hlocks hI dX7_stampLow_120
          · exact (by subst e84; subst e82; subst e76; subst e74; exact absurd hN c85)
    · refine lv_iconst (v := 2) hx hb dX7_stampLow_18 (by decide) ?_
      refine lv_goto (tgt := 39) hx hb dX7_stampLow_19 (by decide) ?_
      refine lv_iadd hx hb dX7_stampLow_39 ?_
      refine lv_topi (fun x86 e86 => ?_)
      refine sn_3 (j := k) S hK hI (by omega) dX7_stampLow_40 (fun H locs hI => ?_)
      refine lv_iconst (v := 0) hx hb dX7_stampLow_41 (by decide) ?_
      refine lv_istore_n (lv' := [(2, .int 0), (0, .ref (ad 1000)), (1, .int (nI k))]) hx hb dX7_stampLow_42 rfl hl (by decide) rfl (fun ls hl => ?_)
      refine lv_iload_n hx hb dX7_stampLow_43 rfl (lv_at hl 0 rfl) ?_
      refine lv_aload_n hx hb dX7_stampLow_44 rfl (lv_at hl 1 rfl) ?_
      refine gm_13 S hK hI dX7_stampLow_45 ?_
      refine lv_iload_n hx hb dX7_stampLow_48 rfl (lv_at hl 2 rfl) ?_
      refine ln_2 (j := k) S hK hI (by omega) dX7_stampLow_49 ?_
      refine lv_eqi (v := 2) (ez) ?_
      refine lv_icmp_ge (tgt := 120) hx hb dX7_stampLow_50 (by decide) (fun c87 => ?_) (fun c87 => ?_)
      · exact absurd c87 (by decide)
      · refine lv_aload_n hx hb dX7_stampLow_53 rfl (lv_at hl 1 rfl) ?_
        refine gm_7 S hK hI dX7_stampLow_54 ?_
        refine lv_iload_n hx hb dX7_stampLow_57 rfl (lv_at hl 2 rfl) ?_
        refine ln_1 (j := k) S hK hI (by omega) dX7_stampLow_58 ?_
        refine lv_eqi (v := κ) (eκ) ?_
        refine tw_calli (tw_rS (As := [.int κ]) (rest := []) S hK hI kX7_107 (c_X7_isOfNumbers l D ad _ _ _) ⟨Nat.le_of_ble_eq_true rfl, Nat.le_of_ble_eq_true rfl⟩ ⟨Nat.le_of_ble_eq_true rfl, Nat.le_of_ble_eq_true rfl⟩ rfl hl.1 rfl (Nat.le_of_ble_eq_true rfl) dX7_stampLow_59) hI (fun H locs hI => ?_)
        refine lv_topi (fun x88 e88 => ?_)
        refine lv_if_eq (tgt := 120) hx hb dX7_stampLow_62 (by decide) (fun c89 => ?_) (fun c89 => ?_)
        · subst e88
          subst e86
          subst e74
          unfold stampLowF
          unfold addS
          have es : szS σ k = 2 := by unfold szS; rw [ez]; rfl
          rw [es]
          rw [eκ]
          try simp only [bumpN, bump1, bumpF, Nat.add_zero]
          try rw [if_pos hN]
          try rw [if_pos c75]
          try rw [if_neg (show ¬ (2 : Int32) ≤ 0 from by decide)]
          try rw [if_pos hN]
          exact tw_vret S hr hlocks hI dX7_stampLow_120
        · exact (by subst e88; subst e86; subst e74; exact absurd hN c89)
  · refine lv_aload_n hx hb dX7_stampLow_0 rfl (lv_at hl 0 rfl) ?_
    refine gm_16 S hK hI dX7_stampLow_1 ?_
    refine lv_iload_n hx hb dX7_stampLow_4 rfl (lv_at hl 1 rfl) ?_
    refine lv_dup2_11 hx hb dX7_stampLow_5 rfl rfl ?_
    refine ln_3 (j := k) S hK hI (by omega) dX7_stampLow_6 ?_
    refine lv_topi (fun x90 e90 => ?_)
    refine lv_aload_n hx hb dX7_stampLow_7 rfl (lv_at hl 0 rfl) ?_
    refine gm_7 S hK hI dX7_stampLow_8 ?_
    refine lv_iload_n hx hb dX7_stampLow_11 rfl (lv_at hl 1 rfl) ?_
    refine ln_1 (j := k) S hK hI (by omega) dX7_stampLow_12 ?_
    refine lv_eqi (v := κ) (eκ) ?_
    refine lv_bipush (v := 6) hx hb dX7_stampLow_13 (by decide) ?_
    refine lv_icmp_ne (tgt := 22) hx hb dX7_stampLow_15 (by decide) (fun c91 => ?_) (fun c91 => ?_)
    · refine lv_aload_n hx hb dX7_stampLow_22 rfl (lv_at hl 0 rfl) ?_
      refine gm_7 S hK hI dX7_stampLow_23 ?_
      refine lv_iload_n hx hb dX7_stampLow_26 rfl (lv_at hl 1 rfl) ?_
      refine ln_1 (j := k) S hK hI (by omega) dX7_stampLow_27 ?_
      refine lv_eqi (v := κ) (eκ) ?_
      refine tw_calli (tw_rS (As := [.int κ]) (rest := [.int x90, .int (nI k), .ref (ad 1003)]) S hK hI kX7_89 (c_X7_isOne l D ad _ _ _) ⟨Nat.le_of_ble_eq_true rfl, Nat.le_of_ble_eq_true rfl⟩ ⟨Nat.le_of_ble_eq_true rfl, Nat.le_of_ble_eq_true rfl⟩ rfl hl.1 rfl (Nat.le_of_ble_eq_true rfl) dX7_stampLow_28) hI (fun H locs hI => ?_)
      refine lv_topi (fun x92 e92 => ?_)
      refine lv_if_eq (tgt := 38) hx hb dX7_stampLow_31 (by decide) (fun c93 => ?_) (fun c93 => ?_)
      · refine lv_iconst (v := 0) hx hb dX7_stampLow_38 (by decide) ?_
        refine lv_iadd hx hb dX7_stampLow_39 ?_
        refine lv_topi (fun x94 e94 => ?_)
        refine sn_3 (j := k) S hK hI (by omega) dX7_stampLow_40 (fun H locs hI => ?_)
        refine lv_iconst (v := 0) hx hb dX7_stampLow_41 (by decide) ?_
        refine lv_istore_n (lv' := [(2, .int 0), (0, .ref (ad 1000)), (1, .int (nI k))]) hx hb dX7_stampLow_42 rfl hl (by decide) rfl (fun ls hl => ?_)
        refine lv_iload_n hx hb dX7_stampLow_43 rfl (lv_at hl 0 rfl) ?_
        refine lv_aload_n hx hb dX7_stampLow_44 rfl (lv_at hl 1 rfl) ?_
        refine gm_13 S hK hI dX7_stampLow_45 ?_
        refine lv_iload_n hx hb dX7_stampLow_48 rfl (lv_at hl 2 rfl) ?_
        refine ln_2 (j := k) S hK hI (by omega) dX7_stampLow_49 ?_
        refine lv_eqi (v := 2) (ez) ?_
        refine lv_icmp_ge (tgt := 120) hx hb dX7_stampLow_50 (by decide) (fun c95 => ?_) (fun c95 => ?_)
        · exact absurd c95 (by decide)
        · refine lv_aload_n hx hb dX7_stampLow_53 rfl (lv_at hl 1 rfl) ?_
          refine gm_7 S hK hI dX7_stampLow_54 ?_
          refine lv_iload_n hx hb dX7_stampLow_57 rfl (lv_at hl 2 rfl) ?_
          refine ln_1 (j := k) S hK hI (by omega) dX7_stampLow_58 ?_
          refine lv_eqi (v := κ) (eκ) ?_
          refine tw_calli (tw_rS (As := [.int κ]) (rest := []) S hK hI kX7_107 (c_X7_isOfNumbers l D ad _ _ _) ⟨Nat.le_of_ble_eq_true rfl, Nat.le_of_ble_eq_true rfl⟩ ⟨Nat.le_of_ble_eq_true rfl, Nat.le_of_ble_eq_true rfl⟩ rfl hl.1 rfl (Nat.le_of_ble_eq_true rfl) dX7_stampLow_59) hI (fun H locs hI => ?_)
          refine lv_topi (fun x96 e96 => ?_)
          refine lv_if_eq (tgt := 120) hx hb dX7_stampLow_62 (by decide) (fun c97 => ?_) (fun c97 => ?_)
          · exact (by subst e96; subst e94; subst e92; subst e90; exact absurd c97 hN)
          · refine lv_aload_n hx hb dX7_stampLow_65 rfl (lv_at hl 1 rfl) ?_
            refine gm_19 S hK hI dX7_stampLow_66 ?_
            refine lv_iconst (v := 3) hx hb dX7_stampLow_69 (by decide) ?_
            refine lv_iload_n hx hb dX7_stampLow_70 rfl (lv_at hl 2 rfl) ?_
            refine lv_imul hx hb dX7_stampLow_71 ?_
            refine lv_eqi (v := (nI (3 * k))) (nM (a := 3) (b := k) (c := 3 * k) (by omega)) ?_
            refine lv_iload_n hx hb dX7_stampLow_72 rfl (lv_at hl 0 rfl) ?_
            refine lv_iadd hx hb dX7_stampLow_73 ?_
            refine lv_eqi (v := (nI (3 * k))) (nA (a := 3 * k) (b := 0) (c := 3 * k) (by omega)) ?_
            refine ln_4 (j := 3 * k) S hK hI (by omega) dX7_stampLow_74 ?_
            refine lv_topl (fun x98 e98 => ?_)
            refine lv_lstore_n (lv' := [(3, .long x98), (2, .int 0), (0, .ref (ad 1000)), (1, .int (nI k))]) hx hb dX7_stampLow_75 rfl hl (by decide) rfl (fun ls hl => ?_)
            refine lv_aload_n hx hb dX7_stampLow_76 rfl (lv_at hl 2 rfl) ?_
            refine gm_19 S hK hI dX7_stampLow_77 ?_
            refine lv_iconst (v := 3) hx hb dX7_stampLow_80 (by decide) ?_
            refine lv_iload_n hx hb dX7_stampLow_81 rfl (lv_at hl 3 rfl) ?_
            refine lv_imul hx hb dX7_stampLow_82 ?_
            refine lv_eqi (v := (nI (3 * k))) (nM (a := 3) (b := k) (c := 3 * k) (by omega)) ?_
            refine lv_iload_n hx hb dX7_stampLow_83 rfl (lv_at hl 1 rfl) ?_
            refine lv_iadd hx hb dX7_stampLow_84 ?_
            refine lv_eqi (v := (nI (3 * k))) (nA (a := 3 * k) (b := 0) (c := 3 * k) (by omega)) ?_
            refine lv_aload_n hx hb dX7_stampLow_85 rfl (lv_at hl 2 rfl) ?_
            refine gm_7 S hK hI dX7_stampLow_86 ?_
            refine lv_iload_n hx hb dX7_stampLow_89 rfl (lv_at hl 3 rfl) ?_
            refine ln_1 (j := k) S hK hI (by omega) dX7_stampLow_90 ?_
            refine lv_eqi (v := κ) (eκ) ?_
            refine lv_iconst (v := 3) hx hb dX7_stampLow_91 (by decide) ?_
            refine lv_icmp_ne (tgt := 101) hx hb dX7_stampLow_92 (by decide) (fun c99 => ?_) (fun c99 => ?_)
            · refine lv_aload_n hx hb dX7_stampLow_101 rfl (lv_at hl 2 rfl) ?_
              refine gm_7 S hK hI dX7_stampLow_102 ?_
              refine lv_iload_n hx hb dX7_stampLow_105 rfl (lv_at hl 3 rfl) ?_
              refine ln_1 (j := k) S hK hI (by omega) dX7_stampLow_106 ?_
              refine lv_eqi (v := κ) (eκ) ?_
              refine lv_lload_n hx hb dX7_stampLow_107 rfl (lv_at hl 0 rfl) ?_
              refine lv_lconst (v := 1) hx hb dX7_stampLow_108 (by decide) ?_
              refine lv_ladd hx hb dX7_stampLow_109 ?_
              refine lv_topl (fun x100 e100 => ?_)
              refine tw_calll (tw_rS (As := [.int κ, .long x100]) (rest := [.int (nI (3 * k)), .ref (ad 1004)]) S hK hI kX7_114 (c_X7_kept l D ad _ _ _ _) ⟨Nat.le_of_ble_eq_true rfl, Nat.le_of_ble_eq_true rfl⟩ ⟨Nat.le_of_ble_eq_true rfl, Nat.le_of_ble_eq_true rfl⟩ rfl hl.1 rfl (Nat.le_of_ble_eq_true rfl) dX7_stampLow_110) hI (fun H locs hI => ?_)
              refine lv_topl (fun x101 e101 => ?_)
              refine sn_4 (j := 3 * k) S hK hI (by omega) dX7_stampLow_113 (fun H locs hI => ?_)
              refine lv_iinc (v := 1) (lv' := [(2, .int 1), (3, .long x98), (0, .ref (ad 1000)), (1, .int (nI k))]) hx hb dX7_stampLow_114 hl (k := 1) rfl (by decide) (by decide) rfl (fun ls hl => ?_)
              refine lv_goto (tgt := 43) hx hb dX7_stampLow_117 (by decide) ?_
              refine lv_iload_n hx hb dX7_stampLow_43 rfl (lv_at hl 0 rfl) ?_
              refine lv_aload_n hx hb dX7_stampLow_44 rfl (lv_at hl 2 rfl) ?_
              refine gm_13 S hK hI dX7_stampLow_45 ?_
              refine lv_iload_n hx hb dX7_stampLow_48 rfl (lv_at hl 3 rfl) ?_
              refine ln_2 (j := k) S hK hI (by omega) dX7_stampLow_49 ?_
              refine lv_eqi (v := 2) (ez) ?_
              refine lv_icmp_ge (tgt := 120) hx hb dX7_stampLow_50 (by decide) (fun c102 => ?_) (fun c102 => ?_)
              · exact absurd c102 (by decide)
              · refine lv_aload_n hx hb dX7_stampLow_53 rfl (lv_at hl 2 rfl) ?_
                refine gm_7 S hK hI dX7_stampLow_54 ?_
                refine lv_iload_n hx hb dX7_stampLow_57 rfl (lv_at hl 3 rfl) ?_
                refine ln_1 (j := k) S hK hI (by omega) dX7_stampLow_58 ?_
                refine lv_eqi (v := κ) (eκ) ?_
                refine tw_calli (tw_rS (As := [.int κ]) (rest := []) S hK hI kX7_107 (c_X7_isOfNumbers l D ad _ _ _) ⟨Nat.le_of_ble_eq_true rfl, Nat.le_of_ble_eq_true rfl⟩ ⟨Nat.le_of_ble_eq_true rfl, Nat.le_of_ble_eq_true rfl⟩ rfl hl.1 rfl (Nat.le_of_ble_eq_true rfl) dX7_stampLow_59) hI (fun H locs hI => ?_)
                refine lv_topi (fun x103 e103 => ?_)
                refine lv_if_eq (tgt := 120) hx hb dX7_stampLow_62 (by decide) (fun c104 => ?_) (fun c104 => ?_)
                · exact (by subst e103; subst e101; subst e100; subst e98; subst e96; subst e94; subst e92; subst e90; exact absurd c104 hN)
                · refine lv_aload_n hx hb dX7_stampLow_65 rfl (lv_at hl 2 rfl) ?_
                  refine gm_19 S hK hI dX7_stampLow_66 ?_
                  refine lv_iconst (v := 3) hx hb dX7_stampLow_69 (by decide) ?_
                  refine lv_iload_n hx hb dX7_stampLow_70 rfl (lv_at hl 3 rfl) ?_
                  refine lv_imul hx hb dX7_stampLow_71 ?_
                  refine lv_eqi (v := (nI (3 * k))) (nM (a := 3) (b := k) (c := 3 * k) (by omega)) ?_
                  refine lv_iload_n hx hb dX7_stampLow_72 rfl (lv_at hl 0 rfl) ?_
                  refine lv_iadd hx hb dX7_stampLow_73 ?_
                  refine lv_eqi (v := (nI (3 * k + 1))) (nA (a := 3 * k) (b := 1) (c := 3 * k + 1) (by omega)) ?_
                  refine ln_4 (j := 3 * k + 1) S hK hI (by omega) dX7_stampLow_74 ?_
                  refine lv_topl (fun x105 e105 => ?_)
                  refine lv_lstore_n (lv' := [(3, .long x105), (2, .int 1), (0, .ref (ad 1000)), (1, .int (nI k))]) hx hb dX7_stampLow_75 rfl hl (by decide) rfl (fun ls hl => ?_)
                  refine lv_aload_n hx hb dX7_stampLow_76 rfl (lv_at hl 2 rfl) ?_
                  refine gm_19 S hK hI dX7_stampLow_77 ?_
                  refine lv_iconst (v := 3) hx hb dX7_stampLow_80 (by decide) ?_
                  refine lv_iload_n hx hb dX7_stampLow_81 rfl (lv_at hl 3 rfl) ?_
                  refine lv_imul hx hb dX7_stampLow_82 ?_
                  refine lv_eqi (v := (nI (3 * k))) (nM (a := 3) (b := k) (c := 3 * k) (by omega)) ?_
                  refine lv_iload_n hx hb dX7_stampLow_83 rfl (lv_at hl 1 rfl) ?_
                  refine lv_iadd hx hb dX7_stampLow_84 ?_
                  refine lv_eqi (v := (nI (3 * k + 1))) (nA (a := 3 * k) (b := 1) (c := 3 * k + 1) (by omega)) ?_
                  refine lv_aload_n hx hb dX7_stampLow_85 rfl (lv_at hl 2 rfl) ?_
                  refine gm_7 S hK hI dX7_stampLow_86 ?_
                  refine lv_iload_n hx hb dX7_stampLow_89 rfl (lv_at hl 3 rfl) ?_
                  refine ln_1 (j := k) S hK hI (by omega) dX7_stampLow_90 ?_
                  refine lv_eqi (v := κ) (eκ) ?_
                  refine lv_iconst (v := 3) hx hb dX7_stampLow_91 (by decide) ?_
                  refine lv_icmp_ne (tgt := 101) hx hb dX7_stampLow_92 (by decide) (fun c106 => ?_) (fun c106 => ?_)
                  · refine lv_aload_n hx hb dX7_stampLow_101 rfl (lv_at hl 2 rfl) ?_
                    refine gm_7 S hK hI dX7_stampLow_102 ?_
                    refine lv_iload_n hx hb dX7_stampLow_105 rfl (lv_at hl 3 rfl) ?_
                    refine ln_1 (j := k) S hK hI (by omega) dX7_stampLow_106 ?_
                    refine lv_eqi (v := κ) (eκ) ?_
                    refine lv_lload_n hx hb dX7_stampLow_107 rfl (lv_at hl 0 rfl) ?_
                    refine lv_lconst (v := 1) hx hb dX7_stampLow_108 (by decide) ?_
                    refine lv_ladd hx hb dX7_stampLow_109 ?_
                    refine lv_topl (fun x107 e107 => ?_)
                    refine tw_calll (tw_rS (As := [.int κ, .long x107]) (rest := [.int (nI (3 * k + 1)), .ref (ad 1004)]) S hK hI kX7_114 (c_X7_kept l D ad _ _ _ _) ⟨Nat.le_of_ble_eq_true rfl, Nat.le_of_ble_eq_true rfl⟩ ⟨Nat.le_of_ble_eq_true rfl, Nat.le_of_ble_eq_true rfl⟩ rfl hl.1 rfl (Nat.le_of_ble_eq_true rfl) dX7_stampLow_110) hI (fun H locs hI => ?_)
                    refine lv_topl (fun x108 e108 => ?_)
                    refine sn_4 (j := 3 * k + 1) S hK hI (by omega) dX7_stampLow_113 (fun H locs hI => ?_)
                    refine lv_iinc (v := 2) (lv' := [(2, .int 2), (3, .long x105), (0, .ref (ad 1000)), (1, .int (nI k))]) hx hb dX7_stampLow_114 hl (k := 1) rfl (by decide) (by decide) rfl (fun ls hl => ?_)
                    refine lv_goto (tgt := 43) hx hb dX7_stampLow_117 (by decide) ?_
                    refine lv_iload_n hx hb dX7_stampLow_43 rfl (lv_at hl 0 rfl) ?_
                    refine lv_aload_n hx hb dX7_stampLow_44 rfl (lv_at hl 2 rfl) ?_
                    refine gm_13 S hK hI dX7_stampLow_45 ?_
                    refine lv_iload_n hx hb dX7_stampLow_48 rfl (lv_at hl 3 rfl) ?_
                    refine ln_2 (j := k) S hK hI (by omega) dX7_stampLow_49 ?_
                    refine lv_eqi (v := 2) (ez) ?_
                    refine lv_icmp_ge (tgt := 120) hx hb dX7_stampLow_50 (by decide) (fun c109 => ?_) (fun c109 => ?_)
                    · subst e108
                      subst e107
                      subst e105
                      subst e103
                      subst e101
                      subst e100
                      subst e98
                      subst e96
                      subst e94
                      subst e92
                      subst e90
                      unfold stampLowF
                      unfold addS
                      have es : szS σ k = 2 := by unfold szS; rw [ez]; rfl
                      rw [es]
                      rw [eκ]
                      try simp only [bumpN, bump1, bumpF, Nat.add_zero]
                      try rw [if_neg hN]
                      try rw [if_neg c91]
                      try rw [if_pos c93]
                      try rw [if_neg (show ¬ (2 : Int32) ≤ 0 from by decide)]
                      try rw [if_neg hN]
                      try rw [if_neg c99]
                      try rw [if_neg (show ¬ (2 : Int32) ≤ 1 from by decide)]
                      try rw [if_neg hN]
                      try rw [if_neg c99]
                      try rw [if_pos (show (2 : Int32) ≤ 2 from by decide)]
                      exact tw_vret S hr hlocks hI dX7_stampLow_120
                    · exact absurd c109 (by decide)
                  · exact absurd c106 c99
            · refine lv_lconst (v := 1) hx hb dX7_stampLow_95 (by decide) ?_
              refine lv_lload_n hx hb dX7_stampLow_96 rfl (lv_at hl 0 rfl) ?_
              refine lv_lsub hx hb dX7_stampLow_97 ?_
              refine lv_topl (fun x110 e110 => ?_)
              refine lv_goto (tgt := 113) hx hb dX7_stampLow_98 (by decide) ?_
              refine sn_4 (j := 3 * k) S hK hI (by omega) dX7_stampLow_113 (fun H locs hI => ?_)
              refine lv_iinc (v := 1) (lv' := [(2, .int 1), (3, .long x98), (0, .ref (ad 1000)), (1, .int (nI k))]) hx hb dX7_stampLow_114 hl (k := 1) rfl (by decide) (by decide) rfl (fun ls hl => ?_)
              refine lv_goto (tgt := 43) hx hb dX7_stampLow_117 (by decide) ?_
              refine lv_iload_n hx hb dX7_stampLow_43 rfl (lv_at hl 0 rfl) ?_
              refine lv_aload_n hx hb dX7_stampLow_44 rfl (lv_at hl 2 rfl) ?_
              refine gm_13 S hK hI dX7_stampLow_45 ?_
              refine lv_iload_n hx hb dX7_stampLow_48 rfl (lv_at hl 3 rfl) ?_
              refine ln_2 (j := k) S hK hI (by omega) dX7_stampLow_49 ?_
              refine lv_eqi (v := 2) (ez) ?_
              refine lv_icmp_ge (tgt := 120) hx hb dX7_stampLow_50 (by decide) (fun c111 => ?_) (fun c111 => ?_)
              · exact absurd c111 (by decide)
              · refine lv_aload_n hx hb dX7_stampLow_53 rfl (lv_at hl 2 rfl) ?_
                refine gm_7 S hK hI dX7_stampLow_54 ?_
                refine lv_iload_n hx hb dX7_stampLow_57 rfl (lv_at hl 3 rfl) ?_
                refine ln_1 (j := k) S hK hI (by omega) dX7_stampLow_58 ?_
                refine lv_eqi (v := κ) (eκ) ?_
                refine tw_calli (tw_rS (As := [.int κ]) (rest := []) S hK hI kX7_107 (c_X7_isOfNumbers l D ad _ _ _) ⟨Nat.le_of_ble_eq_true rfl, Nat.le_of_ble_eq_true rfl⟩ ⟨Nat.le_of_ble_eq_true rfl, Nat.le_of_ble_eq_true rfl⟩ rfl hl.1 rfl (Nat.le_of_ble_eq_true rfl) dX7_stampLow_59) hI (fun H locs hI => ?_)
                refine lv_topi (fun x112 e112 => ?_)
                refine lv_if_eq (tgt := 120) hx hb dX7_stampLow_62 (by decide) (fun c113 => ?_) (fun c113 => ?_)
                · exact (by subst e112; subst e110; subst e98; subst e96; subst e94; subst e92; subst e90; exact absurd c113 hN)
                · refine lv_aload_n hx hb dX7_stampLow_65 rfl (lv_at hl 2 rfl) ?_
                  refine gm_19 S hK hI dX7_stampLow_66 ?_
                  refine lv_iconst (v := 3) hx hb dX7_stampLow_69 (by decide) ?_
                  refine lv_iload_n hx hb dX7_stampLow_70 rfl (lv_at hl 3 rfl) ?_
                  refine lv_imul hx hb dX7_stampLow_71 ?_
                  refine lv_eqi (v := (nI (3 * k))) (nM (a := 3) (b := k) (c := 3 * k) (by omega)) ?_
                  refine lv_iload_n hx hb dX7_stampLow_72 rfl (lv_at hl 0 rfl) ?_
                  refine lv_iadd hx hb dX7_stampLow_73 ?_
                  refine lv_eqi (v := (nI (3 * k + 1))) (nA (a := 3 * k) (b := 1) (c := 3 * k + 1) (by omega)) ?_
                  refine ln_4 (j := 3 * k + 1) S hK hI (by omega) dX7_stampLow_74 ?_
                  refine lv_topl (fun x114 e114 => ?_)
                  refine lv_lstore_n (lv' := [(3, .long x114), (2, .int 1), (0, .ref (ad 1000)), (1, .int (nI k))]) hx hb dX7_stampLow_75 rfl hl (by decide) rfl (fun ls hl => ?_)
                  refine lv_aload_n hx hb dX7_stampLow_76 rfl (lv_at hl 2 rfl) ?_
                  refine gm_19 S hK hI dX7_stampLow_77 ?_
                  refine lv_iconst (v := 3) hx hb dX7_stampLow_80 (by decide) ?_
                  refine lv_iload_n hx hb dX7_stampLow_81 rfl (lv_at hl 3 rfl) ?_
                  refine lv_imul hx hb dX7_stampLow_82 ?_
                  refine lv_eqi (v := (nI (3 * k))) (nM (a := 3) (b := k) (c := 3 * k) (by omega)) ?_
                  refine lv_iload_n hx hb dX7_stampLow_83 rfl (lv_at hl 1 rfl) ?_
                  refine lv_iadd hx hb dX7_stampLow_84 ?_
                  refine lv_eqi (v := (nI (3 * k + 1))) (nA (a := 3 * k) (b := 1) (c := 3 * k + 1) (by omega)) ?_
                  refine lv_aload_n hx hb dX7_stampLow_85 rfl (lv_at hl 2 rfl) ?_
                  refine gm_7 S hK hI dX7_stampLow_86 ?_
                  refine lv_iload_n hx hb dX7_stampLow_89 rfl (lv_at hl 3 rfl) ?_
                  refine ln_1 (j := k) S hK hI (by omega) dX7_stampLow_90 ?_
                  refine lv_eqi (v := κ) (eκ) ?_
                  refine lv_iconst (v := 3) hx hb dX7_stampLow_91 (by decide) ?_
                  refine lv_icmp_ne (tgt := 101) hx hb dX7_stampLow_92 (by decide) (fun c115 => ?_) (fun c115 => ?_)
                  · exact absurd c99 c115
                  · refine lv_lconst (v := 1) hx hb dX7_stampLow_95 (by decide) ?_
                    refine lv_lload_n hx hb dX7_stampLow_96 rfl (lv_at hl 0 rfl) ?_
                    refine lv_lsub hx hb dX7_stampLow_97 ?_
                    refine lv_topl (fun x116 e116 => ?_)
                    refine lv_goto (tgt := 113) hx hb dX7_stampLow_98 (by decide) ?_
                    refine sn_4 (j := 3 * k + 1) S hK hI (by omega) dX7_stampLow_113 (fun H locs hI => ?_)
                    refine lv_iinc (v := 2) (lv' := [(2, .int 2), (3, .long x114), (0, .ref (ad 1000)), (1, .int (nI k))]) hx hb dX7_stampLow_114 hl (k := 1) rfl (by decide) (by decide) rfl (fun ls hl => ?_)
                    refine lv_goto (tgt := 43) hx hb dX7_stampLow_117 (by decide) ?_
                    refine lv_iload_n hx hb dX7_stampLow_43 rfl (lv_at hl 0 rfl) ?_
                    refine lv_aload_n hx hb dX7_stampLow_44 rfl (lv_at hl 2 rfl) ?_
                    refine gm_13 S hK hI dX7_stampLow_45 ?_
                    refine lv_iload_n hx hb dX7_stampLow_48 rfl (lv_at hl 3 rfl) ?_
                    refine ln_2 (j := k) S hK hI (by omega) dX7_stampLow_49 ?_
                    refine lv_eqi (v := 2) (ez) ?_
                    refine lv_icmp_ge (tgt := 120) hx hb dX7_stampLow_50 (by decide) (fun c117 => ?_) (fun c117 => ?_)
                    · subst e116
                      subst e114
                      subst e112
                      subst e110
                      subst e98
                      subst e96
                      subst e94
                      subst e92
                      subst e90
                      unfold stampLowF
                      unfold addS
                      have es : szS σ k = 2 := by unfold szS; rw [ez]; rfl
                      rw [es]
                      rw [eκ]
                      try simp only [bumpN, bump1, bumpF, Nat.add_zero]
                      try rw [if_neg hN]
                      try rw [if_neg c91]
                      try rw [if_pos c93]
                      try rw [if_neg (show ¬ (2 : Int32) ≤ 0 from by decide)]
                      try rw [if_neg hN]
                      try rw [if_pos c99]
                      try rw [if_neg (show ¬ (2 : Int32) ≤ 1 from by decide)]
                      try rw [if_neg hN]
                      try rw [if_pos c99]
                      try rw [if_pos (show (2 : Int32) ≤ 2 from by decide)]
                      exact tw_vret S hr hlocks hI dX7_stampLow_120
                    · exact absurd c117 (by decide)
      · refine lv_iconst (v := 1) hx hb dX7_stampLow_34 (by decide) ?_
        refine lv_goto (tgt := 39) hx hb dX7_stampLow_35 (by decide) ?_
        refine lv_iadd hx hb dX7_stampLow_39 ?_
        refine lv_topi (fun x118 e118 => ?_)
        refine sn_3 (j := k) S hK hI (by omega) dX7_stampLow_40 (fun H locs hI => ?_)
        refine lv_iconst (v := 0) hx hb dX7_stampLow_41 (by decide) ?_
        refine lv_istore_n (lv' := [(2, .int 0), (0, .ref (ad 1000)), (1, .int (nI k))]) hx hb dX7_stampLow_42 rfl hl (by decide) rfl (fun ls hl => ?_)
        refine lv_iload_n hx hb dX7_stampLow_43 rfl (lv_at hl 0 rfl) ?_
        refine lv_aload_n hx hb dX7_stampLow_44 rfl (lv_at hl 1 rfl) ?_
        refine gm_13 S hK hI dX7_stampLow_45 ?_
        refine lv_iload_n hx hb dX7_stampLow_48 rfl (lv_at hl 2 rfl) ?_
        refine ln_2 (j := k) S hK hI (by omega) dX7_stampLow_49 ?_
        refine lv_eqi (v := 2) (ez) ?_
        refine lv_icmp_ge (tgt := 120) hx hb dX7_stampLow_50 (by decide) (fun c119 => ?_) (fun c119 => ?_)
        · exact absurd c119 (by decide)
        · refine lv_aload_n hx hb dX7_stampLow_53 rfl (lv_at hl 1 rfl) ?_
          refine gm_7 S hK hI dX7_stampLow_54 ?_
          refine lv_iload_n hx hb dX7_stampLow_57 rfl (lv_at hl 2 rfl) ?_
          refine ln_1 (j := k) S hK hI (by omega) dX7_stampLow_58 ?_
          refine lv_eqi (v := κ) (eκ) ?_
          refine tw_calli (tw_rS (As := [.int κ]) (rest := []) S hK hI kX7_107 (c_X7_isOfNumbers l D ad _ _ _) ⟨Nat.le_of_ble_eq_true rfl, Nat.le_of_ble_eq_true rfl⟩ ⟨Nat.le_of_ble_eq_true rfl, Nat.le_of_ble_eq_true rfl⟩ rfl hl.1 rfl (Nat.le_of_ble_eq_true rfl) dX7_stampLow_59) hI (fun H locs hI => ?_)
          refine lv_topi (fun x120 e120 => ?_)
          refine lv_if_eq (tgt := 120) hx hb dX7_stampLow_62 (by decide) (fun c121 => ?_) (fun c121 => ?_)
          · exact (by subst e120; subst e118; subst e92; subst e90; exact absurd c121 hN)
          · refine lv_aload_n hx hb dX7_stampLow_65 rfl (lv_at hl 1 rfl) ?_
            refine gm_19 S hK hI dX7_stampLow_66 ?_
            refine lv_iconst (v := 3) hx hb dX7_stampLow_69 (by decide) ?_
            refine lv_iload_n hx hb dX7_stampLow_70 rfl (lv_at hl 2 rfl) ?_
            refine lv_imul hx hb dX7_stampLow_71 ?_
            refine lv_eqi (v := (nI (3 * k))) (nM (a := 3) (b := k) (c := 3 * k) (by omega)) ?_
            refine lv_iload_n hx hb dX7_stampLow_72 rfl (lv_at hl 0 rfl) ?_
            refine lv_iadd hx hb dX7_stampLow_73 ?_
            refine lv_eqi (v := (nI (3 * k))) (nA (a := 3 * k) (b := 0) (c := 3 * k) (by omega)) ?_
            refine ln_4 (j := 3 * k) S hK hI (by omega) dX7_stampLow_74 ?_
            refine lv_topl (fun x122 e122 => ?_)
            refine lv_lstore_n (lv' := [(3, .long x122), (2, .int 0), (0, .ref (ad 1000)), (1, .int (nI k))]) hx hb dX7_stampLow_75 rfl hl (by decide) rfl (fun ls hl => ?_)
            refine lv_aload_n hx hb dX7_stampLow_76 rfl (lv_at hl 2 rfl) ?_
            refine gm_19 S hK hI dX7_stampLow_77 ?_
            refine lv_iconst (v := 3) hx hb dX7_stampLow_80 (by decide) ?_
            refine lv_iload_n hx hb dX7_stampLow_81 rfl (lv_at hl 3 rfl) ?_
            refine lv_imul hx hb dX7_stampLow_82 ?_
            refine lv_eqi (v := (nI (3 * k))) (nM (a := 3) (b := k) (c := 3 * k) (by omega)) ?_
            refine lv_iload_n hx hb dX7_stampLow_83 rfl (lv_at hl 1 rfl) ?_
            refine lv_iadd hx hb dX7_stampLow_84 ?_
            refine lv_eqi (v := (nI (3 * k))) (nA (a := 3 * k) (b := 0) (c := 3 * k) (by omega)) ?_
            refine lv_aload_n hx hb dX7_stampLow_85 rfl (lv_at hl 2 rfl) ?_
            refine gm_7 S hK hI dX7_stampLow_86 ?_
            refine lv_iload_n hx hb dX7_stampLow_89 rfl (lv_at hl 3 rfl) ?_
            refine ln_1 (j := k) S hK hI (by omega) dX7_stampLow_90 ?_
            refine lv_eqi (v := κ) (eκ) ?_
            refine lv_iconst (v := 3) hx hb dX7_stampLow_91 (by decide) ?_
            refine lv_icmp_ne (tgt := 101) hx hb dX7_stampLow_92 (by decide) (fun c123 => ?_) (fun c123 => ?_)
            · refine lv_aload_n hx hb dX7_stampLow_101 rfl (lv_at hl 2 rfl) ?_
              refine gm_7 S hK hI dX7_stampLow_102 ?_
              refine lv_iload_n hx hb dX7_stampLow_105 rfl (lv_at hl 3 rfl) ?_
              refine ln_1 (j := k) S hK hI (by omega) dX7_stampLow_106 ?_
              refine lv_eqi (v := κ) (eκ) ?_
              refine lv_lload_n hx hb dX7_stampLow_107 rfl (lv_at hl 0 rfl) ?_
              refine lv_lconst (v := 1) hx hb dX7_stampLow_108 (by decide) ?_
              refine lv_ladd hx hb dX7_stampLow_109 ?_
              refine lv_topl (fun x124 e124 => ?_)
              refine tw_calll (tw_rS (As := [.int κ, .long x124]) (rest := [.int (nI (3 * k)), .ref (ad 1004)]) S hK hI kX7_114 (c_X7_kept l D ad _ _ _ _) ⟨Nat.le_of_ble_eq_true rfl, Nat.le_of_ble_eq_true rfl⟩ ⟨Nat.le_of_ble_eq_true rfl, Nat.le_of_ble_eq_true rfl⟩ rfl hl.1 rfl (Nat.le_of_ble_eq_true rfl) dX7_stampLow_110) hI (fun H locs hI => ?_)
              refine lv_topl (fun x125 e125 => ?_)
              refine sn_4 (j := 3 * k) S hK hI (by omega) dX7_stampLow_113 (fun H locs hI => ?_)
              refine lv_iinc (v := 1) (lv' := [(2, .int 1), (3, .long x122), (0, .ref (ad 1000)), (1, .int (nI k))]) hx hb dX7_stampLow_114 hl (k := 1) rfl (by decide) (by decide) rfl (fun ls hl => ?_)
              refine lv_goto (tgt := 43) hx hb dX7_stampLow_117 (by decide) ?_
              refine lv_iload_n hx hb dX7_stampLow_43 rfl (lv_at hl 0 rfl) ?_
              refine lv_aload_n hx hb dX7_stampLow_44 rfl (lv_at hl 2 rfl) ?_
              refine gm_13 S hK hI dX7_stampLow_45 ?_
              refine lv_iload_n hx hb dX7_stampLow_48 rfl (lv_at hl 3 rfl) ?_
              refine ln_2 (j := k) S hK hI (by omega) dX7_stampLow_49 ?_
              refine lv_eqi (v := 2) (ez) ?_
              refine lv_icmp_ge (tgt := 120) hx hb dX7_stampLow_50 (by decide) (fun c126 => ?_) (fun c126 => ?_)
              · exact absurd c126 (by decide)
              · refine lv_aload_n hx hb dX7_stampLow_53 rfl (lv_at hl 2 rfl) ?_
                refine gm_7 S hK hI dX7_stampLow_54 ?_
                refine lv_iload_n hx hb dX7_stampLow_57 rfl (lv_at hl 3 rfl) ?_
                refine ln_1 (j := k) S hK hI (by omega) dX7_stampLow_58 ?_
                refine lv_eqi (v := κ) (eκ) ?_
                refine tw_calli (tw_rS (As := [.int κ]) (rest := []) S hK hI kX7_107 (c_X7_isOfNumbers l D ad _ _ _) ⟨Nat.le_of_ble_eq_true rfl, Nat.le_of_ble_eq_true rfl⟩ ⟨Nat.le_of_ble_eq_true rfl, Nat.le_of_ble_eq_true rfl⟩ rfl hl.1 rfl (Nat.le_of_ble_eq_true rfl) dX7_stampLow_59) hI (fun H locs hI => ?_)
                refine lv_topi (fun x127 e127 => ?_)
                refine lv_if_eq (tgt := 120) hx hb dX7_stampLow_62 (by decide) (fun c128 => ?_) (fun c128 => ?_)
                · exact (by subst e127; subst e125; subst e124; subst e122; subst e120; subst e118; subst e92; subst e90; exact absurd c128 hN)
                · refine lv_aload_n hx hb dX7_stampLow_65 rfl (lv_at hl 2 rfl) ?_
                  refine gm_19 S hK hI dX7_stampLow_66 ?_
                  refine lv_iconst (v := 3) hx hb dX7_stampLow_69 (by decide) ?_
                  refine lv_iload_n hx hb dX7_stampLow_70 rfl (lv_at hl 3 rfl) ?_
                  refine lv_imul hx hb dX7_stampLow_71 ?_
                  refine lv_eqi (v := (nI (3 * k))) (nM (a := 3) (b := k) (c := 3 * k) (by omega)) ?_
                  refine lv_iload_n hx hb dX7_stampLow_72 rfl (lv_at hl 0 rfl) ?_
                  refine lv_iadd hx hb dX7_stampLow_73 ?_
                  refine lv_eqi (v := (nI (3 * k + 1))) (nA (a := 3 * k) (b := 1) (c := 3 * k + 1) (by omega)) ?_
                  refine ln_4 (j := 3 * k + 1) S hK hI (by omega) dX7_stampLow_74 ?_
                  refine lv_topl (fun x129 e129 => ?_)
                  refine lv_lstore_n (lv' := [(3, .long x129), (2, .int 1), (0, .ref (ad 1000)), (1, .int (nI k))]) hx hb dX7_stampLow_75 rfl hl (by decide) rfl (fun ls hl => ?_)
                  refine lv_aload_n hx hb dX7_stampLow_76 rfl (lv_at hl 2 rfl) ?_
                  refine gm_19 S hK hI dX7_stampLow_77 ?_
                  refine lv_iconst (v := 3) hx hb dX7_stampLow_80 (by decide) ?_
                  refine lv_iload_n hx hb dX7_stampLow_81 rfl (lv_at hl 3 rfl) ?_
                  refine lv_imul hx hb dX7_stampLow_82 ?_
                  refine lv_eqi (v := (nI (3 * k))) (nM (a := 3) (b := k) (c := 3 * k) (by omega)) ?_
                  refine lv_iload_n hx hb dX7_stampLow_83 rfl (lv_at hl 1 rfl) ?_
                  refine lv_iadd hx hb dX7_stampLow_84 ?_
                  refine lv_eqi (v := (nI (3 * k + 1))) (nA (a := 3 * k) (b := 1) (c := 3 * k + 1) (by omega)) ?_
                  refine lv_aload_n hx hb dX7_stampLow_85 rfl (lv_at hl 2 rfl) ?_
                  refine gm_7 S hK hI dX7_stampLow_86 ?_
                  refine lv_iload_n hx hb dX7_stampLow_89 rfl (lv_at hl 3 rfl) ?_
                  refine ln_1 (j := k) S hK hI (by omega) dX7_stampLow_90 ?_
                  refine lv_eqi (v := κ) (eκ) ?_
                  refine lv_iconst (v := 3) hx hb dX7_stampLow_91 (by decide) ?_
                  refine lv_icmp_ne (tgt := 101) hx hb dX7_stampLow_92 (by decide) (fun c130 => ?_) (fun c130 => ?_)
                  · refine lv_aload_n hx hb dX7_stampLow_101 rfl (lv_at hl 2 rfl) ?_
                    refine gm_7 S hK hI dX7_stampLow_102 ?_
                    refine lv_iload_n hx hb dX7_stampLow_105 rfl (lv_at hl 3 rfl) ?_
                    refine ln_1 (j := k) S hK hI (by omega) dX7_stampLow_106 ?_
                    refine lv_eqi (v := κ) (eκ) ?_
                    refine lv_lload_n hx hb dX7_stampLow_107 rfl (lv_at hl 0 rfl) ?_
                    refine lv_lconst (v := 1) hx hb dX7_stampLow_108 (by decide) ?_
                    refine lv_ladd hx hb dX7_stampLow_109 ?_
                    refine lv_topl (fun x131 e131 => ?_)
                    refine tw_calll (tw_rS (As := [.int κ, .long x131]) (rest := [.int (nI (3 * k + 1)), .ref (ad 1004)]) S hK hI kX7_114 (c_X7_kept l D ad _ _ _ _) ⟨Nat.le_of_ble_eq_true rfl, Nat.le_of_ble_eq_true rfl⟩ ⟨Nat.le_of_ble_eq_true rfl, Nat.le_of_ble_eq_true rfl⟩ rfl hl.1 rfl (Nat.le_of_ble_eq_true rfl) dX7_stampLow_110) hI (fun H locs hI => ?_)
                    refine lv_topl (fun x132 e132 => ?_)
                    refine sn_4 (j := 3 * k + 1) S hK hI (by omega) dX7_stampLow_113 (fun H locs hI => ?_)
                    refine lv_iinc (v := 2) (lv' := [(2, .int 2), (3, .long x129), (0, .ref (ad 1000)), (1, .int (nI k))]) hx hb dX7_stampLow_114 hl (k := 1) rfl (by decide) (by decide) rfl (fun ls hl => ?_)
                    refine lv_goto (tgt := 43) hx hb dX7_stampLow_117 (by decide) ?_
                    refine lv_iload_n hx hb dX7_stampLow_43 rfl (lv_at hl 0 rfl) ?_
                    refine lv_aload_n hx hb dX7_stampLow_44 rfl (lv_at hl 2 rfl) ?_
                    refine gm_13 S hK hI dX7_stampLow_45 ?_
                    refine lv_iload_n hx hb dX7_stampLow_48 rfl (lv_at hl 3 rfl) ?_
                    refine ln_2 (j := k) S hK hI (by omega) dX7_stampLow_49 ?_
                    refine lv_eqi (v := 2) (ez) ?_
                    refine lv_icmp_ge (tgt := 120) hx hb dX7_stampLow_50 (by decide) (fun c133 => ?_) (fun c133 => ?_)
                    · subst e132
                      subst e131
                      subst e129
                      subst e127
                      subst e125
                      subst e124
                      subst e122
                      subst e120
                      subst e118
                      subst e92
                      subst e90
                      unfold stampLowF
                      unfold addS
                      have es : szS σ k = 2 := by unfold szS; rw [ez]; rfl
                      rw [es]
                      rw [eκ]
                      try simp only [bumpN, bump1, bumpF, Nat.add_zero]
                      try rw [if_neg hN]
                      try rw [if_neg c91]
                      try rw [if_neg c93]
                      try rw [if_neg (show ¬ (2 : Int32) ≤ 0 from by decide)]
                      try rw [if_neg hN]
                      try rw [if_neg c123]
                      try rw [if_neg (show ¬ (2 : Int32) ≤ 1 from by decide)]
                      try rw [if_neg hN]
                      try rw [if_neg c123]
                      try rw [if_pos (show (2 : Int32) ≤ 2 from by decide)]
                      exact tw_vret S hr hlocks hI dX7_stampLow_120
                    · exact absurd c133 (by decide)
                  · exact absurd c130 c123
            · refine lv_lconst (v := 1) hx hb dX7_stampLow_95 (by decide) ?_
              refine lv_lload_n hx hb dX7_stampLow_96 rfl (lv_at hl 0 rfl) ?_
              refine lv_lsub hx hb dX7_stampLow_97 ?_
              refine lv_topl (fun x134 e134 => ?_)
              refine lv_goto (tgt := 113) hx hb dX7_stampLow_98 (by decide) ?_
              refine sn_4 (j := 3 * k) S hK hI (by omega) dX7_stampLow_113 (fun H locs hI => ?_)
              refine lv_iinc (v := 1) (lv' := [(2, .int 1), (3, .long x122), (0, .ref (ad 1000)), (1, .int (nI k))]) hx hb dX7_stampLow_114 hl (k := 1) rfl (by decide) (by decide) rfl (fun ls hl => ?_)
              refine lv_goto (tgt := 43) hx hb dX7_stampLow_117 (by decide) ?_
              refine lv_iload_n hx hb dX7_stampLow_43 rfl (lv_at hl 0 rfl) ?_
              refine lv_aload_n hx hb dX7_stampLow_44 rfl (lv_at hl 2 rfl) ?_
              refine gm_13 S hK hI dX7_stampLow_45 ?_
              refine lv_iload_n hx hb dX7_stampLow_48 rfl (lv_at hl 3 rfl) ?_
              refine ln_2 (j := k) S hK hI (by omega) dX7_stampLow_49 ?_
              refine lv_eqi (v := 2) (ez) ?_
              refine lv_icmp_ge (tgt := 120) hx hb dX7_stampLow_50 (by decide) (fun c135 => ?_) (fun c135 => ?_)
              · exact absurd c135 (by decide)
              · refine lv_aload_n hx hb dX7_stampLow_53 rfl (lv_at hl 2 rfl) ?_
                refine gm_7 S hK hI dX7_stampLow_54 ?_
                refine lv_iload_n hx hb dX7_stampLow_57 rfl (lv_at hl 3 rfl) ?_
                refine ln_1 (j := k) S hK hI (by omega) dX7_stampLow_58 ?_
                refine lv_eqi (v := κ) (eκ) ?_
                refine tw_calli (tw_rS (As := [.int κ]) (rest := []) S hK hI kX7_107 (c_X7_isOfNumbers l D ad _ _ _) ⟨Nat.le_of_ble_eq_true rfl, Nat.le_of_ble_eq_true rfl⟩ ⟨Nat.le_of_ble_eq_true rfl, Nat.le_of_ble_eq_true rfl⟩ rfl hl.1 rfl (Nat.le_of_ble_eq_true rfl) dX7_stampLow_59) hI (fun H locs hI => ?_)
                refine lv_topi (fun x136 e136 => ?_)
                refine lv_if_eq (tgt := 120) hx hb dX7_stampLow_62 (by decide) (fun c137 => ?_) (fun c137 => ?_)
                · exact (by subst e136; subst e134; subst e122; subst e120; subst e118; subst e92; subst e90; exact absurd c137 hN)
                · refine lv_aload_n hx hb dX7_stampLow_65 rfl (lv_at hl 2 rfl) ?_
                  refine gm_19 S hK hI dX7_stampLow_66 ?_
                  refine lv_iconst (v := 3) hx hb dX7_stampLow_69 (by decide) ?_
                  refine lv_iload_n hx hb dX7_stampLow_70 rfl (lv_at hl 3 rfl) ?_
                  refine lv_imul hx hb dX7_stampLow_71 ?_
                  refine lv_eqi (v := (nI (3 * k))) (nM (a := 3) (b := k) (c := 3 * k) (by omega)) ?_
                  refine lv_iload_n hx hb dX7_stampLow_72 rfl (lv_at hl 0 rfl) ?_
                  refine lv_iadd hx hb dX7_stampLow_73 ?_
                  refine lv_eqi (v := (nI (3 * k + 1))) (nA (a := 3 * k) (b := 1) (c := 3 * k + 1) (by omega)) ?_
                  refine ln_4 (j := 3 * k + 1) S hK hI (by omega) dX7_stampLow_74 ?_
                  refine lv_topl (fun x138 e138 => ?_)
                  refine lv_lstore_n (lv' := [(3, .long x138), (2, .int 1), (0, .ref (ad 1000)), (1, .int (nI k))]) hx hb dX7_stampLow_75 rfl hl (by decide) rfl (fun ls hl => ?_)
                  refine lv_aload_n hx hb dX7_stampLow_76 rfl (lv_at hl 2 rfl) ?_
                  refine gm_19 S hK hI dX7_stampLow_77 ?_
                  refine lv_iconst (v := 3) hx hb dX7_stampLow_80 (by decide) ?_
                  refine lv_iload_n hx hb dX7_stampLow_81 rfl (lv_at hl 3 rfl) ?_
                  refine lv_imul hx hb dX7_stampLow_82 ?_
                  refine lv_eqi (v := (nI (3 * k))) (nM (a := 3) (b := k) (c := 3 * k) (by omega)) ?_
                  refine lv_iload_n hx hb dX7_stampLow_83 rfl (lv_at hl 1 rfl) ?_
                  refine lv_iadd hx hb dX7_stampLow_84 ?_
                  refine lv_eqi (v := (nI (3 * k + 1))) (nA (a := 3 * k) (b := 1) (c := 3 * k + 1) (by omega)) ?_
                  refine lv_aload_n hx hb dX7_stampLow_85 rfl (lv_at hl 2 rfl) ?_
                  refine gm_7 S hK hI dX7_stampLow_86 ?_
                  refine lv_iload_n hx hb dX7_stampLow_89 rfl (lv_at hl 3 rfl) ?_
                  refine ln_1 (j := k) S hK hI (by omega) dX7_stampLow_90 ?_
                  refine lv_eqi (v := κ) (eκ) ?_
                  refine lv_iconst (v := 3) hx hb dX7_stampLow_91 (by decide) ?_
                  refine lv_icmp_ne (tgt := 101) hx hb dX7_stampLow_92 (by decide) (fun c139 => ?_) (fun c139 => ?_)
                  · exact absurd c123 c139
                  · refine lv_lconst (v := 1) hx hb dX7_stampLow_95 (by decide) ?_
                    refine lv_lload_n hx hb dX7_stampLow_96 rfl (lv_at hl 0 rfl) ?_
                    refine lv_lsub hx hb dX7_stampLow_97 ?_
                    refine lv_topl (fun x140 e140 => ?_)
                    refine lv_goto (tgt := 113) hx hb dX7_stampLow_98 (by decide) ?_
                    refine sn_4 (j := 3 * k + 1) S hK hI (by omega) dX7_stampLow_113 (fun H locs hI => ?_)
                    refine lv_iinc (v := 2) (lv' := [(2, .int 2), (3, .long x138), (0, .ref (ad 1000)), (1, .int (nI k))]) hx hb dX7_stampLow_114 hl (k := 1) rfl (by decide) (by decide) rfl (fun ls hl => ?_)
                    refine lv_goto (tgt := 43) hx hb dX7_stampLow_117 (by decide) ?_
                    refine lv_iload_n hx hb dX7_stampLow_43 rfl (lv_at hl 0 rfl) ?_
                    refine lv_aload_n hx hb dX7_stampLow_44 rfl (lv_at hl 2 rfl) ?_
                    refine gm_13 S hK hI dX7_stampLow_45 ?_
                    refine lv_iload_n hx hb dX7_stampLow_48 rfl (lv_at hl 3 rfl) ?_
                    refine ln_2 (j := k) S hK hI (by omega) dX7_stampLow_49 ?_
                    refine lv_eqi (v := 2) (ez) ?_
                    refine lv_icmp_ge (tgt := 120) hx hb dX7_stampLow_50 (by decide) (fun c141 => ?_) (fun c141 => ?_)
                    · subst e140
                      subst e138
                      subst e136
                      subst e134
                      subst e122
                      subst e120
                      subst e118
                      subst e92
                      subst e90
                      unfold stampLowF
                      unfold addS
                      have es : szS σ k = 2 := by unfold szS; rw [ez]; rfl
                      rw [es]
                      rw [eκ]
                      try simp only [bumpN, bump1, bumpF, Nat.add_zero]
                      try rw [if_neg hN]
                      try rw [if_neg c91]
                      try rw [if_neg c93]
                      try rw [if_neg (show ¬ (2 : Int32) ≤ 0 from by decide)]
                      try rw [if_neg hN]
                      try rw [if_pos c123]
                      try rw [if_neg (show ¬ (2 : Int32) ≤ 1 from by decide)]
                      try rw [if_neg hN]
                      try rw [if_pos c123]
                      try rw [if_pos (show (2 : Int32) ≤ 2 from by decide)]
                      exact tw_vret S hr hlocks hI dX7_stampLow_120
                    · exact absurd c141 (by decide)
    · refine lv_iconst (v := 2) hx hb dX7_stampLow_18 (by decide) ?_
      refine lv_goto (tgt := 39) hx hb dX7_stampLow_19 (by decide) ?_
      refine lv_iadd hx hb dX7_stampLow_39 ?_
      refine lv_topi (fun x142 e142 => ?_)
      refine sn_3 (j := k) S hK hI (by omega) dX7_stampLow_40 (fun H locs hI => ?_)
      refine lv_iconst (v := 0) hx hb dX7_stampLow_41 (by decide) ?_
      refine lv_istore_n (lv' := [(2, .int 0), (0, .ref (ad 1000)), (1, .int (nI k))]) hx hb dX7_stampLow_42 rfl hl (by decide) rfl (fun ls hl => ?_)
      refine lv_iload_n hx hb dX7_stampLow_43 rfl (lv_at hl 0 rfl) ?_
      refine lv_aload_n hx hb dX7_stampLow_44 rfl (lv_at hl 1 rfl) ?_
      refine gm_13 S hK hI dX7_stampLow_45 ?_
      refine lv_iload_n hx hb dX7_stampLow_48 rfl (lv_at hl 2 rfl) ?_
      refine ln_2 (j := k) S hK hI (by omega) dX7_stampLow_49 ?_
      refine lv_eqi (v := 2) (ez) ?_
      refine lv_icmp_ge (tgt := 120) hx hb dX7_stampLow_50 (by decide) (fun c143 => ?_) (fun c143 => ?_)
      · exact absurd c143 (by decide)
      · refine lv_aload_n hx hb dX7_stampLow_53 rfl (lv_at hl 1 rfl) ?_
        refine gm_7 S hK hI dX7_stampLow_54 ?_
        refine lv_iload_n hx hb dX7_stampLow_57 rfl (lv_at hl 2 rfl) ?_
        refine ln_1 (j := k) S hK hI (by omega) dX7_stampLow_58 ?_
        refine lv_eqi (v := κ) (eκ) ?_
        refine tw_calli (tw_rS (As := [.int κ]) (rest := []) S hK hI kX7_107 (c_X7_isOfNumbers l D ad _ _ _) ⟨Nat.le_of_ble_eq_true rfl, Nat.le_of_ble_eq_true rfl⟩ ⟨Nat.le_of_ble_eq_true rfl, Nat.le_of_ble_eq_true rfl⟩ rfl hl.1 rfl (Nat.le_of_ble_eq_true rfl) dX7_stampLow_59) hI (fun H locs hI => ?_)
        refine lv_topi (fun x144 e144 => ?_)
        refine lv_if_eq (tgt := 120) hx hb dX7_stampLow_62 (by decide) (fun c145 => ?_) (fun c145 => ?_)
        · exact (by subst e144; subst e142; subst e90; exact absurd c145 hN)
        · refine lv_aload_n hx hb dX7_stampLow_65 rfl (lv_at hl 1 rfl) ?_
          refine gm_19 S hK hI dX7_stampLow_66 ?_
          refine lv_iconst (v := 3) hx hb dX7_stampLow_69 (by decide) ?_
          refine lv_iload_n hx hb dX7_stampLow_70 rfl (lv_at hl 2 rfl) ?_
          refine lv_imul hx hb dX7_stampLow_71 ?_
          refine lv_eqi (v := (nI (3 * k))) (nM (a := 3) (b := k) (c := 3 * k) (by omega)) ?_
          refine lv_iload_n hx hb dX7_stampLow_72 rfl (lv_at hl 0 rfl) ?_
          refine lv_iadd hx hb dX7_stampLow_73 ?_
          refine lv_eqi (v := (nI (3 * k))) (nA (a := 3 * k) (b := 0) (c := 3 * k) (by omega)) ?_
          refine ln_4 (j := 3 * k) S hK hI (by omega) dX7_stampLow_74 ?_
          refine lv_topl (fun x146 e146 => ?_)
          refine lv_lstore_n (lv' := [(3, .long x146), (2, .int 0), (0, .ref (ad 1000)), (1, .int (nI k))]) hx hb dX7_stampLow_75 rfl hl (by decide) rfl (fun ls hl => ?_)
          refine lv_aload_n hx hb dX7_stampLow_76 rfl (lv_at hl 2 rfl) ?_
          refine gm_19 S hK hI dX7_stampLow_77 ?_
          refine lv_iconst (v := 3) hx hb dX7_stampLow_80 (by decide) ?_
          refine lv_iload_n hx hb dX7_stampLow_81 rfl (lv_at hl 3 rfl) ?_
          refine lv_imul hx hb dX7_stampLow_82 ?_
          refine lv_eqi (v := (nI (3 * k))) (nM (a := 3) (b := k) (c := 3 * k) (by omega)) ?_
          refine lv_iload_n hx hb dX7_stampLow_83 rfl (lv_at hl 1 rfl) ?_
          refine lv_iadd hx hb dX7_stampLow_84 ?_
          refine lv_eqi (v := (nI (3 * k))) (nA (a := 3 * k) (b := 0) (c := 3 * k) (by omega)) ?_
          refine lv_aload_n hx hb dX7_stampLow_85 rfl (lv_at hl 2 rfl) ?_
          refine gm_7 S hK hI dX7_stampLow_86 ?_
          refine lv_iload_n hx hb dX7_stampLow_89 rfl (lv_at hl 3 rfl) ?_
          refine ln_1 (j := k) S hK hI (by omega) dX7_stampLow_90 ?_
          refine lv_eqi (v := κ) (eκ) ?_
          refine lv_iconst (v := 3) hx hb dX7_stampLow_91 (by decide) ?_
          refine lv_icmp_ne (tgt := 101) hx hb dX7_stampLow_92 (by decide) (fun c147 => ?_) (fun c147 => ?_)
          · refine lv_aload_n hx hb dX7_stampLow_101 rfl (lv_at hl 2 rfl) ?_
            refine gm_7 S hK hI dX7_stampLow_102 ?_
            refine lv_iload_n hx hb dX7_stampLow_105 rfl (lv_at hl 3 rfl) ?_
            refine ln_1 (j := k) S hK hI (by omega) dX7_stampLow_106 ?_
            refine lv_eqi (v := κ) (eκ) ?_
            refine lv_lload_n hx hb dX7_stampLow_107 rfl (lv_at hl 0 rfl) ?_
            refine lv_lconst (v := 1) hx hb dX7_stampLow_108 (by decide) ?_
            refine lv_ladd hx hb dX7_stampLow_109 ?_
            refine lv_topl (fun x148 e148 => ?_)
            refine tw_calll (tw_rS (As := [.int κ, .long x148]) (rest := [.int (nI (3 * k)), .ref (ad 1004)]) S hK hI kX7_114 (c_X7_kept l D ad _ _ _ _) ⟨Nat.le_of_ble_eq_true rfl, Nat.le_of_ble_eq_true rfl⟩ ⟨Nat.le_of_ble_eq_true rfl, Nat.le_of_ble_eq_true rfl⟩ rfl hl.1 rfl (Nat.le_of_ble_eq_true rfl) dX7_stampLow_110) hI (fun H locs hI => ?_)
            refine lv_topl (fun x149 e149 => ?_)
            refine sn_4 (j := 3 * k) S hK hI (by omega) dX7_stampLow_113 (fun H locs hI => ?_)
            refine lv_iinc (v := 1) (lv' := [(2, .int 1), (3, .long x146), (0, .ref (ad 1000)), (1, .int (nI k))]) hx hb dX7_stampLow_114 hl (k := 1) rfl (by decide) (by decide) rfl (fun ls hl => ?_)
            refine lv_goto (tgt := 43) hx hb dX7_stampLow_117 (by decide) ?_
            refine lv_iload_n hx hb dX7_stampLow_43 rfl (lv_at hl 0 rfl) ?_
            refine lv_aload_n hx hb dX7_stampLow_44 rfl (lv_at hl 2 rfl) ?_
            refine gm_13 S hK hI dX7_stampLow_45 ?_
            refine lv_iload_n hx hb dX7_stampLow_48 rfl (lv_at hl 3 rfl) ?_
            refine ln_2 (j := k) S hK hI (by omega) dX7_stampLow_49 ?_
            refine lv_eqi (v := 2) (ez) ?_
            refine lv_icmp_ge (tgt := 120) hx hb dX7_stampLow_50 (by decide) (fun c150 => ?_) (fun c150 => ?_)
            · exact absurd c150 (by decide)
            · refine lv_aload_n hx hb dX7_stampLow_53 rfl (lv_at hl 2 rfl) ?_
              refine gm_7 S hK hI dX7_stampLow_54 ?_
              refine lv_iload_n hx hb dX7_stampLow_57 rfl (lv_at hl 3 rfl) ?_
              refine ln_1 (j := k) S hK hI (by omega) dX7_stampLow_58 ?_
              refine lv_eqi (v := κ) (eκ) ?_
              refine tw_calli (tw_rS (As := [.int κ]) (rest := []) S hK hI kX7_107 (c_X7_isOfNumbers l D ad _ _ _) ⟨Nat.le_of_ble_eq_true rfl, Nat.le_of_ble_eq_true rfl⟩ ⟨Nat.le_of_ble_eq_true rfl, Nat.le_of_ble_eq_true rfl⟩ rfl hl.1 rfl (Nat.le_of_ble_eq_true rfl) dX7_stampLow_59) hI (fun H locs hI => ?_)
              refine lv_topi (fun x151 e151 => ?_)
              refine lv_if_eq (tgt := 120) hx hb dX7_stampLow_62 (by decide) (fun c152 => ?_) (fun c152 => ?_)
              · exact (by subst e151; subst e149; subst e148; subst e146; subst e144; subst e142; subst e90; exact absurd c152 hN)
              · refine lv_aload_n hx hb dX7_stampLow_65 rfl (lv_at hl 2 rfl) ?_
                refine gm_19 S hK hI dX7_stampLow_66 ?_
                refine lv_iconst (v := 3) hx hb dX7_stampLow_69 (by decide) ?_
                refine lv_iload_n hx hb dX7_stampLow_70 rfl (lv_at hl 3 rfl) ?_
                refine lv_imul hx hb dX7_stampLow_71 ?_
                refine lv_eqi (v := (nI (3 * k))) (nM (a := 3) (b := k) (c := 3 * k) (by omega)) ?_
                refine lv_iload_n hx hb dX7_stampLow_72 rfl (lv_at hl 0 rfl) ?_
                refine lv_iadd hx hb dX7_stampLow_73 ?_
                refine lv_eqi (v := (nI (3 * k + 1))) (nA (a := 3 * k) (b := 1) (c := 3 * k + 1) (by omega)) ?_
                refine ln_4 (j := 3 * k + 1) S hK hI (by omega) dX7_stampLow_74 ?_
                refine lv_topl (fun x153 e153 => ?_)
                refine lv_lstore_n (lv' := [(3, .long x153), (2, .int 1), (0, .ref (ad 1000)), (1, .int (nI k))]) hx hb dX7_stampLow_75 rfl hl (by decide) rfl (fun ls hl => ?_)
                refine lv_aload_n hx hb dX7_stampLow_76 rfl (lv_at hl 2 rfl) ?_
                refine gm_19 S hK hI dX7_stampLow_77 ?_
                refine lv_iconst (v := 3) hx hb dX7_stampLow_80 (by decide) ?_
                refine lv_iload_n hx hb dX7_stampLow_81 rfl (lv_at hl 3 rfl) ?_
                refine lv_imul hx hb dX7_stampLow_82 ?_
                refine lv_eqi (v := (nI (3 * k))) (nM (a := 3) (b := k) (c := 3 * k) (by omega)) ?_
                refine lv_iload_n hx hb dX7_stampLow_83 rfl (lv_at hl 1 rfl) ?_
                refine lv_iadd hx hb dX7_stampLow_84 ?_
                refine lv_eqi (v := (nI (3 * k + 1))) (nA (a := 3 * k) (b := 1) (c := 3 * k + 1) (by omega)) ?_
                refine lv_aload_n hx hb dX7_stampLow_85 rfl (lv_at hl 2 rfl) ?_
                refine gm_7 S hK hI dX7_stampLow_86 ?_
                refine lv_iload_n hx hb dX7_stampLow_89 rfl (lv_at hl 3 rfl) ?_
                refine ln_1 (j := k) S hK hI (by omega) dX7_stampLow_90 ?_
                refine lv_eqi (v := κ) (eκ) ?_
                refine lv_iconst (v := 3) hx hb dX7_stampLow_91 (by decide) ?_
                refine lv_icmp_ne (tgt := 101) hx hb dX7_stampLow_92 (by decide) (fun c154 => ?_) (fun c154 => ?_)
                · refine lv_aload_n hx hb dX7_stampLow_101 rfl (lv_at hl 2 rfl) ?_
                  refine gm_7 S hK hI dX7_stampLow_102 ?_
                  refine lv_iload_n hx hb dX7_stampLow_105 rfl (lv_at hl 3 rfl) ?_
                  refine ln_1 (j := k) S hK hI (by omega) dX7_stampLow_106 ?_
                  refine lv_eqi (v := κ) (eκ) ?_
                  refine lv_lload_n hx hb dX7_stampLow_107 rfl (lv_at hl 0 rfl) ?_
                  refine lv_lconst (v := 1) hx hb dX7_stampLow_108 (by decide) ?_
                  refine lv_ladd hx hb dX7_stampLow_109 ?_
                  refine lv_topl (fun x155 e155 => ?_)
                  refine tw_calll (tw_rS (As := [.int κ, .long x155]) (rest := [.int (nI (3 * k + 1)), .ref (ad 1004)]) S hK hI kX7_114 (c_X7_kept l D ad _ _ _ _) ⟨Nat.le_of_ble_eq_true rfl, Nat.le_of_ble_eq_true rfl⟩ ⟨Nat.le_of_ble_eq_true rfl, Nat.le_of_ble_eq_true rfl⟩ rfl hl.1 rfl (Nat.le_of_ble_eq_true rfl) dX7_stampLow_110) hI (fun H locs hI => ?_)
                  refine lv_topl (fun x156 e156 => ?_)
                  refine sn_4 (j := 3 * k + 1) S hK hI (by omega) dX7_stampLow_113 (fun H locs hI => ?_)
                  refine lv_iinc (v := 2) (lv' := [(2, .int 2), (3, .long x153), (0, .ref (ad 1000)), (1, .int (nI k))]) hx hb dX7_stampLow_114 hl (k := 1) rfl (by decide) (by decide) rfl (fun ls hl => ?_)
                  refine lv_goto (tgt := 43) hx hb dX7_stampLow_117 (by decide) ?_
                  refine lv_iload_n hx hb dX7_stampLow_43 rfl (lv_at hl 0 rfl) ?_
                  refine lv_aload_n hx hb dX7_stampLow_44 rfl (lv_at hl 2 rfl) ?_
                  refine gm_13 S hK hI dX7_stampLow_45 ?_
                  refine lv_iload_n hx hb dX7_stampLow_48 rfl (lv_at hl 3 rfl) ?_
                  refine ln_2 (j := k) S hK hI (by omega) dX7_stampLow_49 ?_
                  refine lv_eqi (v := 2) (ez) ?_
                  refine lv_icmp_ge (tgt := 120) hx hb dX7_stampLow_50 (by decide) (fun c157 => ?_) (fun c157 => ?_)
                  · subst e156
                    subst e155
                    subst e153
                    subst e151
                    subst e149
                    subst e148
                    subst e146
                    subst e144
                    subst e142
                    subst e90
                    unfold stampLowF
                    unfold addS
                    have es : szS σ k = 2 := by unfold szS; rw [ez]; rfl
                    rw [es]
                    rw [eκ]
                    try simp only [bumpN, bump1, bumpF, Nat.add_zero]
                    try rw [if_neg hN]
                    try rw [if_pos c91]
                    try rw [if_neg (show ¬ (2 : Int32) ≤ 0 from by decide)]
                    try rw [if_neg hN]
                    try rw [if_neg c147]
                    try rw [if_neg (show ¬ (2 : Int32) ≤ 1 from by decide)]
                    try rw [if_neg hN]
                    try rw [if_neg c147]
                    try rw [if_pos (show (2 : Int32) ≤ 2 from by decide)]
                    exact tw_vret S hr hlocks hI dX7_stampLow_120
                  · exact absurd c157 (by decide)
                · exact absurd c154 c147
          · refine lv_lconst (v := 1) hx hb dX7_stampLow_95 (by decide) ?_
            refine lv_lload_n hx hb dX7_stampLow_96 rfl (lv_at hl 0 rfl) ?_
            refine lv_lsub hx hb dX7_stampLow_97 ?_
            refine lv_topl (fun x158 e158 => ?_)
            refine lv_goto (tgt := 113) hx hb dX7_stampLow_98 (by decide) ?_
            refine sn_4 (j := 3 * k) S hK hI (by omega) dX7_stampLow_113 (fun H locs hI => ?_)
            refine lv_iinc (v := 1) (lv' := [(2, .int 1), (3, .long x146), (0, .ref (ad 1000)), (1, .int (nI k))]) hx hb dX7_stampLow_114 hl (k := 1) rfl (by decide) (by decide) rfl (fun ls hl => ?_)
            refine lv_goto (tgt := 43) hx hb dX7_stampLow_117 (by decide) ?_
            refine lv_iload_n hx hb dX7_stampLow_43 rfl (lv_at hl 0 rfl) ?_
            refine lv_aload_n hx hb dX7_stampLow_44 rfl (lv_at hl 2 rfl) ?_
            refine gm_13 S hK hI dX7_stampLow_45 ?_
            refine lv_iload_n hx hb dX7_stampLow_48 rfl (lv_at hl 3 rfl) ?_
            refine ln_2 (j := k) S hK hI (by omega) dX7_stampLow_49 ?_
            refine lv_eqi (v := 2) (ez) ?_
            refine lv_icmp_ge (tgt := 120) hx hb dX7_stampLow_50 (by decide) (fun c159 => ?_) (fun c159 => ?_)
            · exact absurd c159 (by decide)
            · refine lv_aload_n hx hb dX7_stampLow_53 rfl (lv_at hl 2 rfl) ?_
              refine gm_7 S hK hI dX7_stampLow_54 ?_
              refine lv_iload_n hx hb dX7_stampLow_57 rfl (lv_at hl 3 rfl) ?_
              refine ln_1 (j := k) S hK hI (by omega) dX7_stampLow_58 ?_
              refine lv_eqi (v := κ) (eκ) ?_
              refine tw_calli (tw_rS (As := [.int κ]) (rest := []) S hK hI kX7_107 (c_X7_isOfNumbers l D ad _ _ _) ⟨Nat.le_of_ble_eq_true rfl, Nat.le_of_ble_eq_true rfl⟩ ⟨Nat.le_of_ble_eq_true rfl, Nat.le_of_ble_eq_true rfl⟩ rfl hl.1 rfl (Nat.le_of_ble_eq_true rfl) dX7_stampLow_59) hI (fun H locs hI => ?_)
              refine lv_topi (fun x160 e160 => ?_)
              refine lv_if_eq (tgt := 120) hx hb dX7_stampLow_62 (by decide) (fun c161 => ?_) (fun c161 => ?_)
              · exact (by subst e160; subst e158; subst e146; subst e144; subst e142; subst e90; exact absurd c161 hN)
              · refine lv_aload_n hx hb dX7_stampLow_65 rfl (lv_at hl 2 rfl) ?_
                refine gm_19 S hK hI dX7_stampLow_66 ?_
                refine lv_iconst (v := 3) hx hb dX7_stampLow_69 (by decide) ?_
                refine lv_iload_n hx hb dX7_stampLow_70 rfl (lv_at hl 3 rfl) ?_
                refine lv_imul hx hb dX7_stampLow_71 ?_
                refine lv_eqi (v := (nI (3 * k))) (nM (a := 3) (b := k) (c := 3 * k) (by omega)) ?_
                refine lv_iload_n hx hb dX7_stampLow_72 rfl (lv_at hl 0 rfl) ?_
                refine lv_iadd hx hb dX7_stampLow_73 ?_
                refine lv_eqi (v := (nI (3 * k + 1))) (nA (a := 3 * k) (b := 1) (c := 3 * k + 1) (by omega)) ?_
                refine ln_4 (j := 3 * k + 1) S hK hI (by omega) dX7_stampLow_74 ?_
                refine lv_topl (fun x162 e162 => ?_)
                refine lv_lstore_n (lv' := [(3, .long x162), (2, .int 1), (0, .ref (ad 1000)), (1, .int (nI k))]) hx hb dX7_stampLow_75 rfl hl (by decide) rfl (fun ls hl => ?_)
                refine lv_aload_n hx hb dX7_stampLow_76 rfl (lv_at hl 2 rfl) ?_
                refine gm_19 S hK hI dX7_stampLow_77 ?_
                refine lv_iconst (v := 3) hx hb dX7_stampLow_80 (by decide) ?_
                refine lv_iload_n hx hb dX7_stampLow_81 rfl (lv_at hl 3 rfl) ?_
                refine lv_imul hx hb dX7_stampLow_82 ?_
                refine lv_eqi (v := (nI (3 * k))) (nM (a := 3) (b := k) (c := 3 * k) (by omega)) ?_
                refine lv_iload_n hx hb dX7_stampLow_83 rfl (lv_at hl 1 rfl) ?_
                refine lv_iadd hx hb dX7_stampLow_84 ?_
                refine lv_eqi (v := (nI (3 * k + 1))) (nA (a := 3 * k) (b := 1) (c := 3 * k + 1) (by omega)) ?_
                refine lv_aload_n hx hb dX7_stampLow_85 rfl (lv_at hl 2 rfl) ?_
                refine gm_7 S hK hI dX7_stampLow_86 ?_
                refine lv_iload_n hx hb dX7_stampLow_89 rfl (lv_at hl 3 rfl) ?_
                refine ln_1 (j := k) S hK hI (by omega) dX7_stampLow_90 ?_
                refine lv_eqi (v := κ) (eκ) ?_
                refine lv_iconst (v := 3) hx hb dX7_stampLow_91 (by decide) ?_
                refine lv_icmp_ne (tgt := 101) hx hb dX7_stampLow_92 (by decide) (fun c163 => ?_) (fun c163 => ?_)
                · exact absurd c147 c163
                · refine lv_lconst (v := 1) hx hb dX7_stampLow_95 (by decide) ?_
                  refine lv_lload_n hx hb dX7_stampLow_96 rfl (lv_at hl 0 rfl) ?_
                  refine lv_lsub hx hb dX7_stampLow_97 ?_
                  refine lv_topl (fun x164 e164 => ?_)
                  refine lv_goto (tgt := 113) hx hb dX7_stampLow_98 (by decide) ?_
                  refine sn_4 (j := 3 * k + 1) S hK hI (by omega) dX7_stampLow_113 (fun H locs hI => ?_)
                  refine lv_iinc (v := 2) (lv' := [(2, .int 2), (3, .long x162), (0, .ref (ad 1000)), (1, .int (nI k))]) hx hb dX7_stampLow_114 hl (k := 1) rfl (by decide) (by decide) rfl (fun ls hl => ?_)
                  refine lv_goto (tgt := 43) hx hb dX7_stampLow_117 (by decide) ?_
                  refine lv_iload_n hx hb dX7_stampLow_43 rfl (lv_at hl 0 rfl) ?_
                  refine lv_aload_n hx hb dX7_stampLow_44 rfl (lv_at hl 2 rfl) ?_
                  refine gm_13 S hK hI dX7_stampLow_45 ?_
                  refine lv_iload_n hx hb dX7_stampLow_48 rfl (lv_at hl 3 rfl) ?_
                  refine ln_2 (j := k) S hK hI (by omega) dX7_stampLow_49 ?_
                  refine lv_eqi (v := 2) (ez) ?_
                  refine lv_icmp_ge (tgt := 120) hx hb dX7_stampLow_50 (by decide) (fun c165 => ?_) (fun c165 => ?_)
                  · subst e164
                    subst e162
                    subst e160
                    subst e158
                    subst e146
                    subst e144
                    subst e142
                    subst e90
                    unfold stampLowF
                    unfold addS
                    have es : szS σ k = 2 := by unfold szS; rw [ez]; rfl
                    rw [es]
                    rw [eκ]
                    try simp only [bumpN, bump1, bumpF, Nat.add_zero]
                    try rw [if_neg hN]
                    try rw [if_pos c91]
                    try rw [if_neg (show ¬ (2 : Int32) ≤ 0 from by decide)]
                    try rw [if_neg hN]
                    try rw [if_pos c147]
                    try rw [if_neg (show ¬ (2 : Int32) ≤ 1 from by decide)]
                    try rw [if_neg hN]
                    try rw [if_pos c147]
                    try rw [if_pos (show (2 : Int32) ≤ 2 from by decide)]
                    exact tw_vret S hr hlocks hI dX7_stampLow_120
                  · exact absurd c165 (by decide)
  · refine lv_aload_n hx hb dX7_stampLow_0 rfl (lv_at hl 0 rfl) ?_
    refine gm_16 S hK hI dX7_stampLow_1 ?_
    refine lv_iload_n hx hb dX7_stampLow_4 rfl (lv_at hl 1 rfl) ?_
    refine lv_dup2_11 hx hb dX7_stampLow_5 rfl rfl ?_
    refine ln_3 (j := k) S hK hI (by omega) dX7_stampLow_6 ?_
    refine lv_topi (fun x166 e166 => ?_)
    refine lv_aload_n hx hb dX7_stampLow_7 rfl (lv_at hl 0 rfl) ?_
    refine gm_7 S hK hI dX7_stampLow_8 ?_
    refine lv_iload_n hx hb dX7_stampLow_11 rfl (lv_at hl 1 rfl) ?_
    refine ln_1 (j := k) S hK hI (by omega) dX7_stampLow_12 ?_
    refine lv_eqi (v := κ) (eκ) ?_
    refine lv_bipush (v := 6) hx hb dX7_stampLow_13 (by decide) ?_
    refine lv_icmp_ne (tgt := 22) hx hb dX7_stampLow_15 (by decide) (fun c167 => ?_) (fun c167 => ?_)
    · refine lv_aload_n hx hb dX7_stampLow_22 rfl (lv_at hl 0 rfl) ?_
      refine gm_7 S hK hI dX7_stampLow_23 ?_
      refine lv_iload_n hx hb dX7_stampLow_26 rfl (lv_at hl 1 rfl) ?_
      refine ln_1 (j := k) S hK hI (by omega) dX7_stampLow_27 ?_
      refine lv_eqi (v := κ) (eκ) ?_
      refine tw_calli (tw_rS (As := [.int κ]) (rest := [.int x166, .int (nI k), .ref (ad 1003)]) S hK hI kX7_89 (c_X7_isOne l D ad _ _ _) ⟨Nat.le_of_ble_eq_true rfl, Nat.le_of_ble_eq_true rfl⟩ ⟨Nat.le_of_ble_eq_true rfl, Nat.le_of_ble_eq_true rfl⟩ rfl hl.1 rfl (Nat.le_of_ble_eq_true rfl) dX7_stampLow_28) hI (fun H locs hI => ?_)
      refine lv_topi (fun x168 e168 => ?_)
      refine lv_if_eq (tgt := 38) hx hb dX7_stampLow_31 (by decide) (fun c169 => ?_) (fun c169 => ?_)
      · refine lv_iconst (v := 0) hx hb dX7_stampLow_38 (by decide) ?_
        refine lv_iadd hx hb dX7_stampLow_39 ?_
        refine lv_topi (fun x170 e170 => ?_)
        refine sn_3 (j := k) S hK hI (by omega) dX7_stampLow_40 (fun H locs hI => ?_)
        refine lv_iconst (v := 0) hx hb dX7_stampLow_41 (by decide) ?_
        refine lv_istore_n (lv' := [(2, .int 0), (0, .ref (ad 1000)), (1, .int (nI k))]) hx hb dX7_stampLow_42 rfl hl (by decide) rfl (fun ls hl => ?_)
        refine lv_iload_n hx hb dX7_stampLow_43 rfl (lv_at hl 0 rfl) ?_
        refine lv_aload_n hx hb dX7_stampLow_44 rfl (lv_at hl 1 rfl) ?_
        refine gm_13 S hK hI dX7_stampLow_45 ?_
        refine lv_iload_n hx hb dX7_stampLow_48 rfl (lv_at hl 2 rfl) ?_
        refine ln_2 (j := k) S hK hI (by omega) dX7_stampLow_49 ?_
        refine lv_eqi (v := 3) (ez) ?_
        refine lv_icmp_ge (tgt := 120) hx hb dX7_stampLow_50 (by decide) (fun c171 => ?_) (fun c171 => ?_)
        · exact absurd c171 (by decide)
        · refine lv_aload_n hx hb dX7_stampLow_53 rfl (lv_at hl 1 rfl) ?_
          refine gm_7 S hK hI dX7_stampLow_54 ?_
          refine lv_iload_n hx hb dX7_stampLow_57 rfl (lv_at hl 2 rfl) ?_
          refine ln_1 (j := k) S hK hI (by omega) dX7_stampLow_58 ?_
          refine lv_eqi (v := κ) (eκ) ?_
          refine tw_calli (tw_rS (As := [.int κ]) (rest := []) S hK hI kX7_107 (c_X7_isOfNumbers l D ad _ _ _) ⟨Nat.le_of_ble_eq_true rfl, Nat.le_of_ble_eq_true rfl⟩ ⟨Nat.le_of_ble_eq_true rfl, Nat.le_of_ble_eq_true rfl⟩ rfl hl.1 rfl (Nat.le_of_ble_eq_true rfl) dX7_stampLow_59) hI (fun H locs hI => ?_)
          refine lv_topi (fun x172 e172 => ?_)
          refine lv_if_eq (tgt := 120) hx hb dX7_stampLow_62 (by decide) (fun c173 => ?_) (fun c173 => ?_)
          · subst e172
            subst e170
            subst e168
            subst e166
            unfold stampLowF
            unfold addS
            have es : szS σ k = 3 := by unfold szS; rw [ez]; rfl
            rw [es]
            rw [eκ]
            try simp only [bumpN, bump1, bumpF, Nat.add_zero]
            try rw [if_pos hN]
            try rw [if_neg c167]
            try rw [if_pos c169]
            try rw [if_neg (show ¬ (3 : Int32) ≤ 0 from by decide)]
            try rw [if_pos hN]
            exact tw_vret S hr hlocks hI dX7_stampLow_120
          · exact (by subst e172; subst e170; subst e168; subst e166; exact absurd hN c173)
      · refine lv_iconst (v := 1) hx hb dX7_stampLow_34 (by decide) ?_
        refine lv_goto (tgt := 39) hx hb dX7_stampLow_35 (by decide) ?_
        refine lv_iadd hx hb dX7_stampLow_39 ?_
        refine lv_topi (fun x174 e174 => ?_)
        refine sn_3 (j := k) S hK hI (by omega) dX7_stampLow_40 (fun H locs hI => ?_)
        refine lv_iconst (v := 0) hx hb dX7_stampLow_41 (by decide) ?_
        refine lv_istore_n (lv' := [(2, .int 0), (0, .ref (ad 1000)), (1, .int (nI k))]) hx hb dX7_stampLow_42 rfl hl (by decide) rfl (fun ls hl => ?_)
        refine lv_iload_n hx hb dX7_stampLow_43 rfl (lv_at hl 0 rfl) ?_
        refine lv_aload_n hx hb dX7_stampLow_44 rfl (lv_at hl 1 rfl) ?_
        refine gm_13 S hK hI dX7_stampLow_45 ?_
        refine lv_iload_n hx hb dX7_stampLow_48 rfl (lv_at hl 2 rfl) ?_
        refine ln_2 (j := k) S hK hI (by omega) dX7_stampLow_49 ?_
        refine lv_eqi (v := 3) (ez) ?_
        refine lv_icmp_ge (tgt := 120) hx hb dX7_stampLow_50 (by decide) (fun c175 => ?_) (fun c175 => ?_)
        · exact absurd c175 (by decide)
        · refine lv_aload_n hx hb dX7_stampLow_53 rfl (lv_at hl 1 rfl) ?_
          refine gm_7 S hK hI dX7_stampLow_54 ?_
          refine lv_iload_n hx hb dX7_stampLow_57 rfl (lv_at hl 2 rfl) ?_
          refine ln_1 (j := k) S hK hI (by omega) dX7_stampLow_58 ?_
          refine lv_eqi (v := κ) (eκ) ?_
          refine tw_calli (tw_rS (As := [.int κ]) (rest := []) S hK hI kX7_107 (c_X7_isOfNumbers l D ad _ _ _) ⟨Nat.le_of_ble_eq_true rfl, Nat.le_of_ble_eq_true rfl⟩ ⟨Nat.le_of_ble_eq_true rfl, Nat.le_of_ble_eq_true rfl⟩ rfl hl.1 rfl (Nat.le_of_ble_eq_true rfl) dX7_stampLow_59) hI (fun H locs hI => ?_)
          refine lv_topi (fun x176 e176 => ?_)
          refine lv_if_eq (tgt := 120) hx hb dX7_stampLow_62 (by decide) (fun c177 => ?_) (fun c177 => ?_)
          · subst e176
            subst e174
            subst e168
            subst e166
            unfold stampLowF
            unfold addS
            have es : szS σ k = 3 := by unfold szS; rw [ez]; rfl
            rw [es]
            rw [eκ]
            try simp only [bumpN, bump1, bumpF, Nat.add_zero]
            try rw [if_pos hN]
            try rw [if_neg c167]
            try rw [if_neg c169]
            try rw [if_neg (show ¬ (3 : Int32) ≤ 0 from by decide)]
            try rw [if_pos hN]
            exact tw_vret S hr hlocks hI dX7_stampLow_120
          · exact (by subst e176; subst e174; subst e168; subst e166; exact absurd hN c177)
    · refine lv_iconst (v := 2) hx hb dX7_stampLow_18 (by decide) ?_
      refine lv_goto (tgt := 39) hx hb dX7_stampLow_19 (by decide) ?_
      refine lv_iadd hx hb dX7_stampLow_39 ?_
      refine lv_topi (fun x178 e178 => ?_)
      refine sn_3 (j := k) S hK hI (by omega) dX7_stampLow_40 (fun H locs hI => ?_)
      refine lv_iconst (v := 0) hx hb dX7_stampLow_41 (by decide) ?_
      refine lv_istore_n (lv' := [(2, .int 0), (0, .ref (ad 1000)), (1, .int (nI k))]) hx hb dX7_stampLow_42 rfl hl (by decide) rfl (fun ls hl => ?_)
      refine lv_iload_n hx hb dX7_stampLow_43 rfl (lv_at hl 0 rfl) ?_
      refine lv_aload_n hx hb dX7_stampLow_44 rfl (lv_at hl 1 rfl) ?_
      refine gm_13 S hK hI dX7_stampLow_45 ?_
      refine lv_iload_n hx hb dX7_stampLow_48 rfl (lv_at hl 2 rfl) ?_
      refine ln_2 (j := k) S hK hI (by omega) dX7_stampLow_49 ?_
      refine lv_eqi (v := 3) (ez) ?_
      refine lv_icmp_ge (tgt := 120) hx hb dX7_stampLow_50 (by decide) (fun c179 => ?_) (fun c179 => ?_)
      · exact absurd c179 (by decide)
      · refine lv_aload_n hx hb dX7_stampLow_53 rfl (lv_at hl 1 rfl) ?_
        refine gm_7 S hK hI dX7_stampLow_54 ?_
        refine lv_iload_n hx hb dX7_stampLow_57 rfl (lv_at hl 2 rfl) ?_
        refine ln_1 (j := k) S hK hI (by omega) dX7_stampLow_58 ?_
        refine lv_eqi (v := κ) (eκ) ?_
        refine tw_calli (tw_rS (As := [.int κ]) (rest := []) S hK hI kX7_107 (c_X7_isOfNumbers l D ad _ _ _) ⟨Nat.le_of_ble_eq_true rfl, Nat.le_of_ble_eq_true rfl⟩ ⟨Nat.le_of_ble_eq_true rfl, Nat.le_of_ble_eq_true rfl⟩ rfl hl.1 rfl (Nat.le_of_ble_eq_true rfl) dX7_stampLow_59) hI (fun H locs hI => ?_)
        refine lv_topi (fun x180 e180 => ?_)
        refine lv_if_eq (tgt := 120) hx hb dX7_stampLow_62 (by decide) (fun c181 => ?_) (fun c181 => ?_)
        · subst e180
          subst e178
          subst e166
          unfold stampLowF
          unfold addS
          have es : szS σ k = 3 := by unfold szS; rw [ez]; rfl
          rw [es]
          rw [eκ]
          try simp only [bumpN, bump1, bumpF, Nat.add_zero]
          try rw [if_pos hN]
          try rw [if_pos c167]
          try rw [if_neg (show ¬ (3 : Int32) ≤ 0 from by decide)]
          try rw [if_pos hN]
          exact tw_vret S hr hlocks hI dX7_stampLow_120
        · exact (by subst e180; subst e178; subst e166; exact absurd hN c181)
  · refine lv_aload_n hx hb dX7_stampLow_0 rfl (lv_at hl 0 rfl) ?_
    refine gm_16 S hK hI dX7_stampLow_1 ?_
    refine lv_iload_n hx hb dX7_stampLow_4 rfl (lv_at hl 1 rfl) ?_
    refine lv_dup2_11 hx hb dX7_stampLow_5 rfl rfl ?_
    refine ln_3 (j := k) S hK hI (by omega) dX7_stampLow_6 ?_
    refine lv_topi (fun x182 e182 => ?_)
    refine lv_aload_n hx hb dX7_stampLow_7 rfl (lv_at hl 0 rfl) ?_
    refine gm_7 S hK hI dX7_stampLow_8 ?_
    refine lv_iload_n hx hb dX7_stampLow_11 rfl (lv_at hl 1 rfl) ?_
    refine ln_1 (j := k) S hK hI (by omega) dX7_stampLow_12 ?_
    refine lv_eqi (v := κ) (eκ) ?_
    refine lv_bipush (v := 6) hx hb dX7_stampLow_13 (by decide) ?_
    refine lv_icmp_ne (tgt := 22) hx hb dX7_stampLow_15 (by decide) (fun c183 => ?_) (fun c183 => ?_)
    · refine lv_aload_n hx hb dX7_stampLow_22 rfl (lv_at hl 0 rfl) ?_
      refine gm_7 S hK hI dX7_stampLow_23 ?_
      refine lv_iload_n hx hb dX7_stampLow_26 rfl (lv_at hl 1 rfl) ?_
      refine ln_1 (j := k) S hK hI (by omega) dX7_stampLow_27 ?_
      refine lv_eqi (v := κ) (eκ) ?_
      refine tw_calli (tw_rS (As := [.int κ]) (rest := [.int x182, .int (nI k), .ref (ad 1003)]) S hK hI kX7_89 (c_X7_isOne l D ad _ _ _) ⟨Nat.le_of_ble_eq_true rfl, Nat.le_of_ble_eq_true rfl⟩ ⟨Nat.le_of_ble_eq_true rfl, Nat.le_of_ble_eq_true rfl⟩ rfl hl.1 rfl (Nat.le_of_ble_eq_true rfl) dX7_stampLow_28) hI (fun H locs hI => ?_)
      refine lv_topi (fun x184 e184 => ?_)
      refine lv_if_eq (tgt := 38) hx hb dX7_stampLow_31 (by decide) (fun c185 => ?_) (fun c185 => ?_)
      · refine lv_iconst (v := 0) hx hb dX7_stampLow_38 (by decide) ?_
        refine lv_iadd hx hb dX7_stampLow_39 ?_
        refine lv_topi (fun x186 e186 => ?_)
        refine sn_3 (j := k) S hK hI (by omega) dX7_stampLow_40 (fun H locs hI => ?_)
        refine lv_iconst (v := 0) hx hb dX7_stampLow_41 (by decide) ?_
        refine lv_istore_n (lv' := [(2, .int 0), (0, .ref (ad 1000)), (1, .int (nI k))]) hx hb dX7_stampLow_42 rfl hl (by decide) rfl (fun ls hl => ?_)
        refine lv_iload_n hx hb dX7_stampLow_43 rfl (lv_at hl 0 rfl) ?_
        refine lv_aload_n hx hb dX7_stampLow_44 rfl (lv_at hl 1 rfl) ?_
        refine gm_13 S hK hI dX7_stampLow_45 ?_
        refine lv_iload_n hx hb dX7_stampLow_48 rfl (lv_at hl 2 rfl) ?_
        refine ln_2 (j := k) S hK hI (by omega) dX7_stampLow_49 ?_
        refine lv_eqi (v := 3) (ez) ?_
        refine lv_icmp_ge (tgt := 120) hx hb dX7_stampLow_50 (by decide) (fun c187 => ?_) (fun c187 => ?_)
        · exact absurd c187 (by decide)
        · refine lv_aload_n hx hb dX7_stampLow_53 rfl (lv_at hl 1 rfl) ?_
          refine gm_7 S hK hI dX7_stampLow_54 ?_
          refine lv_iload_n hx hb dX7_stampLow_57 rfl (lv_at hl 2 rfl) ?_
          refine ln_1 (j := k) S hK hI (by omega) dX7_stampLow_58 ?_
          refine lv_eqi (v := κ) (eκ) ?_
          refine tw_calli (tw_rS (As := [.int κ]) (rest := []) S hK hI kX7_107 (c_X7_isOfNumbers l D ad _ _ _) ⟨Nat.le_of_ble_eq_true rfl, Nat.le_of_ble_eq_true rfl⟩ ⟨Nat.le_of_ble_eq_true rfl, Nat.le_of_ble_eq_true rfl⟩ rfl hl.1 rfl (Nat.le_of_ble_eq_true rfl) dX7_stampLow_59) hI (fun H locs hI => ?_)
          refine lv_topi (fun x188 e188 => ?_)
          refine lv_if_eq (tgt := 120) hx hb dX7_stampLow_62 (by decide) (fun c189 => ?_) (fun c189 => ?_)
          · exact (by subst e188; subst e186; subst e184; subst e182; exact absurd c189 hN)
          · refine lv_aload_n hx hb dX7_stampLow_65 rfl (lv_at hl 1 rfl) ?_
            refine gm_19 S hK hI dX7_stampLow_66 ?_
            refine lv_iconst (v := 3) hx hb dX7_stampLow_69 (by decide) ?_
            refine lv_iload_n hx hb dX7_stampLow_70 rfl (lv_at hl 2 rfl) ?_
            refine lv_imul hx hb dX7_stampLow_71 ?_
            refine lv_eqi (v := (nI (3 * k))) (nM (a := 3) (b := k) (c := 3 * k) (by omega)) ?_
            refine lv_iload_n hx hb dX7_stampLow_72 rfl (lv_at hl 0 rfl) ?_
            refine lv_iadd hx hb dX7_stampLow_73 ?_
            refine lv_eqi (v := (nI (3 * k))) (nA (a := 3 * k) (b := 0) (c := 3 * k) (by omega)) ?_
            refine ln_4 (j := 3 * k) S hK hI (by omega) dX7_stampLow_74 ?_
            refine lv_topl (fun x190 e190 => ?_)
            refine lv_lstore_n (lv' := [(3, .long x190), (2, .int 0), (0, .ref (ad 1000)), (1, .int (nI k))]) hx hb dX7_stampLow_75 rfl hl (by decide) rfl (fun ls hl => ?_)
            refine lv_aload_n hx hb dX7_stampLow_76 rfl (lv_at hl 2 rfl) ?_
            refine gm_19 S hK hI dX7_stampLow_77 ?_
            refine lv_iconst (v := 3) hx hb dX7_stampLow_80 (by decide) ?_
            refine lv_iload_n hx hb dX7_stampLow_81 rfl (lv_at hl 3 rfl) ?_
            refine lv_imul hx hb dX7_stampLow_82 ?_
            refine lv_eqi (v := (nI (3 * k))) (nM (a := 3) (b := k) (c := 3 * k) (by omega)) ?_
            refine lv_iload_n hx hb dX7_stampLow_83 rfl (lv_at hl 1 rfl) ?_
            refine lv_iadd hx hb dX7_stampLow_84 ?_
            refine lv_eqi (v := (nI (3 * k))) (nA (a := 3 * k) (b := 0) (c := 3 * k) (by omega)) ?_
            refine lv_aload_n hx hb dX7_stampLow_85 rfl (lv_at hl 2 rfl) ?_
            refine gm_7 S hK hI dX7_stampLow_86 ?_
            refine lv_iload_n hx hb dX7_stampLow_89 rfl (lv_at hl 3 rfl) ?_
            refine ln_1 (j := k) S hK hI (by omega) dX7_stampLow_90 ?_
            refine lv_eqi (v := κ) (eκ) ?_
            refine lv_iconst (v := 3) hx hb dX7_stampLow_91 (by decide) ?_
            refine lv_icmp_ne (tgt := 101) hx hb dX7_stampLow_92 (by decide) (fun c191 => ?_) (fun c191 => ?_)
            · refine lv_aload_n hx hb dX7_stampLow_101 rfl (lv_at hl 2 rfl) ?_
              refine gm_7 S hK hI dX7_stampLow_102 ?_
              refine lv_iload_n hx hb dX7_stampLow_105 rfl (lv_at hl 3 rfl) ?_
              refine ln_1 (j := k) S hK hI (by omega) dX7_stampLow_106 ?_
              refine lv_eqi (v := κ) (eκ) ?_
              refine lv_lload_n hx hb dX7_stampLow_107 rfl (lv_at hl 0 rfl) ?_
              refine lv_lconst (v := 1) hx hb dX7_stampLow_108 (by decide) ?_
              refine lv_ladd hx hb dX7_stampLow_109 ?_
              refine lv_topl (fun x192 e192 => ?_)
              refine tw_calll (tw_rS (As := [.int κ, .long x192]) (rest := [.int (nI (3 * k)), .ref (ad 1004)]) S hK hI kX7_114 (c_X7_kept l D ad _ _ _ _) ⟨Nat.le_of_ble_eq_true rfl, Nat.le_of_ble_eq_true rfl⟩ ⟨Nat.le_of_ble_eq_true rfl, Nat.le_of_ble_eq_true rfl⟩ rfl hl.1 rfl (Nat.le_of_ble_eq_true rfl) dX7_stampLow_110) hI (fun H locs hI => ?_)
              refine lv_topl (fun x193 e193 => ?_)
              refine sn_4 (j := 3 * k) S hK hI (by omega) dX7_stampLow_113 (fun H locs hI => ?_)
              refine lv_iinc (v := 1) (lv' := [(2, .int 1), (3, .long x190), (0, .ref (ad 1000)), (1, .int (nI k))]) hx hb dX7_stampLow_114 hl (k := 1) rfl (by decide) (by decide) rfl (fun ls hl => ?_)
              refine lv_goto (tgt := 43) hx hb dX7_stampLow_117 (by decide) ?_
              refine lv_iload_n hx hb dX7_stampLow_43 rfl (lv_at hl 0 rfl) ?_
              refine lv_aload_n hx hb dX7_stampLow_44 rfl (lv_at hl 2 rfl) ?_
              refine gm_13 S hK hI dX7_stampLow_45 ?_
              refine lv_iload_n hx hb dX7_stampLow_48 rfl (lv_at hl 3 rfl) ?_
              refine ln_2 (j := k) S hK hI (by omega) dX7_stampLow_49 ?_
              refine lv_eqi (v := 3) (ez) ?_
              refine lv_icmp_ge (tgt := 120) hx hb dX7_stampLow_50 (by decide) (fun c194 => ?_) (fun c194 => ?_)
              · exact absurd c194 (by decide)
              · refine lv_aload_n hx hb dX7_stampLow_53 rfl (lv_at hl 2 rfl) ?_
                refine gm_7 S hK hI dX7_stampLow_54 ?_
                refine lv_iload_n hx hb dX7_stampLow_57 rfl (lv_at hl 3 rfl) ?_
                refine ln_1 (j := k) S hK hI (by omega) dX7_stampLow_58 ?_
                refine lv_eqi (v := κ) (eκ) ?_
                refine tw_calli (tw_rS (As := [.int κ]) (rest := []) S hK hI kX7_107 (c_X7_isOfNumbers l D ad _ _ _) ⟨Nat.le_of_ble_eq_true rfl, Nat.le_of_ble_eq_true rfl⟩ ⟨Nat.le_of_ble_eq_true rfl, Nat.le_of_ble_eq_true rfl⟩ rfl hl.1 rfl (Nat.le_of_ble_eq_true rfl) dX7_stampLow_59) hI (fun H locs hI => ?_)
                refine lv_topi (fun x195 e195 => ?_)
                refine lv_if_eq (tgt := 120) hx hb dX7_stampLow_62 (by decide) (fun c196 => ?_) (fun c196 => ?_)
                · exact (by subst e195; subst e193; subst e192; subst e190; subst e188; subst e186; subst e184; subst e182; exact absurd c196 hN)
                · refine lv_aload_n hx hb dX7_stampLow_65 rfl (lv_at hl 2 rfl) ?_
                  refine gm_19 S hK hI dX7_stampLow_66 ?_
                  refine lv_iconst (v := 3) hx hb dX7_stampLow_69 (by decide) ?_
                  refine lv_iload_n hx hb dX7_stampLow_70 rfl (lv_at hl 3 rfl) ?_
                  refine lv_imul hx hb dX7_stampLow_71 ?_
                  refine lv_eqi (v := (nI (3 * k))) (nM (a := 3) (b := k) (c := 3 * k) (by omega)) ?_
                  refine lv_iload_n hx hb dX7_stampLow_72 rfl (lv_at hl 0 rfl) ?_
                  refine lv_iadd hx hb dX7_stampLow_73 ?_
                  refine lv_eqi (v := (nI (3 * k + 1))) (nA (a := 3 * k) (b := 1) (c := 3 * k + 1) (by omega)) ?_
                  refine ln_4 (j := 3 * k + 1) S hK hI (by omega) dX7_stampLow_74 ?_
                  refine lv_topl (fun x197 e197 => ?_)
                  refine lv_lstore_n (lv' := [(3, .long x197), (2, .int 1), (0, .ref (ad 1000)), (1, .int (nI k))]) hx hb dX7_stampLow_75 rfl hl (by decide) rfl (fun ls hl => ?_)
                  refine lv_aload_n hx hb dX7_stampLow_76 rfl (lv_at hl 2 rfl) ?_
                  refine gm_19 S hK hI dX7_stampLow_77 ?_
                  refine lv_iconst (v := 3) hx hb dX7_stampLow_80 (by decide) ?_
                  refine lv_iload_n hx hb dX7_stampLow_81 rfl (lv_at hl 3 rfl) ?_
                  refine lv_imul hx hb dX7_stampLow_82 ?_
                  refine lv_eqi (v := (nI (3 * k))) (nM (a := 3) (b := k) (c := 3 * k) (by omega)) ?_
                  refine lv_iload_n hx hb dX7_stampLow_83 rfl (lv_at hl 1 rfl) ?_
                  refine lv_iadd hx hb dX7_stampLow_84 ?_
                  refine lv_eqi (v := (nI (3 * k + 1))) (nA (a := 3 * k) (b := 1) (c := 3 * k + 1) (by omega)) ?_
                  refine lv_aload_n hx hb dX7_stampLow_85 rfl (lv_at hl 2 rfl) ?_
                  refine gm_7 S hK hI dX7_stampLow_86 ?_
                  refine lv_iload_n hx hb dX7_stampLow_89 rfl (lv_at hl 3 rfl) ?_
                  refine ln_1 (j := k) S hK hI (by omega) dX7_stampLow_90 ?_
                  refine lv_eqi (v := κ) (eκ) ?_
                  refine lv_iconst (v := 3) hx hb dX7_stampLow_91 (by decide) ?_
                  refine lv_icmp_ne (tgt := 101) hx hb dX7_stampLow_92 (by decide) (fun c198 => ?_) (fun c198 => ?_)
                  · refine lv_aload_n hx hb dX7_stampLow_101 rfl (lv_at hl 2 rfl) ?_
                    refine gm_7 S hK hI dX7_stampLow_102 ?_
                    refine lv_iload_n hx hb dX7_stampLow_105 rfl (lv_at hl 3 rfl) ?_
                    refine ln_1 (j := k) S hK hI (by omega) dX7_stampLow_106 ?_
                    refine lv_eqi (v := κ) (eκ) ?_
                    refine lv_lload_n hx hb dX7_stampLow_107 rfl (lv_at hl 0 rfl) ?_
                    refine lv_lconst (v := 1) hx hb dX7_stampLow_108 (by decide) ?_
                    refine lv_ladd hx hb dX7_stampLow_109 ?_
                    refine lv_topl (fun x199 e199 => ?_)
                    refine tw_calll (tw_rS (As := [.int κ, .long x199]) (rest := [.int (nI (3 * k + 1)), .ref (ad 1004)]) S hK hI kX7_114 (c_X7_kept l D ad _ _ _ _) ⟨Nat.le_of_ble_eq_true rfl, Nat.le_of_ble_eq_true rfl⟩ ⟨Nat.le_of_ble_eq_true rfl, Nat.le_of_ble_eq_true rfl⟩ rfl hl.1 rfl (Nat.le_of_ble_eq_true rfl) dX7_stampLow_110) hI (fun H locs hI => ?_)
                    refine lv_topl (fun x200 e200 => ?_)
                    refine sn_4 (j := 3 * k + 1) S hK hI (by omega) dX7_stampLow_113 (fun H locs hI => ?_)
                    refine lv_iinc (v := 2) (lv' := [(2, .int 2), (3, .long x197), (0, .ref (ad 1000)), (1, .int (nI k))]) hx hb dX7_stampLow_114 hl (k := 1) rfl (by decide) (by decide) rfl (fun ls hl => ?_)
                    refine lv_goto (tgt := 43) hx hb dX7_stampLow_117 (by decide) ?_
                    refine lv_iload_n hx hb dX7_stampLow_43 rfl (lv_at hl 0 rfl) ?_
                    refine lv_aload_n hx hb dX7_stampLow_44 rfl (lv_at hl 2 rfl) ?_
                    refine gm_13 S hK hI dX7_stampLow_45 ?_
                    refine lv_iload_n hx hb dX7_stampLow_48 rfl (lv_at hl 3 rfl) ?_
                    refine ln_2 (j := k) S hK hI (by omega) dX7_stampLow_49 ?_
                    refine lv_eqi (v := 3) (ez) ?_
                    refine lv_icmp_ge (tgt := 120) hx hb dX7_stampLow_50 (by decide) (fun c201 => ?_) (fun c201 => ?_)
                    · exact absurd c201 (by decide)
                    · refine lv_aload_n hx hb dX7_stampLow_53 rfl (lv_at hl 2 rfl) ?_
                      refine gm_7 S hK hI dX7_stampLow_54 ?_
                      refine lv_iload_n hx hb dX7_stampLow_57 rfl (lv_at hl 3 rfl) ?_
                      refine ln_1 (j := k) S hK hI (by omega) dX7_stampLow_58 ?_
                      refine lv_eqi (v := κ) (eκ) ?_
                      refine tw_calli (tw_rS (As := [.int κ]) (rest := []) S hK hI kX7_107 (c_X7_isOfNumbers l D ad _ _ _) ⟨Nat.le_of_ble_eq_true rfl, Nat.le_of_ble_eq_true rfl⟩ ⟨Nat.le_of_ble_eq_true rfl, Nat.le_of_ble_eq_true rfl⟩ rfl hl.1 rfl (Nat.le_of_ble_eq_true rfl) dX7_stampLow_59) hI (fun H locs hI => ?_)
                      refine lv_topi (fun x202 e202 => ?_)
                      refine lv_if_eq (tgt := 120) hx hb dX7_stampLow_62 (by decide) (fun c203 => ?_) (fun c203 => ?_)
                      · exact (by subst e202; subst e200; subst e199; subst e197; subst e195; subst e193; subst e192; subst e190; subst e188; subst e186; subst e184; subst e182; exact absurd c203 hN)
                      · refine lv_aload_n hx hb dX7_stampLow_65 rfl (lv_at hl 2 rfl) ?_
                        refine gm_19 S hK hI dX7_stampLow_66 ?_
                        refine lv_iconst (v := 3) hx hb dX7_stampLow_69 (by decide) ?_
                        refine lv_iload_n hx hb dX7_stampLow_70 rfl (lv_at hl 3 rfl) ?_
                        refine lv_imul hx hb dX7_stampLow_71 ?_
                        refine lv_eqi (v := (nI (3 * k))) (nM (a := 3) (b := k) (c := 3 * k) (by omega)) ?_
                        refine lv_iload_n hx hb dX7_stampLow_72 rfl (lv_at hl 0 rfl) ?_
                        refine lv_iadd hx hb dX7_stampLow_73 ?_
                        refine lv_eqi (v := (nI (3 * k + 2))) (nA (a := 3 * k) (b := 2) (c := 3 * k + 2) (by omega)) ?_
                        refine ln_4 (j := 3 * k + 2) S hK hI (by omega) dX7_stampLow_74 ?_
                        refine lv_topl (fun x204 e204 => ?_)
                        refine lv_lstore_n (lv' := [(3, .long x204), (2, .int 2), (0, .ref (ad 1000)), (1, .int (nI k))]) hx hb dX7_stampLow_75 rfl hl (by decide) rfl (fun ls hl => ?_)
                        refine lv_aload_n hx hb dX7_stampLow_76 rfl (lv_at hl 2 rfl) ?_
                        refine gm_19 S hK hI dX7_stampLow_77 ?_
                        refine lv_iconst (v := 3) hx hb dX7_stampLow_80 (by decide) ?_
                        refine lv_iload_n hx hb dX7_stampLow_81 rfl (lv_at hl 3 rfl) ?_
                        refine lv_imul hx hb dX7_stampLow_82 ?_
                        refine lv_eqi (v := (nI (3 * k))) (nM (a := 3) (b := k) (c := 3 * k) (by omega)) ?_
                        refine lv_iload_n hx hb dX7_stampLow_83 rfl (lv_at hl 1 rfl) ?_
                        refine lv_iadd hx hb dX7_stampLow_84 ?_
                        refine lv_eqi (v := (nI (3 * k + 2))) (nA (a := 3 * k) (b := 2) (c := 3 * k + 2) (by omega)) ?_
                        refine lv_aload_n hx hb dX7_stampLow_85 rfl (lv_at hl 2 rfl) ?_
                        refine gm_7 S hK hI dX7_stampLow_86 ?_
                        refine lv_iload_n hx hb dX7_stampLow_89 rfl (lv_at hl 3 rfl) ?_
                        refine ln_1 (j := k) S hK hI (by omega) dX7_stampLow_90 ?_
                        refine lv_eqi (v := κ) (eκ) ?_
                        refine lv_iconst (v := 3) hx hb dX7_stampLow_91 (by decide) ?_
                        refine lv_icmp_ne (tgt := 101) hx hb dX7_stampLow_92 (by decide) (fun c205 => ?_) (fun c205 => ?_)
                        · refine lv_aload_n hx hb dX7_stampLow_101 rfl (lv_at hl 2 rfl) ?_
                          refine gm_7 S hK hI dX7_stampLow_102 ?_
                          refine lv_iload_n hx hb dX7_stampLow_105 rfl (lv_at hl 3 rfl) ?_
                          refine ln_1 (j := k) S hK hI (by omega) dX7_stampLow_106 ?_
                          refine lv_eqi (v := κ) (eκ) ?_
                          refine lv_lload_n hx hb dX7_stampLow_107 rfl (lv_at hl 0 rfl) ?_
                          refine lv_lconst (v := 1) hx hb dX7_stampLow_108 (by decide) ?_
                          refine lv_ladd hx hb dX7_stampLow_109 ?_
                          refine lv_topl (fun x206 e206 => ?_)
                          refine tw_calll (tw_rS (As := [.int κ, .long x206]) (rest := [.int (nI (3 * k + 2)), .ref (ad 1004)]) S hK hI kX7_114 (c_X7_kept l D ad _ _ _ _) ⟨Nat.le_of_ble_eq_true rfl, Nat.le_of_ble_eq_true rfl⟩ ⟨Nat.le_of_ble_eq_true rfl, Nat.le_of_ble_eq_true rfl⟩ rfl hl.1 rfl (Nat.le_of_ble_eq_true rfl) dX7_stampLow_110) hI (fun H locs hI => ?_)
                          refine lv_topl (fun x207 e207 => ?_)
                          refine sn_4 (j := 3 * k + 2) S hK hI (by omega) dX7_stampLow_113 (fun H locs hI => ?_)
                          refine lv_iinc (v := 3) (lv' := [(2, .int 3), (3, .long x204), (0, .ref (ad 1000)), (1, .int (nI k))]) hx hb dX7_stampLow_114 hl (k := 1) rfl (by decide) (by decide) rfl (fun ls hl => ?_)
                          refine lv_goto (tgt := 43) hx hb dX7_stampLow_117 (by decide) ?_
                          refine lv_iload_n hx hb dX7_stampLow_43 rfl (lv_at hl 0 rfl) ?_
                          refine lv_aload_n hx hb dX7_stampLow_44 rfl (lv_at hl 2 rfl) ?_
                          refine gm_13 S hK hI dX7_stampLow_45 ?_
                          refine lv_iload_n hx hb dX7_stampLow_48 rfl (lv_at hl 3 rfl) ?_
                          refine ln_2 (j := k) S hK hI (by omega) dX7_stampLow_49 ?_
                          refine lv_eqi (v := 3) (ez) ?_
                          refine lv_icmp_ge (tgt := 120) hx hb dX7_stampLow_50 (by decide) (fun c208 => ?_) (fun c208 => ?_)
                          · subst e207
                            subst e206
                            subst e204
                            subst e202
                            subst e200
                            subst e199
                            subst e197
                            subst e195
                            subst e193
                            subst e192
                            subst e190
                            subst e188
                            subst e186
                            subst e184
                            subst e182
                            unfold stampLowF
                            unfold addS
                            have es : szS σ k = 3 := by unfold szS; rw [ez]; rfl
                            rw [es]
                            rw [eκ]
                            try simp only [bumpN, bump1, bumpF, Nat.add_zero]
                            try rw [if_neg hN]
                            try rw [if_neg c183]
                            try rw [if_pos c185]
                            try rw [if_neg (show ¬ (3 : Int32) ≤ 0 from by decide)]
                            try rw [if_neg hN]
                            try rw [if_neg c191]
                            try rw [if_neg (show ¬ (3 : Int32) ≤ 1 from by decide)]
                            try rw [if_neg hN]
                            try rw [if_neg c191]
                            try rw [if_neg (show ¬ (3 : Int32) ≤ 2 from by decide)]
                            try rw [if_neg hN]
                            try rw [if_neg c191]
                            try rw [if_pos (show (3 : Int32) ≤ 3 from by decide)]
                            exact tw_vret S hr hlocks hI dX7_stampLow_120
                          · exact absurd c208 (by decide)
                        · exact absurd c205 c191
                  · exact absurd c198 c191
            · refine lv_lconst (v := 1) hx hb dX7_stampLow_95 (by decide) ?_
              refine lv_lload_n hx hb dX7_stampLow_96 rfl (lv_at hl 0 rfl) ?_
              refine lv_lsub hx hb dX7_stampLow_97 ?_
              refine lv_topl (fun x209 e209 => ?_)
              refine lv_goto (tgt := 113) hx hb dX7_stampLow_98 (by decide) ?_
              refine sn_4 (j := 3 * k) S hK hI (by omega) dX7_stampLow_113 (fun H locs hI => ?_)
              refine lv_iinc (v := 1) (lv' := [(2, .int 1), (3, .long x190), (0, .ref (ad 1000)), (1, .int (nI k))]) hx hb dX7_stampLow_114 hl (k := 1) rfl (by decide) (by decide) rfl (fun ls hl => ?_)
              refine lv_goto (tgt := 43) hx hb dX7_stampLow_117 (by decide) ?_
              refine lv_iload_n hx hb dX7_stampLow_43 rfl (lv_at hl 0 rfl) ?_
              refine lv_aload_n hx hb dX7_stampLow_44 rfl (lv_at hl 2 rfl) ?_
              refine gm_13 S hK hI dX7_stampLow_45 ?_
              refine lv_iload_n hx hb dX7_stampLow_48 rfl (lv_at hl 3 rfl) ?_
              refine ln_2 (j := k) S hK hI (by omega) dX7_stampLow_49 ?_
              refine lv_eqi (v := 3) (ez) ?_
              refine lv_icmp_ge (tgt := 120) hx hb dX7_stampLow_50 (by decide) (fun c210 => ?_) (fun c210 => ?_)
              · exact absurd c210 (by decide)
              · refine lv_aload_n hx hb dX7_stampLow_53 rfl (lv_at hl 2 rfl) ?_
                refine gm_7 S hK hI dX7_stampLow_54 ?_
                refine lv_iload_n hx hb dX7_stampLow_57 rfl (lv_at hl 3 rfl) ?_
                refine ln_1 (j := k) S hK hI (by omega) dX7_stampLow_58 ?_
                refine lv_eqi (v := κ) (eκ) ?_
                refine tw_calli (tw_rS (As := [.int κ]) (rest := []) S hK hI kX7_107 (c_X7_isOfNumbers l D ad _ _ _) ⟨Nat.le_of_ble_eq_true rfl, Nat.le_of_ble_eq_true rfl⟩ ⟨Nat.le_of_ble_eq_true rfl, Nat.le_of_ble_eq_true rfl⟩ rfl hl.1 rfl (Nat.le_of_ble_eq_true rfl) dX7_stampLow_59) hI (fun H locs hI => ?_)
                refine lv_topi (fun x211 e211 => ?_)
                refine lv_if_eq (tgt := 120) hx hb dX7_stampLow_62 (by decide) (fun c212 => ?_) (fun c212 => ?_)
                · exact (by subst e211; subst e209; subst e190; subst e188; subst e186; subst e184; subst e182; exact absurd c212 hN)
                · refine lv_aload_n hx hb dX7_stampLow_65 rfl (lv_at hl 2 rfl) ?_
                  refine gm_19 S hK hI dX7_stampLow_66 ?_
                  refine lv_iconst (v := 3) hx hb dX7_stampLow_69 (by decide) ?_
                  refine lv_iload_n hx hb dX7_stampLow_70 rfl (lv_at hl 3 rfl) ?_
                  refine lv_imul hx hb dX7_stampLow_71 ?_
                  refine lv_eqi (v := (nI (3 * k))) (nM (a := 3) (b := k) (c := 3 * k) (by omega)) ?_
                  refine lv_iload_n hx hb dX7_stampLow_72 rfl (lv_at hl 0 rfl) ?_
                  refine lv_iadd hx hb dX7_stampLow_73 ?_
                  refine lv_eqi (v := (nI (3 * k + 1))) (nA (a := 3 * k) (b := 1) (c := 3 * k + 1) (by omega)) ?_
                  refine ln_4 (j := 3 * k + 1) S hK hI (by omega) dX7_stampLow_74 ?_
                  refine lv_topl (fun x213 e213 => ?_)
                  refine lv_lstore_n (lv' := [(3, .long x213), (2, .int 1), (0, .ref (ad 1000)), (1, .int (nI k))]) hx hb dX7_stampLow_75 rfl hl (by decide) rfl (fun ls hl => ?_)
                  refine lv_aload_n hx hb dX7_stampLow_76 rfl (lv_at hl 2 rfl) ?_
                  refine gm_19 S hK hI dX7_stampLow_77 ?_
                  refine lv_iconst (v := 3) hx hb dX7_stampLow_80 (by decide) ?_
                  refine lv_iload_n hx hb dX7_stampLow_81 rfl (lv_at hl 3 rfl) ?_
                  refine lv_imul hx hb dX7_stampLow_82 ?_
                  refine lv_eqi (v := (nI (3 * k))) (nM (a := 3) (b := k) (c := 3 * k) (by omega)) ?_
                  refine lv_iload_n hx hb dX7_stampLow_83 rfl (lv_at hl 1 rfl) ?_
                  refine lv_iadd hx hb dX7_stampLow_84 ?_
                  refine lv_eqi (v := (nI (3 * k + 1))) (nA (a := 3 * k) (b := 1) (c := 3 * k + 1) (by omega)) ?_
                  refine lv_aload_n hx hb dX7_stampLow_85 rfl (lv_at hl 2 rfl) ?_
                  refine gm_7 S hK hI dX7_stampLow_86 ?_
                  refine lv_iload_n hx hb dX7_stampLow_89 rfl (lv_at hl 3 rfl) ?_
                  refine ln_1 (j := k) S hK hI (by omega) dX7_stampLow_90 ?_
                  refine lv_eqi (v := κ) (eκ) ?_
                  refine lv_iconst (v := 3) hx hb dX7_stampLow_91 (by decide) ?_
                  refine lv_icmp_ne (tgt := 101) hx hb dX7_stampLow_92 (by decide) (fun c214 => ?_) (fun c214 => ?_)
                  · exact absurd c191 c214
                  · refine lv_lconst (v := 1) hx hb dX7_stampLow_95 (by decide) ?_
                    refine lv_lload_n hx hb dX7_stampLow_96 rfl (lv_at hl 0 rfl) ?_
                    refine lv_lsub hx hb dX7_stampLow_97 ?_
                    refine lv_topl (fun x215 e215 => ?_)
                    refine lv_goto (tgt := 113) hx hb dX7_stampLow_98 (by decide) ?_
                    refine sn_4 (j := 3 * k + 1) S hK hI (by omega) dX7_stampLow_113 (fun H locs hI => ?_)
                    refine lv_iinc (v := 2) (lv' := [(2, .int 2), (3, .long x213), (0, .ref (ad 1000)), (1, .int (nI k))]) hx hb dX7_stampLow_114 hl (k := 1) rfl (by decide) (by decide) rfl (fun ls hl => ?_)
                    refine lv_goto (tgt := 43) hx hb dX7_stampLow_117 (by decide) ?_
                    refine lv_iload_n hx hb dX7_stampLow_43 rfl (lv_at hl 0 rfl) ?_
                    refine lv_aload_n hx hb dX7_stampLow_44 rfl (lv_at hl 2 rfl) ?_
                    refine gm_13 S hK hI dX7_stampLow_45 ?_
                    refine lv_iload_n hx hb dX7_stampLow_48 rfl (lv_at hl 3 rfl) ?_
                    refine ln_2 (j := k) S hK hI (by omega) dX7_stampLow_49 ?_
                    refine lv_eqi (v := 3) (ez) ?_
                    refine lv_icmp_ge (tgt := 120) hx hb dX7_stampLow_50 (by decide) (fun c216 => ?_) (fun c216 => ?_)
                    · exact absurd c216 (by decide)
                    · refine lv_aload_n hx hb dX7_stampLow_53 rfl (lv_at hl 2 rfl) ?_
                      refine gm_7 S hK hI dX7_stampLow_54 ?_
                      refine lv_iload_n hx hb dX7_stampLow_57 rfl (lv_at hl 3 rfl) ?_
                      refine ln_1 (j := k) S hK hI (by omega) dX7_stampLow_58 ?_
                      refine lv_eqi (v := κ) (eκ) ?_
                      refine tw_calli (tw_rS (As := [.int κ]) (rest := []) S hK hI kX7_107 (c_X7_isOfNumbers l D ad _ _ _) ⟨Nat.le_of_ble_eq_true rfl, Nat.le_of_ble_eq_true rfl⟩ ⟨Nat.le_of_ble_eq_true rfl, Nat.le_of_ble_eq_true rfl⟩ rfl hl.1 rfl (Nat.le_of_ble_eq_true rfl) dX7_stampLow_59) hI (fun H locs hI => ?_)
                      refine lv_topi (fun x217 e217 => ?_)
                      refine lv_if_eq (tgt := 120) hx hb dX7_stampLow_62 (by decide) (fun c218 => ?_) (fun c218 => ?_)
                      · exact (by subst e217; subst e215; subst e213; subst e211; subst e209; subst e190; subst e188; subst e186; subst e184; subst e182; exact absurd c218 hN)
                      · refine lv_aload_n hx hb dX7_stampLow_65 rfl (lv_at hl 2 rfl) ?_
                        refine gm_19 S hK hI dX7_stampLow_66 ?_
                        refine lv_iconst (v := 3) hx hb dX7_stampLow_69 (by decide) ?_
                        refine lv_iload_n hx hb dX7_stampLow_70 rfl (lv_at hl 3 rfl) ?_
                        refine lv_imul hx hb dX7_stampLow_71 ?_
                        refine lv_eqi (v := (nI (3 * k))) (nM (a := 3) (b := k) (c := 3 * k) (by omega)) ?_
                        refine lv_iload_n hx hb dX7_stampLow_72 rfl (lv_at hl 0 rfl) ?_
                        refine lv_iadd hx hb dX7_stampLow_73 ?_
                        refine lv_eqi (v := (nI (3 * k + 2))) (nA (a := 3 * k) (b := 2) (c := 3 * k + 2) (by omega)) ?_
                        refine ln_4 (j := 3 * k + 2) S hK hI (by omega) dX7_stampLow_74 ?_
                        refine lv_topl (fun x219 e219 => ?_)
                        refine lv_lstore_n (lv' := [(3, .long x219), (2, .int 2), (0, .ref (ad 1000)), (1, .int (nI k))]) hx hb dX7_stampLow_75 rfl hl (by decide) rfl (fun ls hl => ?_)
                        refine lv_aload_n hx hb dX7_stampLow_76 rfl (lv_at hl 2 rfl) ?_
                        refine gm_19 S hK hI dX7_stampLow_77 ?_
                        refine lv_iconst (v := 3) hx hb dX7_stampLow_80 (by decide) ?_
                        refine lv_iload_n hx hb dX7_stampLow_81 rfl (lv_at hl 3 rfl) ?_
                        refine lv_imul hx hb dX7_stampLow_82 ?_
                        refine lv_eqi (v := (nI (3 * k))) (nM (a := 3) (b := k) (c := 3 * k) (by omega)) ?_
                        refine lv_iload_n hx hb dX7_stampLow_83 rfl (lv_at hl 1 rfl) ?_
                        refine lv_iadd hx hb dX7_stampLow_84 ?_
                        refine lv_eqi (v := (nI (3 * k + 2))) (nA (a := 3 * k) (b := 2) (c := 3 * k + 2) (by omega)) ?_
                        refine lv_aload_n hx hb dX7_stampLow_85 rfl (lv_at hl 2 rfl) ?_
                        refine gm_7 S hK hI dX7_stampLow_86 ?_
                        refine lv_iload_n hx hb dX7_stampLow_89 rfl (lv_at hl 3 rfl) ?_
                        refine ln_1 (j := k) S hK hI (by omega) dX7_stampLow_90 ?_
                        refine lv_eqi (v := κ) (eκ) ?_
                        refine lv_iconst (v := 3) hx hb dX7_stampLow_91 (by decide) ?_
                        refine lv_icmp_ne (tgt := 101) hx hb dX7_stampLow_92 (by decide) (fun c220 => ?_) (fun c220 => ?_)
                        · exact absurd c191 c220
                        · refine lv_lconst (v := 1) hx hb dX7_stampLow_95 (by decide) ?_
                          refine lv_lload_n hx hb dX7_stampLow_96 rfl (lv_at hl 0 rfl) ?_
                          refine lv_lsub hx hb dX7_stampLow_97 ?_
                          refine lv_topl (fun x221 e221 => ?_)
                          refine lv_goto (tgt := 113) hx hb dX7_stampLow_98 (by decide) ?_
                          refine sn_4 (j := 3 * k + 2) S hK hI (by omega) dX7_stampLow_113 (fun H locs hI => ?_)
                          refine lv_iinc (v := 3) (lv' := [(2, .int 3), (3, .long x219), (0, .ref (ad 1000)), (1, .int (nI k))]) hx hb dX7_stampLow_114 hl (k := 1) rfl (by decide) (by decide) rfl (fun ls hl => ?_)
                          refine lv_goto (tgt := 43) hx hb dX7_stampLow_117 (by decide) ?_
                          refine lv_iload_n hx hb dX7_stampLow_43 rfl (lv_at hl 0 rfl) ?_
                          refine lv_aload_n hx hb dX7_stampLow_44 rfl (lv_at hl 2 rfl) ?_
                          refine gm_13 S hK hI dX7_stampLow_45 ?_
                          refine lv_iload_n hx hb dX7_stampLow_48 rfl (lv_at hl 3 rfl) ?_
                          refine ln_2 (j := k) S hK hI (by omega) dX7_stampLow_49 ?_
                          refine lv_eqi (v := 3) (ez) ?_
                          refine lv_icmp_ge (tgt := 120) hx hb dX7_stampLow_50 (by decide) (fun c222 => ?_) (fun c222 => ?_)
                          · subst e221
                            subst e219
                            subst e217
                            subst e215
                            subst e213
                            subst e211
                            subst e209
                            subst e190
                            subst e188
                            subst e186
                            subst e184
                            subst e182
                            unfold stampLowF
                            unfold addS
                            have es : szS σ k = 3 := by unfold szS; rw [ez]; rfl
                            rw [es]
                            rw [eκ]
                            try simp only [bumpN, bump1, bumpF, Nat.add_zero]
                            try rw [if_neg hN]
                            try rw [if_neg c183]
                            try rw [if_pos c185]
                            try rw [if_neg (show ¬ (3 : Int32) ≤ 0 from by decide)]
                            try rw [if_neg hN]
                            try rw [if_pos c191]
                            try rw [if_neg (show ¬ (3 : Int32) ≤ 1 from by decide)]
                            try rw [if_neg hN]
                            try rw [if_pos c191]
                            try rw [if_neg (show ¬ (3 : Int32) ≤ 2 from by decide)]
                            try rw [if_neg hN]
                            try rw [if_pos c191]
                            try rw [if_pos (show (3 : Int32) ≤ 3 from by decide)]
                            exact tw_vret S hr hlocks hI dX7_stampLow_120
                          · exact absurd c222 (by decide)
      · refine lv_iconst (v := 1) hx hb dX7_stampLow_34 (by decide) ?_
        refine lv_goto (tgt := 39) hx hb dX7_stampLow_35 (by decide) ?_
        refine lv_iadd hx hb dX7_stampLow_39 ?_
        refine lv_topi (fun x223 e223 => ?_)
        refine sn_3 (j := k) S hK hI (by omega) dX7_stampLow_40 (fun H locs hI => ?_)
        refine lv_iconst (v := 0) hx hb dX7_stampLow_41 (by decide) ?_
        refine lv_istore_n (lv' := [(2, .int 0), (0, .ref (ad 1000)), (1, .int (nI k))]) hx hb dX7_stampLow_42 rfl hl (by decide) rfl (fun ls hl => ?_)
        refine lv_iload_n hx hb dX7_stampLow_43 rfl (lv_at hl 0 rfl) ?_
        refine lv_aload_n hx hb dX7_stampLow_44 rfl (lv_at hl 1 rfl) ?_
        refine gm_13 S hK hI dX7_stampLow_45 ?_
        refine lv_iload_n hx hb dX7_stampLow_48 rfl (lv_at hl 2 rfl) ?_
        refine ln_2 (j := k) S hK hI (by omega) dX7_stampLow_49 ?_
        refine lv_eqi (v := 3) (ez) ?_
        refine lv_icmp_ge (tgt := 120) hx hb dX7_stampLow_50 (by decide) (fun c224 => ?_) (fun c224 => ?_)
        · exact absurd c224 (by decide)
        · refine lv_aload_n hx hb dX7_stampLow_53 rfl (lv_at hl 1 rfl) ?_
          refine gm_7 S hK hI dX7_stampLow_54 ?_
          refine lv_iload_n hx hb dX7_stampLow_57 rfl (lv_at hl 2 rfl) ?_
          refine ln_1 (j := k) S hK hI (by omega) dX7_stampLow_58 ?_
          refine lv_eqi (v := κ) (eκ) ?_
          refine tw_calli (tw_rS (As := [.int κ]) (rest := []) S hK hI kX7_107 (c_X7_isOfNumbers l D ad _ _ _) ⟨Nat.le_of_ble_eq_true rfl, Nat.le_of_ble_eq_true rfl⟩ ⟨Nat.le_of_ble_eq_true rfl, Nat.le_of_ble_eq_true rfl⟩ rfl hl.1 rfl (Nat.le_of_ble_eq_true rfl) dX7_stampLow_59) hI (fun H locs hI => ?_)
          refine lv_topi (fun x225 e225 => ?_)
          refine lv_if_eq (tgt := 120) hx hb dX7_stampLow_62 (by decide) (fun c226 => ?_) (fun c226 => ?_)
          · exact (by subst e225; subst e223; subst e184; subst e182; exact absurd c226 hN)
          · refine lv_aload_n hx hb dX7_stampLow_65 rfl (lv_at hl 1 rfl) ?_
            refine gm_19 S hK hI dX7_stampLow_66 ?_
            refine lv_iconst (v := 3) hx hb dX7_stampLow_69 (by decide) ?_
            refine lv_iload_n hx hb dX7_stampLow_70 rfl (lv_at hl 2 rfl) ?_
            refine lv_imul hx hb dX7_stampLow_71 ?_
            refine lv_eqi (v := (nI (3 * k))) (nM (a := 3) (b := k) (c := 3 * k) (by omega)) ?_
            refine lv_iload_n hx hb dX7_stampLow_72 rfl (lv_at hl 0 rfl) ?_
            refine lv_iadd hx hb dX7_stampLow_73 ?_
            refine lv_eqi (v := (nI (3 * k))) (nA (a := 3 * k) (b := 0) (c := 3 * k) (by omega)) ?_
            refine ln_4 (j := 3 * k) S hK hI (by omega) dX7_stampLow_74 ?_
            refine lv_topl (fun x227 e227 => ?_)
            refine lv_lstore_n (lv' := [(3, .long x227), (2, .int 0), (0, .ref (ad 1000)), (1, .int (nI k))]) hx hb dX7_stampLow_75 rfl hl (by decide) rfl (fun ls hl => ?_)
            refine lv_aload_n hx hb dX7_stampLow_76 rfl (lv_at hl 2 rfl) ?_
            refine gm_19 S hK hI dX7_stampLow_77 ?_
            refine lv_iconst (v := 3) hx hb dX7_stampLow_80 (by decide) ?_
            refine lv_iload_n hx hb dX7_stampLow_81 rfl (lv_at hl 3 rfl) ?_
            refine lv_imul hx hb dX7_stampLow_82 ?_
            refine lv_eqi (v := (nI (3 * k))) (nM (a := 3) (b := k) (c := 3 * k) (by omega)) ?_
            refine lv_iload_n hx hb dX7_stampLow_83 rfl (lv_at hl 1 rfl) ?_
            refine lv_iadd hx hb dX7_stampLow_84 ?_
            refine lv_eqi (v := (nI (3 * k))) (nA (a := 3 * k) (b := 0) (c := 3 * k) (by omega)) ?_
            refine lv_aload_n hx hb dX7_stampLow_85 rfl (lv_at hl 2 rfl) ?_
            refine gm_7 S hK hI dX7_stampLow_86 ?_
            refine lv_iload_n hx hb dX7_stampLow_89 rfl (lv_at hl 3 rfl) ?_
            refine ln_1 (j := k) S hK hI (by omega) dX7_stampLow_90 ?_
            refine lv_eqi (v := κ) (eκ) ?_
            refine lv_iconst (v := 3) hx hb dX7_stampLow_91 (by decide) ?_
            refine lv_icmp_ne (tgt := 101) hx hb dX7_stampLow_92 (by decide) (fun c228 => ?_) (fun c228 => ?_)
            · refine lv_aload_n hx hb dX7_stampLow_101 rfl (lv_at hl 2 rfl) ?_
              refine gm_7 S hK hI dX7_stampLow_102 ?_
              refine lv_iload_n hx hb dX7_stampLow_105 rfl (lv_at hl 3 rfl) ?_
              refine ln_1 (j := k) S hK hI (by omega) dX7_stampLow_106 ?_
              refine lv_eqi (v := κ) (eκ) ?_
              refine lv_lload_n hx hb dX7_stampLow_107 rfl (lv_at hl 0 rfl) ?_
              refine lv_lconst (v := 1) hx hb dX7_stampLow_108 (by decide) ?_
              refine lv_ladd hx hb dX7_stampLow_109 ?_
              refine lv_topl (fun x229 e229 => ?_)
              refine tw_calll (tw_rS (As := [.int κ, .long x229]) (rest := [.int (nI (3 * k)), .ref (ad 1004)]) S hK hI kX7_114 (c_X7_kept l D ad _ _ _ _) ⟨Nat.le_of_ble_eq_true rfl, Nat.le_of_ble_eq_true rfl⟩ ⟨Nat.le_of_ble_eq_true rfl, Nat.le_of_ble_eq_true rfl⟩ rfl hl.1 rfl (Nat.le_of_ble_eq_true rfl) dX7_stampLow_110) hI (fun H locs hI => ?_)
              refine lv_topl (fun x230 e230 => ?_)
              refine sn_4 (j := 3 * k) S hK hI (by omega) dX7_stampLow_113 (fun H locs hI => ?_)
              refine lv_iinc (v := 1) (lv' := [(2, .int 1), (3, .long x227), (0, .ref (ad 1000)), (1, .int (nI k))]) hx hb dX7_stampLow_114 hl (k := 1) rfl (by decide) (by decide) rfl (fun ls hl => ?_)
              refine lv_goto (tgt := 43) hx hb dX7_stampLow_117 (by decide) ?_
              refine lv_iload_n hx hb dX7_stampLow_43 rfl (lv_at hl 0 rfl) ?_
              refine lv_aload_n hx hb dX7_stampLow_44 rfl (lv_at hl 2 rfl) ?_
              refine gm_13 S hK hI dX7_stampLow_45 ?_
              refine lv_iload_n hx hb dX7_stampLow_48 rfl (lv_at hl 3 rfl) ?_
              refine ln_2 (j := k) S hK hI (by omega) dX7_stampLow_49 ?_
              refine lv_eqi (v := 3) (ez) ?_
              refine lv_icmp_ge (tgt := 120) hx hb dX7_stampLow_50 (by decide) (fun c231 => ?_) (fun c231 => ?_)
              · exact absurd c231 (by decide)
              · refine lv_aload_n hx hb dX7_stampLow_53 rfl (lv_at hl 2 rfl) ?_
                refine gm_7 S hK hI dX7_stampLow_54 ?_
                refine lv_iload_n hx hb dX7_stampLow_57 rfl (lv_at hl 3 rfl) ?_
                refine ln_1 (j := k) S hK hI (by omega) dX7_stampLow_58 ?_
                refine lv_eqi (v := κ) (eκ) ?_
                refine tw_calli (tw_rS (As := [.int κ]) (rest := []) S hK hI kX7_107 (c_X7_isOfNumbers l D ad _ _ _) ⟨Nat.le_of_ble_eq_true rfl, Nat.le_of_ble_eq_true rfl⟩ ⟨Nat.le_of_ble_eq_true rfl, Nat.le_of_ble_eq_true rfl⟩ rfl hl.1 rfl (Nat.le_of_ble_eq_true rfl) dX7_stampLow_59) hI (fun H locs hI => ?_)
                refine lv_topi (fun x232 e232 => ?_)
                refine lv_if_eq (tgt := 120) hx hb dX7_stampLow_62 (by decide) (fun c233 => ?_) (fun c233 => ?_)
                · exact (by subst e232; subst e230; subst e229; subst e227; subst e225; subst e223; subst e184; subst e182; exact absurd c233 hN)
                · refine lv_aload_n hx hb dX7_stampLow_65 rfl (lv_at hl 2 rfl) ?_
                  refine gm_19 S hK hI dX7_stampLow_66 ?_
                  refine lv_iconst (v := 3) hx hb dX7_stampLow_69 (by decide) ?_
                  refine lv_iload_n hx hb dX7_stampLow_70 rfl (lv_at hl 3 rfl) ?_
                  refine lv_imul hx hb dX7_stampLow_71 ?_
                  refine lv_eqi (v := (nI (3 * k))) (nM (a := 3) (b := k) (c := 3 * k) (by omega)) ?_
                  refine lv_iload_n hx hb dX7_stampLow_72 rfl (lv_at hl 0 rfl) ?_
                  refine lv_iadd hx hb dX7_stampLow_73 ?_
                  refine lv_eqi (v := (nI (3 * k + 1))) (nA (a := 3 * k) (b := 1) (c := 3 * k + 1) (by omega)) ?_
                  refine ln_4 (j := 3 * k + 1) S hK hI (by omega) dX7_stampLow_74 ?_
                  refine lv_topl (fun x234 e234 => ?_)
                  refine lv_lstore_n (lv' := [(3, .long x234), (2, .int 1), (0, .ref (ad 1000)), (1, .int (nI k))]) hx hb dX7_stampLow_75 rfl hl (by decide) rfl (fun ls hl => ?_)
                  refine lv_aload_n hx hb dX7_stampLow_76 rfl (lv_at hl 2 rfl) ?_
                  refine gm_19 S hK hI dX7_stampLow_77 ?_
                  refine lv_iconst (v := 3) hx hb dX7_stampLow_80 (by decide) ?_
                  refine lv_iload_n hx hb dX7_stampLow_81 rfl (lv_at hl 3 rfl) ?_
                  refine lv_imul hx hb dX7_stampLow_82 ?_
                  refine lv_eqi (v := (nI (3 * k))) (nM (a := 3) (b := k) (c := 3 * k) (by omega)) ?_
                  refine lv_iload_n hx hb dX7_stampLow_83 rfl (lv_at hl 1 rfl) ?_
                  refine lv_iadd hx hb dX7_stampLow_84 ?_
                  refine lv_eqi (v := (nI (3 * k + 1))) (nA (a := 3 * k) (b := 1) (c := 3 * k + 1) (by omega)) ?_
                  refine lv_aload_n hx hb dX7_stampLow_85 rfl (lv_at hl 2 rfl) ?_
                  refine gm_7 S hK hI dX7_stampLow_86 ?_
                  refine lv_iload_n hx hb dX7_stampLow_89 rfl (lv_at hl 3 rfl) ?_
                  refine ln_1 (j := k) S hK hI (by omega) dX7_stampLow_90 ?_
                  refine lv_eqi (v := κ) (eκ) ?_
                  refine lv_iconst (v := 3) hx hb dX7_stampLow_91 (by decide) ?_
                  refine lv_icmp_ne (tgt := 101) hx hb dX7_stampLow_92 (by decide) (fun c235 => ?_) (fun c235 => ?_)
                  · refine lv_aload_n hx hb dX7_stampLow_101 rfl (lv_at hl 2 rfl) ?_
                    refine gm_7 S hK hI dX7_stampLow_102 ?_
                    refine lv_iload_n hx hb dX7_stampLow_105 rfl (lv_at hl 3 rfl) ?_
                    refine ln_1 (j := k) S hK hI (by omega) dX7_stampLow_106 ?_
                    refine lv_eqi (v := κ) (eκ) ?_
                    refine lv_lload_n hx hb dX7_stampLow_107 rfl (lv_at hl 0 rfl) ?_
                    refine lv_lconst (v := 1) hx hb dX7_stampLow_108 (by decide) ?_
                    refine lv_ladd hx hb dX7_stampLow_109 ?_
                    refine lv_topl (fun x236 e236 => ?_)
                    refine tw_calll (tw_rS (As := [.int κ, .long x236]) (rest := [.int (nI (3 * k + 1)), .ref (ad 1004)]) S hK hI kX7_114 (c_X7_kept l D ad _ _ _ _) ⟨Nat.le_of_ble_eq_true rfl, Nat.le_of_ble_eq_true rfl⟩ ⟨Nat.le_of_ble_eq_true rfl, Nat.le_of_ble_eq_true rfl⟩ rfl hl.1 rfl (Nat.le_of_ble_eq_true rfl) dX7_stampLow_110) hI (fun H locs hI => ?_)
                    refine lv_topl (fun x237 e237 => ?_)
                    refine sn_4 (j := 3 * k + 1) S hK hI (by omega) dX7_stampLow_113 (fun H locs hI => ?_)
                    refine lv_iinc (v := 2) (lv' := [(2, .int 2), (3, .long x234), (0, .ref (ad 1000)), (1, .int (nI k))]) hx hb dX7_stampLow_114 hl (k := 1) rfl (by decide) (by decide) rfl (fun ls hl => ?_)
                    refine lv_goto (tgt := 43) hx hb dX7_stampLow_117 (by decide) ?_
                    refine lv_iload_n hx hb dX7_stampLow_43 rfl (lv_at hl 0 rfl) ?_
                    refine lv_aload_n hx hb dX7_stampLow_44 rfl (lv_at hl 2 rfl) ?_
                    refine gm_13 S hK hI dX7_stampLow_45 ?_
                    refine lv_iload_n hx hb dX7_stampLow_48 rfl (lv_at hl 3 rfl) ?_
                    refine ln_2 (j := k) S hK hI (by omega) dX7_stampLow_49 ?_
                    refine lv_eqi (v := 3) (ez) ?_
                    refine lv_icmp_ge (tgt := 120) hx hb dX7_stampLow_50 (by decide) (fun c238 => ?_) (fun c238 => ?_)
                    · exact absurd c238 (by decide)
                    · refine lv_aload_n hx hb dX7_stampLow_53 rfl (lv_at hl 2 rfl) ?_
                      refine gm_7 S hK hI dX7_stampLow_54 ?_
                      refine lv_iload_n hx hb dX7_stampLow_57 rfl (lv_at hl 3 rfl) ?_
                      refine ln_1 (j := k) S hK hI (by omega) dX7_stampLow_58 ?_
                      refine lv_eqi (v := κ) (eκ) ?_
                      refine tw_calli (tw_rS (As := [.int κ]) (rest := []) S hK hI kX7_107 (c_X7_isOfNumbers l D ad _ _ _) ⟨Nat.le_of_ble_eq_true rfl, Nat.le_of_ble_eq_true rfl⟩ ⟨Nat.le_of_ble_eq_true rfl, Nat.le_of_ble_eq_true rfl⟩ rfl hl.1 rfl (Nat.le_of_ble_eq_true rfl) dX7_stampLow_59) hI (fun H locs hI => ?_)
                      refine lv_topi (fun x239 e239 => ?_)
                      refine lv_if_eq (tgt := 120) hx hb dX7_stampLow_62 (by decide) (fun c240 => ?_) (fun c240 => ?_)
                      · exact (by subst e239; subst e237; subst e236; subst e234; subst e232; subst e230; subst e229; subst e227; subst e225; subst e223; subst e184; subst e182; exact absurd c240 hN)
                      · refine lv_aload_n hx hb dX7_stampLow_65 rfl (lv_at hl 2 rfl) ?_
                        refine gm_19 S hK hI dX7_stampLow_66 ?_
                        refine lv_iconst (v := 3) hx hb dX7_stampLow_69 (by decide) ?_
                        refine lv_iload_n hx hb dX7_stampLow_70 rfl (lv_at hl 3 rfl) ?_
                        refine lv_imul hx hb dX7_stampLow_71 ?_
                        refine lv_eqi (v := (nI (3 * k))) (nM (a := 3) (b := k) (c := 3 * k) (by omega)) ?_
                        refine lv_iload_n hx hb dX7_stampLow_72 rfl (lv_at hl 0 rfl) ?_
                        refine lv_iadd hx hb dX7_stampLow_73 ?_
                        refine lv_eqi (v := (nI (3 * k + 2))) (nA (a := 3 * k) (b := 2) (c := 3 * k + 2) (by omega)) ?_
                        refine ln_4 (j := 3 * k + 2) S hK hI (by omega) dX7_stampLow_74 ?_
                        refine lv_topl (fun x241 e241 => ?_)
                        refine lv_lstore_n (lv' := [(3, .long x241), (2, .int 2), (0, .ref (ad 1000)), (1, .int (nI k))]) hx hb dX7_stampLow_75 rfl hl (by decide) rfl (fun ls hl => ?_)
                        refine lv_aload_n hx hb dX7_stampLow_76 rfl (lv_at hl 2 rfl) ?_
                        refine gm_19 S hK hI dX7_stampLow_77 ?_
                        refine lv_iconst (v := 3) hx hb dX7_stampLow_80 (by decide) ?_
                        refine lv_iload_n hx hb dX7_stampLow_81 rfl (lv_at hl 3 rfl) ?_
                        refine lv_imul hx hb dX7_stampLow_82 ?_
                        refine lv_eqi (v := (nI (3 * k))) (nM (a := 3) (b := k) (c := 3 * k) (by omega)) ?_
                        refine lv_iload_n hx hb dX7_stampLow_83 rfl (lv_at hl 1 rfl) ?_
                        refine lv_iadd hx hb dX7_stampLow_84 ?_
                        refine lv_eqi (v := (nI (3 * k + 2))) (nA (a := 3 * k) (b := 2) (c := 3 * k + 2) (by omega)) ?_
                        refine lv_aload_n hx hb dX7_stampLow_85 rfl (lv_at hl 2 rfl) ?_
                        refine gm_7 S hK hI dX7_stampLow_86 ?_
                        refine lv_iload_n hx hb dX7_stampLow_89 rfl (lv_at hl 3 rfl) ?_
                        refine ln_1 (j := k) S hK hI (by omega) dX7_stampLow_90 ?_
                        refine lv_eqi (v := κ) (eκ) ?_
                        refine lv_iconst (v := 3) hx hb dX7_stampLow_91 (by decide) ?_
                        refine lv_icmp_ne (tgt := 101) hx hb dX7_stampLow_92 (by decide) (fun c242 => ?_) (fun c242 => ?_)
                        · refine lv_aload_n hx hb dX7_stampLow_101 rfl (lv_at hl 2 rfl) ?_
                          refine gm_7 S hK hI dX7_stampLow_102 ?_
                          refine lv_iload_n hx hb dX7_stampLow_105 rfl (lv_at hl 3 rfl) ?_
                          refine ln_1 (j := k) S hK hI (by omega) dX7_stampLow_106 ?_
                          refine lv_eqi (v := κ) (eκ) ?_
                          refine lv_lload_n hx hb dX7_stampLow_107 rfl (lv_at hl 0 rfl) ?_
                          refine lv_lconst (v := 1) hx hb dX7_stampLow_108 (by decide) ?_
                          refine lv_ladd hx hb dX7_stampLow_109 ?_
                          refine lv_topl (fun x243 e243 => ?_)
                          refine tw_calll (tw_rS (As := [.int κ, .long x243]) (rest := [.int (nI (3 * k + 2)), .ref (ad 1004)]) S hK hI kX7_114 (c_X7_kept l D ad _ _ _ _) ⟨Nat.le_of_ble_eq_true rfl, Nat.le_of_ble_eq_true rfl⟩ ⟨Nat.le_of_ble_eq_true rfl, Nat.le_of_ble_eq_true rfl⟩ rfl hl.1 rfl (Nat.le_of_ble_eq_true rfl) dX7_stampLow_110) hI (fun H locs hI => ?_)
                          refine lv_topl (fun x244 e244 => ?_)
                          refine sn_4 (j := 3 * k + 2) S hK hI (by omega) dX7_stampLow_113 (fun H locs hI => ?_)
                          refine lv_iinc (v := 3) (lv' := [(2, .int 3), (3, .long x241), (0, .ref (ad 1000)), (1, .int (nI k))]) hx hb dX7_stampLow_114 hl (k := 1) rfl (by decide) (by decide) rfl (fun ls hl => ?_)
                          refine lv_goto (tgt := 43) hx hb dX7_stampLow_117 (by decide) ?_
                          refine lv_iload_n hx hb dX7_stampLow_43 rfl (lv_at hl 0 rfl) ?_
                          refine lv_aload_n hx hb dX7_stampLow_44 rfl (lv_at hl 2 rfl) ?_
                          refine gm_13 S hK hI dX7_stampLow_45 ?_
                          refine lv_iload_n hx hb dX7_stampLow_48 rfl (lv_at hl 3 rfl) ?_
                          refine ln_2 (j := k) S hK hI (by omega) dX7_stampLow_49 ?_
                          refine lv_eqi (v := 3) (ez) ?_
                          refine lv_icmp_ge (tgt := 120) hx hb dX7_stampLow_50 (by decide) (fun c245 => ?_) (fun c245 => ?_)
                          · subst e244
                            subst e243
                            subst e241
                            subst e239
                            subst e237
                            subst e236
                            subst e234
                            subst e232
                            subst e230
                            subst e229
                            subst e227
                            subst e225
                            subst e223
                            subst e184
                            subst e182
                            unfold stampLowF
                            unfold addS
                            have es : szS σ k = 3 := by unfold szS; rw [ez]; rfl
                            rw [es]
                            rw [eκ]
                            try simp only [bumpN, bump1, bumpF, Nat.add_zero]
                            try rw [if_neg hN]
                            try rw [if_neg c183]
                            try rw [if_neg c185]
                            try rw [if_neg (show ¬ (3 : Int32) ≤ 0 from by decide)]
                            try rw [if_neg hN]
                            try rw [if_neg c228]
                            try rw [if_neg (show ¬ (3 : Int32) ≤ 1 from by decide)]
                            try rw [if_neg hN]
                            try rw [if_neg c228]
                            try rw [if_neg (show ¬ (3 : Int32) ≤ 2 from by decide)]
                            try rw [if_neg hN]
                            try rw [if_neg c228]
                            try rw [if_pos (show (3 : Int32) ≤ 3 from by decide)]
                            exact tw_vret S hr hlocks hI dX7_stampLow_120
                          · exact absurd c245 (by decide)
                        · exact absurd c242 c228
                  · exact absurd c235 c228
            · refine lv_lconst (v := 1) hx hb dX7_stampLow_95 (by decide) ?_
              refine lv_lload_n hx hb dX7_stampLow_96 rfl (lv_at hl 0 rfl) ?_
              refine lv_lsub hx hb dX7_stampLow_97 ?_
              refine lv_topl (fun x246 e246 => ?_)
              refine lv_goto (tgt := 113) hx hb dX7_stampLow_98 (by decide) ?_
              refine sn_4 (j := 3 * k) S hK hI (by omega) dX7_stampLow_113 (fun H locs hI => ?_)
              refine lv_iinc (v := 1) (lv' := [(2, .int 1), (3, .long x227), (0, .ref (ad 1000)), (1, .int (nI k))]) hx hb dX7_stampLow_114 hl (k := 1) rfl (by decide) (by decide) rfl (fun ls hl => ?_)
              refine lv_goto (tgt := 43) hx hb dX7_stampLow_117 (by decide) ?_
              refine lv_iload_n hx hb dX7_stampLow_43 rfl (lv_at hl 0 rfl) ?_
              refine lv_aload_n hx hb dX7_stampLow_44 rfl (lv_at hl 2 rfl) ?_
              refine gm_13 S hK hI dX7_stampLow_45 ?_
              refine lv_iload_n hx hb dX7_stampLow_48 rfl (lv_at hl 3 rfl) ?_
              refine ln_2 (j := k) S hK hI (by omega) dX7_stampLow_49 ?_
              refine lv_eqi (v := 3) (ez) ?_
              refine lv_icmp_ge (tgt := 120) hx hb dX7_stampLow_50 (by decide) (fun c247 => ?_) (fun c247 => ?_)
              · exact absurd c247 (by decide)
              · refine lv_aload_n hx hb dX7_stampLow_53 rfl (lv_at hl 2 rfl) ?_
                refine gm_7 S hK hI dX7_stampLow_54 ?_
                refine lv_iload_n hx hb dX7_stampLow_57 rfl (lv_at hl 3 rfl) ?_
                refine ln_1 (j := k) S hK hI (by omega) dX7_stampLow_58 ?_
                refine lv_eqi (v := κ) (eκ) ?_
                refine tw_calli (tw_rS (As := [.int κ]) (rest := []) S hK hI kX7_107 (c_X7_isOfNumbers l D ad _ _ _) ⟨Nat.le_of_ble_eq_true rfl, Nat.le_of_ble_eq_true rfl⟩ ⟨Nat.le_of_ble_eq_true rfl, Nat.le_of_ble_eq_true rfl⟩ rfl hl.1 rfl (Nat.le_of_ble_eq_true rfl) dX7_stampLow_59) hI (fun H locs hI => ?_)
                refine lv_topi (fun x248 e248 => ?_)
                refine lv_if_eq (tgt := 120) hx hb dX7_stampLow_62 (by decide) (fun c249 => ?_) (fun c249 => ?_)
                · exact (by subst e248; subst e246; subst e227; subst e225; subst e223; subst e184; subst e182; exact absurd c249 hN)
                · refine lv_aload_n hx hb dX7_stampLow_65 rfl (lv_at hl 2 rfl) ?_
                  refine gm_19 S hK hI dX7_stampLow_66 ?_
                  refine lv_iconst (v := 3) hx hb dX7_stampLow_69 (by decide) ?_
                  refine lv_iload_n hx hb dX7_stampLow_70 rfl (lv_at hl 3 rfl) ?_
                  refine lv_imul hx hb dX7_stampLow_71 ?_
                  refine lv_eqi (v := (nI (3 * k))) (nM (a := 3) (b := k) (c := 3 * k) (by omega)) ?_
                  refine lv_iload_n hx hb dX7_stampLow_72 rfl (lv_at hl 0 rfl) ?_
                  refine lv_iadd hx hb dX7_stampLow_73 ?_
                  refine lv_eqi (v := (nI (3 * k + 1))) (nA (a := 3 * k) (b := 1) (c := 3 * k + 1) (by omega)) ?_
                  refine ln_4 (j := 3 * k + 1) S hK hI (by omega) dX7_stampLow_74 ?_
                  refine lv_topl (fun x250 e250 => ?_)
                  refine lv_lstore_n (lv' := [(3, .long x250), (2, .int 1), (0, .ref (ad 1000)), (1, .int (nI k))]) hx hb dX7_stampLow_75 rfl hl (by decide) rfl (fun ls hl => ?_)
                  refine lv_aload_n hx hb dX7_stampLow_76 rfl (lv_at hl 2 rfl) ?_
                  refine gm_19 S hK hI dX7_stampLow_77 ?_
                  refine lv_iconst (v := 3) hx hb dX7_stampLow_80 (by decide) ?_
                  refine lv_iload_n hx hb dX7_stampLow_81 rfl (lv_at hl 3 rfl) ?_
                  refine lv_imul hx hb dX7_stampLow_82 ?_
                  refine lv_eqi (v := (nI (3 * k))) (nM (a := 3) (b := k) (c := 3 * k) (by omega)) ?_
                  refine lv_iload_n hx hb dX7_stampLow_83 rfl (lv_at hl 1 rfl) ?_
                  refine lv_iadd hx hb dX7_stampLow_84 ?_
                  refine lv_eqi (v := (nI (3 * k + 1))) (nA (a := 3 * k) (b := 1) (c := 3 * k + 1) (by omega)) ?_
                  refine lv_aload_n hx hb dX7_stampLow_85 rfl (lv_at hl 2 rfl) ?_
                  refine gm_7 S hK hI dX7_stampLow_86 ?_
                  refine lv_iload_n hx hb dX7_stampLow_89 rfl (lv_at hl 3 rfl) ?_
                  refine ln_1 (j := k) S hK hI (by omega) dX7_stampLow_90 ?_
                  refine lv_eqi (v := κ) (eκ) ?_
                  refine lv_iconst (v := 3) hx hb dX7_stampLow_91 (by decide) ?_
                  refine lv_icmp_ne (tgt := 101) hx hb dX7_stampLow_92 (by decide) (fun c251 => ?_) (fun c251 => ?_)
                  · exact absurd c228 c251
                  · refine lv_lconst (v := 1) hx hb dX7_stampLow_95 (by decide) ?_
                    refine lv_lload_n hx hb dX7_stampLow_96 rfl (lv_at hl 0 rfl) ?_
                    refine lv_lsub hx hb dX7_stampLow_97 ?_
                    refine lv_topl (fun x252 e252 => ?_)
                    refine lv_goto (tgt := 113) hx hb dX7_stampLow_98 (by decide) ?_
                    refine sn_4 (j := 3 * k + 1) S hK hI (by omega) dX7_stampLow_113 (fun H locs hI => ?_)
                    refine lv_iinc (v := 2) (lv' := [(2, .int 2), (3, .long x250), (0, .ref (ad 1000)), (1, .int (nI k))]) hx hb dX7_stampLow_114 hl (k := 1) rfl (by decide) (by decide) rfl (fun ls hl => ?_)
                    refine lv_goto (tgt := 43) hx hb dX7_stampLow_117 (by decide) ?_
                    refine lv_iload_n hx hb dX7_stampLow_43 rfl (lv_at hl 0 rfl) ?_
                    refine lv_aload_n hx hb dX7_stampLow_44 rfl (lv_at hl 2 rfl) ?_
                    refine gm_13 S hK hI dX7_stampLow_45 ?_
                    refine lv_iload_n hx hb dX7_stampLow_48 rfl (lv_at hl 3 rfl) ?_
                    refine ln_2 (j := k) S hK hI (by omega) dX7_stampLow_49 ?_
                    refine lv_eqi (v := 3) (ez) ?_
                    refine lv_icmp_ge (tgt := 120) hx hb dX7_stampLow_50 (by decide) (fun c253 => ?_) (fun c253 => ?_)
                    · exact absurd c253 (by decide)
                    · refine lv_aload_n hx hb dX7_stampLow_53 rfl (lv_at hl 2 rfl) ?_
                      refine gm_7 S hK hI dX7_stampLow_54 ?_
                      refine lv_iload_n hx hb dX7_stampLow_57 rfl (lv_at hl 3 rfl) ?_
                      refine ln_1 (j := k) S hK hI (by omega) dX7_stampLow_58 ?_
                      refine lv_eqi (v := κ) (eκ) ?_
                      refine tw_calli (tw_rS (As := [.int κ]) (rest := []) S hK hI kX7_107 (c_X7_isOfNumbers l D ad _ _ _) ⟨Nat.le_of_ble_eq_true rfl, Nat.le_of_ble_eq_true rfl⟩ ⟨Nat.le_of_ble_eq_true rfl, Nat.le_of_ble_eq_true rfl⟩ rfl hl.1 rfl (Nat.le_of_ble_eq_true rfl) dX7_stampLow_59) hI (fun H locs hI => ?_)
                      refine lv_topi (fun x254 e254 => ?_)
                      refine lv_if_eq (tgt := 120) hx hb dX7_stampLow_62 (by decide) (fun c255 => ?_) (fun c255 => ?_)
                      · exact (by subst e254; subst e252; subst e250; subst e248; subst e246; subst e227; subst e225; subst e223; subst e184; subst e182; exact absurd c255 hN)
                      · refine lv_aload_n hx hb dX7_stampLow_65 rfl (lv_at hl 2 rfl) ?_
                        refine gm_19 S hK hI dX7_stampLow_66 ?_
                        refine lv_iconst (v := 3) hx hb dX7_stampLow_69 (by decide) ?_
                        refine lv_iload_n hx hb dX7_stampLow_70 rfl (lv_at hl 3 rfl) ?_
                        refine lv_imul hx hb dX7_stampLow_71 ?_
                        refine lv_eqi (v := (nI (3 * k))) (nM (a := 3) (b := k) (c := 3 * k) (by omega)) ?_
                        refine lv_iload_n hx hb dX7_stampLow_72 rfl (lv_at hl 0 rfl) ?_
                        refine lv_iadd hx hb dX7_stampLow_73 ?_
                        refine lv_eqi (v := (nI (3 * k + 2))) (nA (a := 3 * k) (b := 2) (c := 3 * k + 2) (by omega)) ?_
                        refine ln_4 (j := 3 * k + 2) S hK hI (by omega) dX7_stampLow_74 ?_
                        refine lv_topl (fun x256 e256 => ?_)
                        refine lv_lstore_n (lv' := [(3, .long x256), (2, .int 2), (0, .ref (ad 1000)), (1, .int (nI k))]) hx hb dX7_stampLow_75 rfl hl (by decide) rfl (fun ls hl => ?_)
                        refine lv_aload_n hx hb dX7_stampLow_76 rfl (lv_at hl 2 rfl) ?_
                        refine gm_19 S hK hI dX7_stampLow_77 ?_
                        refine lv_iconst (v := 3) hx hb dX7_stampLow_80 (by decide) ?_
                        refine lv_iload_n hx hb dX7_stampLow_81 rfl (lv_at hl 3 rfl) ?_
                        refine lv_imul hx hb dX7_stampLow_82 ?_
                        refine lv_eqi (v := (nI (3 * k))) (nM (a := 3) (b := k) (c := 3 * k) (by omega)) ?_
                        refine lv_iload_n hx hb dX7_stampLow_83 rfl (lv_at hl 1 rfl) ?_
                        refine lv_iadd hx hb dX7_stampLow_84 ?_
                        refine lv_eqi (v := (nI (3 * k + 2))) (nA (a := 3 * k) (b := 2) (c := 3 * k + 2) (by omega)) ?_
                        refine lv_aload_n hx hb dX7_stampLow_85 rfl (lv_at hl 2 rfl) ?_
                        refine gm_7 S hK hI dX7_stampLow_86 ?_
                        refine lv_iload_n hx hb dX7_stampLow_89 rfl (lv_at hl 3 rfl) ?_
                        refine ln_1 (j := k) S hK hI (by omega) dX7_stampLow_90 ?_
                        refine lv_eqi (v := κ) (eκ) ?_
                        refine lv_iconst (v := 3) hx hb dX7_stampLow_91 (by decide) ?_
                        refine lv_icmp_ne (tgt := 101) hx hb dX7_stampLow_92 (by decide) (fun c257 => ?_) (fun c257 => ?_)
                        · exact absurd c228 c257
                        · refine lv_lconst (v := 1) hx hb dX7_stampLow_95 (by decide) ?_
                          refine lv_lload_n hx hb dX7_stampLow_96 rfl (lv_at hl 0 rfl) ?_
                          refine lv_lsub hx hb dX7_stampLow_97 ?_
                          refine lv_topl (fun x258 e258 => ?_)
                          refine lv_goto (tgt := 113) hx hb dX7_stampLow_98 (by decide) ?_
                          refine sn_4 (j := 3 * k + 2) S hK hI (by omega) dX7_stampLow_113 (fun H locs hI => ?_)
                          refine lv_iinc (v := 3) (lv' := [(2, .int 3), (3, .long x256), (0, .ref (ad 1000)), (1, .int (nI k))]) hx hb dX7_stampLow_114 hl (k := 1) rfl (by decide) (by decide) rfl (fun ls hl => ?_)
                          refine lv_goto (tgt := 43) hx hb dX7_stampLow_117 (by decide) ?_
                          refine lv_iload_n hx hb dX7_stampLow_43 rfl (lv_at hl 0 rfl) ?_
                          refine lv_aload_n hx hb dX7_stampLow_44 rfl (lv_at hl 2 rfl) ?_
                          refine gm_13 S hK hI dX7_stampLow_45 ?_
                          refine lv_iload_n hx hb dX7_stampLow_48 rfl (lv_at hl 3 rfl) ?_
                          refine ln_2 (j := k) S hK hI (by omega) dX7_stampLow_49 ?_
                          refine lv_eqi (v := 3) (ez) ?_
                          refine lv_icmp_ge (tgt := 120) hx hb dX7_stampLow_50 (by decide) (fun c259 => ?_) (fun c259 => ?_)
                          · subst e258
                            subst e256
                            subst e254
                            subst e252
                            subst e250
                            subst e248
                            subst e246
                            subst e227
                            subst e225
                            subst e223
                            subst e184
                            subst e182
                            unfold stampLowF
                            unfold addS
                            have es : szS σ k = 3 := by unfold szS; rw [ez]; rfl
                            rw [es]
                            rw [eκ]
                            try simp only [bumpN, bump1, bumpF, Nat.add_zero]
                            try rw [if_neg hN]
                            try rw [if_neg c183]
                            try rw [if_neg c185]
                            try rw [if_neg (show ¬ (3 : Int32) ≤ 0 from by decide)]
                            try rw [if_neg hN]
                            try rw [if_pos c228]
                            try rw [if_neg (show ¬ (3 : Int32) ≤ 1 from by decide)]
                            try rw [if_neg hN]
                            try rw [if_pos c228]
                            try rw [if_neg (show ¬ (3 : Int32) ≤ 2 from by decide)]
                            try rw [if_neg hN]
                            try rw [if_pos c228]
                            try rw [if_pos (show (3 : Int32) ≤ 3 from by decide)]
                            exact tw_vret S hr hlocks hI dX7_stampLow_120
                          · exact absurd c259 (by decide)
    · refine lv_iconst (v := 2) hx hb dX7_stampLow_18 (by decide) ?_
      refine lv_goto (tgt := 39) hx hb dX7_stampLow_19 (by decide) ?_
      refine lv_iadd hx hb dX7_stampLow_39 ?_
      refine lv_topi (fun x260 e260 => ?_)
      refine sn_3 (j := k) S hK hI (by omega) dX7_stampLow_40 (fun H locs hI => ?_)
      refine lv_iconst (v := 0) hx hb dX7_stampLow_41 (by decide) ?_
      refine lv_istore_n (lv' := [(2, .int 0), (0, .ref (ad 1000)), (1, .int (nI k))]) hx hb dX7_stampLow_42 rfl hl (by decide) rfl (fun ls hl => ?_)
      refine lv_iload_n hx hb dX7_stampLow_43 rfl (lv_at hl 0 rfl) ?_
      refine lv_aload_n hx hb dX7_stampLow_44 rfl (lv_at hl 1 rfl) ?_
      refine gm_13 S hK hI dX7_stampLow_45 ?_
      refine lv_iload_n hx hb dX7_stampLow_48 rfl (lv_at hl 2 rfl) ?_
      refine ln_2 (j := k) S hK hI (by omega) dX7_stampLow_49 ?_
      refine lv_eqi (v := 3) (ez) ?_
      refine lv_icmp_ge (tgt := 120) hx hb dX7_stampLow_50 (by decide) (fun c261 => ?_) (fun c261 => ?_)
      · exact absurd c261 (by decide)
      · refine lv_aload_n hx hb dX7_stampLow_53 rfl (lv_at hl 1 rfl) ?_
        refine gm_7 S hK hI dX7_stampLow_54 ?_
        refine lv_iload_n hx hb dX7_stampLow_57 rfl (lv_at hl 2 rfl) ?_
        refine ln_1 (j := k) S hK hI (by omega) dX7_stampLow_58 ?_
        refine lv_eqi (v := κ) (eκ) ?_
        refine tw_calli (tw_rS (As := [.int κ]) (rest := []) S hK hI kX7_107 (c_X7_isOfNumbers l D ad _ _ _) ⟨Nat.le_of_ble_eq_true rfl, Nat.le_of_ble_eq_true rfl⟩ ⟨Nat.le_of_ble_eq_true rfl, Nat.le_of_ble_eq_true rfl⟩ rfl hl.1 rfl (Nat.le_of_ble_eq_true rfl) dX7_stampLow_59) hI (fun H locs hI => ?_)
        refine lv_topi (fun x262 e262 => ?_)
        refine lv_if_eq (tgt := 120) hx hb dX7_stampLow_62 (by decide) (fun c263 => ?_) (fun c263 => ?_)
        · exact (by subst e262; subst e260; subst e182; exact absurd c263 hN)
        · refine lv_aload_n hx hb dX7_stampLow_65 rfl (lv_at hl 1 rfl) ?_
          refine gm_19 S hK hI dX7_stampLow_66 ?_
          refine lv_iconst (v := 3) hx hb dX7_stampLow_69 (by decide) ?_
          refine lv_iload_n hx hb dX7_stampLow_70 rfl (lv_at hl 2 rfl) ?_
          refine lv_imul hx hb dX7_stampLow_71 ?_
          refine lv_eqi (v := (nI (3 * k))) (nM (a := 3) (b := k) (c := 3 * k) (by omega)) ?_
          refine lv_iload_n hx hb dX7_stampLow_72 rfl (lv_at hl 0 rfl) ?_
          refine lv_iadd hx hb dX7_stampLow_73 ?_
          refine lv_eqi (v := (nI (3 * k))) (nA (a := 3 * k) (b := 0) (c := 3 * k) (by omega)) ?_
          refine ln_4 (j := 3 * k) S hK hI (by omega) dX7_stampLow_74 ?_
          refine lv_topl (fun x264 e264 => ?_)
          refine lv_lstore_n (lv' := [(3, .long x264), (2, .int 0), (0, .ref (ad 1000)), (1, .int (nI k))]) hx hb dX7_stampLow_75 rfl hl (by decide) rfl (fun ls hl => ?_)
          refine lv_aload_n hx hb dX7_stampLow_76 rfl (lv_at hl 2 rfl) ?_
          refine gm_19 S hK hI dX7_stampLow_77 ?_
          refine lv_iconst (v := 3) hx hb dX7_stampLow_80 (by decide) ?_
          refine lv_iload_n hx hb dX7_stampLow_81 rfl (lv_at hl 3 rfl) ?_
          refine lv_imul hx hb dX7_stampLow_82 ?_
          refine lv_eqi (v := (nI (3 * k))) (nM (a := 3) (b := k) (c := 3 * k) (by omega)) ?_
          refine lv_iload_n hx hb dX7_stampLow_83 rfl (lv_at hl 1 rfl) ?_
          refine lv_iadd hx hb dX7_stampLow_84 ?_
          refine lv_eqi (v := (nI (3 * k))) (nA (a := 3 * k) (b := 0) (c := 3 * k) (by omega)) ?_
          refine lv_aload_n hx hb dX7_stampLow_85 rfl (lv_at hl 2 rfl) ?_
          refine gm_7 S hK hI dX7_stampLow_86 ?_
          refine lv_iload_n hx hb dX7_stampLow_89 rfl (lv_at hl 3 rfl) ?_
          refine ln_1 (j := k) S hK hI (by omega) dX7_stampLow_90 ?_
          refine lv_eqi (v := κ) (eκ) ?_
          refine lv_iconst (v := 3) hx hb dX7_stampLow_91 (by decide) ?_
          refine lv_icmp_ne (tgt := 101) hx hb dX7_stampLow_92 (by decide) (fun c265 => ?_) (fun c265 => ?_)
          · refine lv_aload_n hx hb dX7_stampLow_101 rfl (lv_at hl 2 rfl) ?_
            refine gm_7 S hK hI dX7_stampLow_102 ?_
            refine lv_iload_n hx hb dX7_stampLow_105 rfl (lv_at hl 3 rfl) ?_
            refine ln_1 (j := k) S hK hI (by omega) dX7_stampLow_106 ?_
            refine lv_eqi (v := κ) (eκ) ?_
            refine lv_lload_n hx hb dX7_stampLow_107 rfl (lv_at hl 0 rfl) ?_
            refine lv_lconst (v := 1) hx hb dX7_stampLow_108 (by decide) ?_
            refine lv_ladd hx hb dX7_stampLow_109 ?_
            refine lv_topl (fun x266 e266 => ?_)
            refine tw_calll (tw_rS (As := [.int κ, .long x266]) (rest := [.int (nI (3 * k)), .ref (ad 1004)]) S hK hI kX7_114 (c_X7_kept l D ad _ _ _ _) ⟨Nat.le_of_ble_eq_true rfl, Nat.le_of_ble_eq_true rfl⟩ ⟨Nat.le_of_ble_eq_true rfl, Nat.le_of_ble_eq_true rfl⟩ rfl hl.1 rfl (Nat.le_of_ble_eq_true rfl) dX7_stampLow_110) hI (fun H locs hI => ?_)
            refine lv_topl (fun x267 e267 => ?_)
            refine sn_4 (j := 3 * k) S hK hI (by omega) dX7_stampLow_113 (fun H locs hI => ?_)
            refine lv_iinc (v := 1) (lv' := [(2, .int 1), (3, .long x264), (0, .ref (ad 1000)), (1, .int (nI k))]) hx hb dX7_stampLow_114 hl (k := 1) rfl (by decide) (by decide) rfl (fun ls hl => ?_)
            refine lv_goto (tgt := 43) hx hb dX7_stampLow_117 (by decide) ?_
            refine lv_iload_n hx hb dX7_stampLow_43 rfl (lv_at hl 0 rfl) ?_
            refine lv_aload_n hx hb dX7_stampLow_44 rfl (lv_at hl 2 rfl) ?_
            refine gm_13 S hK hI dX7_stampLow_45 ?_
            refine lv_iload_n hx hb dX7_stampLow_48 rfl (lv_at hl 3 rfl) ?_
            refine ln_2 (j := k) S hK hI (by omega) dX7_stampLow_49 ?_
            refine lv_eqi (v := 3) (ez) ?_
            refine lv_icmp_ge (tgt := 120) hx hb dX7_stampLow_50 (by decide) (fun c268 => ?_) (fun c268 => ?_)
            · exact absurd c268 (by decide)
            · refine lv_aload_n hx hb dX7_stampLow_53 rfl (lv_at hl 2 rfl) ?_
              refine gm_7 S hK hI dX7_stampLow_54 ?_
              refine lv_iload_n hx hb dX7_stampLow_57 rfl (lv_at hl 3 rfl) ?_
              refine ln_1 (j := k) S hK hI (by omega) dX7_stampLow_58 ?_
              refine lv_eqi (v := κ) (eκ) ?_
              refine tw_calli (tw_rS (As := [.int κ]) (rest := []) S hK hI kX7_107 (c_X7_isOfNumbers l D ad _ _ _) ⟨Nat.le_of_ble_eq_true rfl, Nat.le_of_ble_eq_true rfl⟩ ⟨Nat.le_of_ble_eq_true rfl, Nat.le_of_ble_eq_true rfl⟩ rfl hl.1 rfl (Nat.le_of_ble_eq_true rfl) dX7_stampLow_59) hI (fun H locs hI => ?_)
              refine lv_topi (fun x269 e269 => ?_)
              refine lv_if_eq (tgt := 120) hx hb dX7_stampLow_62 (by decide) (fun c270 => ?_) (fun c270 => ?_)
              · exact (by subst e269; subst e267; subst e266; subst e264; subst e262; subst e260; subst e182; exact absurd c270 hN)
              · refine lv_aload_n hx hb dX7_stampLow_65 rfl (lv_at hl 2 rfl) ?_
                refine gm_19 S hK hI dX7_stampLow_66 ?_
                refine lv_iconst (v := 3) hx hb dX7_stampLow_69 (by decide) ?_
                refine lv_iload_n hx hb dX7_stampLow_70 rfl (lv_at hl 3 rfl) ?_
                refine lv_imul hx hb dX7_stampLow_71 ?_
                refine lv_eqi (v := (nI (3 * k))) (nM (a := 3) (b := k) (c := 3 * k) (by omega)) ?_
                refine lv_iload_n hx hb dX7_stampLow_72 rfl (lv_at hl 0 rfl) ?_
                refine lv_iadd hx hb dX7_stampLow_73 ?_
                refine lv_eqi (v := (nI (3 * k + 1))) (nA (a := 3 * k) (b := 1) (c := 3 * k + 1) (by omega)) ?_
                refine ln_4 (j := 3 * k + 1) S hK hI (by omega) dX7_stampLow_74 ?_
                refine lv_topl (fun x271 e271 => ?_)
                refine lv_lstore_n (lv' := [(3, .long x271), (2, .int 1), (0, .ref (ad 1000)), (1, .int (nI k))]) hx hb dX7_stampLow_75 rfl hl (by decide) rfl (fun ls hl => ?_)
                refine lv_aload_n hx hb dX7_stampLow_76 rfl (lv_at hl 2 rfl) ?_
                refine gm_19 S hK hI dX7_stampLow_77 ?_
                refine lv_iconst (v := 3) hx hb dX7_stampLow_80 (by decide) ?_
                refine lv_iload_n hx hb dX7_stampLow_81 rfl (lv_at hl 3 rfl) ?_
                refine lv_imul hx hb dX7_stampLow_82 ?_
                refine lv_eqi (v := (nI (3 * k))) (nM (a := 3) (b := k) (c := 3 * k) (by omega)) ?_
                refine lv_iload_n hx hb dX7_stampLow_83 rfl (lv_at hl 1 rfl) ?_
                refine lv_iadd hx hb dX7_stampLow_84 ?_
                refine lv_eqi (v := (nI (3 * k + 1))) (nA (a := 3 * k) (b := 1) (c := 3 * k + 1) (by omega)) ?_
                refine lv_aload_n hx hb dX7_stampLow_85 rfl (lv_at hl 2 rfl) ?_
                refine gm_7 S hK hI dX7_stampLow_86 ?_
                refine lv_iload_n hx hb dX7_stampLow_89 rfl (lv_at hl 3 rfl) ?_
                refine ln_1 (j := k) S hK hI (by omega) dX7_stampLow_90 ?_
                refine lv_eqi (v := κ) (eκ) ?_
                refine lv_iconst (v := 3) hx hb dX7_stampLow_91 (by decide) ?_
                refine lv_icmp_ne (tgt := 101) hx hb dX7_stampLow_92 (by decide) (fun c272 => ?_) (fun c272 => ?_)
                · refine lv_aload_n hx hb dX7_stampLow_101 rfl (lv_at hl 2 rfl) ?_
                  refine gm_7 S hK hI dX7_stampLow_102 ?_
                  refine lv_iload_n hx hb dX7_stampLow_105 rfl (lv_at hl 3 rfl) ?_
                  refine ln_1 (j := k) S hK hI (by omega) dX7_stampLow_106 ?_
                  refine lv_eqi (v := κ) (eκ) ?_
                  refine lv_lload_n hx hb dX7_stampLow_107 rfl (lv_at hl 0 rfl) ?_
                  refine lv_lconst (v := 1) hx hb dX7_stampLow_108 (by decide) ?_
                  refine lv_ladd hx hb dX7_stampLow_109 ?_
                  refine lv_topl (fun x273 e273 => ?_)
                  refine tw_calll (tw_rS (As := [.int κ, .long x273]) (rest := [.int (nI (3 * k + 1)), .ref (ad 1004)]) S hK hI kX7_114 (c_X7_kept l D ad _ _ _ _) ⟨Nat.le_of_ble_eq_true rfl, Nat.le_of_ble_eq_true rfl⟩ ⟨Nat.le_of_ble_eq_true rfl, Nat.le_of_ble_eq_true rfl⟩ rfl hl.1 rfl (Nat.le_of_ble_eq_true rfl) dX7_stampLow_110) hI (fun H locs hI => ?_)
                  refine lv_topl (fun x274 e274 => ?_)
                  refine sn_4 (j := 3 * k + 1) S hK hI (by omega) dX7_stampLow_113 (fun H locs hI => ?_)
                  refine lv_iinc (v := 2) (lv' := [(2, .int 2), (3, .long x271), (0, .ref (ad 1000)), (1, .int (nI k))]) hx hb dX7_stampLow_114 hl (k := 1) rfl (by decide) (by decide) rfl (fun ls hl => ?_)
                  refine lv_goto (tgt := 43) hx hb dX7_stampLow_117 (by decide) ?_
                  refine lv_iload_n hx hb dX7_stampLow_43 rfl (lv_at hl 0 rfl) ?_
                  refine lv_aload_n hx hb dX7_stampLow_44 rfl (lv_at hl 2 rfl) ?_
                  refine gm_13 S hK hI dX7_stampLow_45 ?_
                  refine lv_iload_n hx hb dX7_stampLow_48 rfl (lv_at hl 3 rfl) ?_
                  refine ln_2 (j := k) S hK hI (by omega) dX7_stampLow_49 ?_
                  refine lv_eqi (v := 3) (ez) ?_
                  refine lv_icmp_ge (tgt := 120) hx hb dX7_stampLow_50 (by decide) (fun c275 => ?_) (fun c275 => ?_)
                  · exact absurd c275 (by decide)
                  · refine lv_aload_n hx hb dX7_stampLow_53 rfl (lv_at hl 2 rfl) ?_
                    refine gm_7 S hK hI dX7_stampLow_54 ?_
                    refine lv_iload_n hx hb dX7_stampLow_57 rfl (lv_at hl 3 rfl) ?_
                    refine ln_1 (j := k) S hK hI (by omega) dX7_stampLow_58 ?_
                    refine lv_eqi (v := κ) (eκ) ?_
                    refine tw_calli (tw_rS (As := [.int κ]) (rest := []) S hK hI kX7_107 (c_X7_isOfNumbers l D ad _ _ _) ⟨Nat.le_of_ble_eq_true rfl, Nat.le_of_ble_eq_true rfl⟩ ⟨Nat.le_of_ble_eq_true rfl, Nat.le_of_ble_eq_true rfl⟩ rfl hl.1 rfl (Nat.le_of_ble_eq_true rfl) dX7_stampLow_59) hI (fun H locs hI => ?_)
                    refine lv_topi (fun x276 e276 => ?_)
                    refine lv_if_eq (tgt := 120) hx hb dX7_stampLow_62 (by decide) (fun c277 => ?_) (fun c277 => ?_)
                    · exact (by subst e276; subst e274; subst e273; subst e271; subst e269; subst e267; subst e266; subst e264; subst e262; subst e260; subst e182; exact absurd c277 hN)
                    · refine lv_aload_n hx hb dX7_stampLow_65 rfl (lv_at hl 2 rfl) ?_
                      refine gm_19 S hK hI dX7_stampLow_66 ?_
                      refine lv_iconst (v := 3) hx hb dX7_stampLow_69 (by decide) ?_
                      refine lv_iload_n hx hb dX7_stampLow_70 rfl (lv_at hl 3 rfl) ?_
                      refine lv_imul hx hb dX7_stampLow_71 ?_
                      refine lv_eqi (v := (nI (3 * k))) (nM (a := 3) (b := k) (c := 3 * k) (by omega)) ?_
                      refine lv_iload_n hx hb dX7_stampLow_72 rfl (lv_at hl 0 rfl) ?_
                      refine lv_iadd hx hb dX7_stampLow_73 ?_
                      refine lv_eqi (v := (nI (3 * k + 2))) (nA (a := 3 * k) (b := 2) (c := 3 * k + 2) (by omega)) ?_
                      refine ln_4 (j := 3 * k + 2) S hK hI (by omega) dX7_stampLow_74 ?_
                      refine lv_topl (fun x278 e278 => ?_)
                      refine lv_lstore_n (lv' := [(3, .long x278), (2, .int 2), (0, .ref (ad 1000)), (1, .int (nI k))]) hx hb dX7_stampLow_75 rfl hl (by decide) rfl (fun ls hl => ?_)
                      refine lv_aload_n hx hb dX7_stampLow_76 rfl (lv_at hl 2 rfl) ?_
                      refine gm_19 S hK hI dX7_stampLow_77 ?_
                      refine lv_iconst (v := 3) hx hb dX7_stampLow_80 (by decide) ?_
                      refine lv_iload_n hx hb dX7_stampLow_81 rfl (lv_at hl 3 rfl) ?_
                      refine lv_imul hx hb dX7_stampLow_82 ?_
                      refine lv_eqi (v := (nI (3 * k))) (nM (a := 3) (b := k) (c := 3 * k) (by omega)) ?_
                      refine lv_iload_n hx hb dX7_stampLow_83 rfl (lv_at hl 1 rfl) ?_
                      refine lv_iadd hx hb dX7_stampLow_84 ?_
                      refine lv_eqi (v := (nI (3 * k + 2))) (nA (a := 3 * k) (b := 2) (c := 3 * k + 2) (by omega)) ?_
                      refine lv_aload_n hx hb dX7_stampLow_85 rfl (lv_at hl 2 rfl) ?_
                      refine gm_7 S hK hI dX7_stampLow_86 ?_
                      refine lv_iload_n hx hb dX7_stampLow_89 rfl (lv_at hl 3 rfl) ?_
                      refine ln_1 (j := k) S hK hI (by omega) dX7_stampLow_90 ?_
                      refine lv_eqi (v := κ) (eκ) ?_
                      refine lv_iconst (v := 3) hx hb dX7_stampLow_91 (by decide) ?_
                      refine lv_icmp_ne (tgt := 101) hx hb dX7_stampLow_92 (by decide) (fun c279 => ?_) (fun c279 => ?_)
                      · refine lv_aload_n hx hb dX7_stampLow_101 rfl (lv_at hl 2 rfl) ?_
                        refine gm_7 S hK hI dX7_stampLow_102 ?_
                        refine lv_iload_n hx hb dX7_stampLow_105 rfl (lv_at hl 3 rfl) ?_
                        refine ln_1 (j := k) S hK hI (by omega) dX7_stampLow_106 ?_
                        refine lv_eqi (v := κ) (eκ) ?_
                        refine lv_lload_n hx hb dX7_stampLow_107 rfl (lv_at hl 0 rfl) ?_
                        refine lv_lconst (v := 1) hx hb dX7_stampLow_108 (by decide) ?_
                        refine lv_ladd hx hb dX7_stampLow_109 ?_
                        refine lv_topl (fun x280 e280 => ?_)
                        refine tw_calll (tw_rS (As := [.int κ, .long x280]) (rest := [.int (nI (3 * k + 2)), .ref (ad 1004)]) S hK hI kX7_114 (c_X7_kept l D ad _ _ _ _) ⟨Nat.le_of_ble_eq_true rfl, Nat.le_of_ble_eq_true rfl⟩ ⟨Nat.le_of_ble_eq_true rfl, Nat.le_of_ble_eq_true rfl⟩ rfl hl.1 rfl (Nat.le_of_ble_eq_true rfl) dX7_stampLow_110) hI (fun H locs hI => ?_)
                        refine lv_topl (fun x281 e281 => ?_)
                        refine sn_4 (j := 3 * k + 2) S hK hI (by omega) dX7_stampLow_113 (fun H locs hI => ?_)
                        refine lv_iinc (v := 3) (lv' := [(2, .int 3), (3, .long x278), (0, .ref (ad 1000)), (1, .int (nI k))]) hx hb dX7_stampLow_114 hl (k := 1) rfl (by decide) (by decide) rfl (fun ls hl => ?_)
                        refine lv_goto (tgt := 43) hx hb dX7_stampLow_117 (by decide) ?_
                        refine lv_iload_n hx hb dX7_stampLow_43 rfl (lv_at hl 0 rfl) ?_
                        refine lv_aload_n hx hb dX7_stampLow_44 rfl (lv_at hl 2 rfl) ?_
                        refine gm_13 S hK hI dX7_stampLow_45 ?_
                        refine lv_iload_n hx hb dX7_stampLow_48 rfl (lv_at hl 3 rfl) ?_
                        refine ln_2 (j := k) S hK hI (by omega) dX7_stampLow_49 ?_
                        refine lv_eqi (v := 3) (ez) ?_
                        refine lv_icmp_ge (tgt := 120) hx hb dX7_stampLow_50 (by decide) (fun c282 => ?_) (fun c282 => ?_)
                        · subst e281
                          subst e280
                          subst e278
                          subst e276
                          subst e274
                          subst e273
                          subst e271
                          subst e269
                          subst e267
                          subst e266
                          subst e264
                          subst e262
                          subst e260
                          subst e182
                          unfold stampLowF
                          unfold addS
                          have es : szS σ k = 3 := by unfold szS; rw [ez]; rfl
                          rw [es]
                          rw [eκ]
                          try simp only [bumpN, bump1, bumpF, Nat.add_zero]
                          try rw [if_neg hN]
                          try rw [if_pos c183]
                          try rw [if_neg (show ¬ (3 : Int32) ≤ 0 from by decide)]
                          try rw [if_neg hN]
                          try rw [if_neg c265]
                          try rw [if_neg (show ¬ (3 : Int32) ≤ 1 from by decide)]
                          try rw [if_neg hN]
                          try rw [if_neg c265]
                          try rw [if_neg (show ¬ (3 : Int32) ≤ 2 from by decide)]
                          try rw [if_neg hN]
                          try rw [if_neg c265]
                          try rw [if_pos (show (3 : Int32) ≤ 3 from by decide)]
                          exact tw_vret S hr hlocks hI dX7_stampLow_120
                        · exact absurd c282 (by decide)
                      · exact absurd c279 c265
                · exact absurd c272 c265
          · refine lv_lconst (v := 1) hx hb dX7_stampLow_95 (by decide) ?_
            refine lv_lload_n hx hb dX7_stampLow_96 rfl (lv_at hl 0 rfl) ?_
            refine lv_lsub hx hb dX7_stampLow_97 ?_
            refine lv_topl (fun x283 e283 => ?_)
            refine lv_goto (tgt := 113) hx hb dX7_stampLow_98 (by decide) ?_
            refine sn_4 (j := 3 * k) S hK hI (by omega) dX7_stampLow_113 (fun H locs hI => ?_)
            refine lv_iinc (v := 1) (lv' := [(2, .int 1), (3, .long x264), (0, .ref (ad 1000)), (1, .int (nI k))]) hx hb dX7_stampLow_114 hl (k := 1) rfl (by decide) (by decide) rfl (fun ls hl => ?_)
            refine lv_goto (tgt := 43) hx hb dX7_stampLow_117 (by decide) ?_
            refine lv_iload_n hx hb dX7_stampLow_43 rfl (lv_at hl 0 rfl) ?_
            refine lv_aload_n hx hb dX7_stampLow_44 rfl (lv_at hl 2 rfl) ?_
            refine gm_13 S hK hI dX7_stampLow_45 ?_
            refine lv_iload_n hx hb dX7_stampLow_48 rfl (lv_at hl 3 rfl) ?_
            refine ln_2 (j := k) S hK hI (by omega) dX7_stampLow_49 ?_
            refine lv_eqi (v := 3) (ez) ?_
            refine lv_icmp_ge (tgt := 120) hx hb dX7_stampLow_50 (by decide) (fun c284 => ?_) (fun c284 => ?_)
            · exact absurd c284 (by decide)
            · refine lv_aload_n hx hb dX7_stampLow_53 rfl (lv_at hl 2 rfl) ?_
              refine gm_7 S hK hI dX7_stampLow_54 ?_
              refine lv_iload_n hx hb dX7_stampLow_57 rfl (lv_at hl 3 rfl) ?_
              refine ln_1 (j := k) S hK hI (by omega) dX7_stampLow_58 ?_
              refine lv_eqi (v := κ) (eκ) ?_
              refine tw_calli (tw_rS (As := [.int κ]) (rest := []) S hK hI kX7_107 (c_X7_isOfNumbers l D ad _ _ _) ⟨Nat.le_of_ble_eq_true rfl, Nat.le_of_ble_eq_true rfl⟩ ⟨Nat.le_of_ble_eq_true rfl, Nat.le_of_ble_eq_true rfl⟩ rfl hl.1 rfl (Nat.le_of_ble_eq_true rfl) dX7_stampLow_59) hI (fun H locs hI => ?_)
              refine lv_topi (fun x285 e285 => ?_)
              refine lv_if_eq (tgt := 120) hx hb dX7_stampLow_62 (by decide) (fun c286 => ?_) (fun c286 => ?_)
              · exact (by subst e285; subst e283; subst e264; subst e262; subst e260; subst e182; exact absurd c286 hN)
              · refine lv_aload_n hx hb dX7_stampLow_65 rfl (lv_at hl 2 rfl) ?_
                refine gm_19 S hK hI dX7_stampLow_66 ?_
                refine lv_iconst (v := 3) hx hb dX7_stampLow_69 (by decide) ?_
                refine lv_iload_n hx hb dX7_stampLow_70 rfl (lv_at hl 3 rfl) ?_
                refine lv_imul hx hb dX7_stampLow_71 ?_
                refine lv_eqi (v := (nI (3 * k))) (nM (a := 3) (b := k) (c := 3 * k) (by omega)) ?_
                refine lv_iload_n hx hb dX7_stampLow_72 rfl (lv_at hl 0 rfl) ?_
                refine lv_iadd hx hb dX7_stampLow_73 ?_
                refine lv_eqi (v := (nI (3 * k + 1))) (nA (a := 3 * k) (b := 1) (c := 3 * k + 1) (by omega)) ?_
                refine ln_4 (j := 3 * k + 1) S hK hI (by omega) dX7_stampLow_74 ?_
                refine lv_topl (fun x287 e287 => ?_)
                refine lv_lstore_n (lv' := [(3, .long x287), (2, .int 1), (0, .ref (ad 1000)), (1, .int (nI k))]) hx hb dX7_stampLow_75 rfl hl (by decide) rfl (fun ls hl => ?_)
                refine lv_aload_n hx hb dX7_stampLow_76 rfl (lv_at hl 2 rfl) ?_
                refine gm_19 S hK hI dX7_stampLow_77 ?_
                refine lv_iconst (v := 3) hx hb dX7_stampLow_80 (by decide) ?_
                refine lv_iload_n hx hb dX7_stampLow_81 rfl (lv_at hl 3 rfl) ?_
                refine lv_imul hx hb dX7_stampLow_82 ?_
                refine lv_eqi (v := (nI (3 * k))) (nM (a := 3) (b := k) (c := 3 * k) (by omega)) ?_
                refine lv_iload_n hx hb dX7_stampLow_83 rfl (lv_at hl 1 rfl) ?_
                refine lv_iadd hx hb dX7_stampLow_84 ?_
                refine lv_eqi (v := (nI (3 * k + 1))) (nA (a := 3 * k) (b := 1) (c := 3 * k + 1) (by omega)) ?_
                refine lv_aload_n hx hb dX7_stampLow_85 rfl (lv_at hl 2 rfl) ?_
                refine gm_7 S hK hI dX7_stampLow_86 ?_
                refine lv_iload_n hx hb dX7_stampLow_89 rfl (lv_at hl 3 rfl) ?_
                refine ln_1 (j := k) S hK hI (by omega) dX7_stampLow_90 ?_
                refine lv_eqi (v := κ) (eκ) ?_
                refine lv_iconst (v := 3) hx hb dX7_stampLow_91 (by decide) ?_
                refine lv_icmp_ne (tgt := 101) hx hb dX7_stampLow_92 (by decide) (fun c288 => ?_) (fun c288 => ?_)
                · exact absurd c265 c288
                · refine lv_lconst (v := 1) hx hb dX7_stampLow_95 (by decide) ?_
                  refine lv_lload_n hx hb dX7_stampLow_96 rfl (lv_at hl 0 rfl) ?_
                  refine lv_lsub hx hb dX7_stampLow_97 ?_
                  refine lv_topl (fun x289 e289 => ?_)
                  refine lv_goto (tgt := 113) hx hb dX7_stampLow_98 (by decide) ?_
                  refine sn_4 (j := 3 * k + 1) S hK hI (by omega) dX7_stampLow_113 (fun H locs hI => ?_)
                  refine lv_iinc (v := 2) (lv' := [(2, .int 2), (3, .long x287), (0, .ref (ad 1000)), (1, .int (nI k))]) hx hb dX7_stampLow_114 hl (k := 1) rfl (by decide) (by decide) rfl (fun ls hl => ?_)
                  refine lv_goto (tgt := 43) hx hb dX7_stampLow_117 (by decide) ?_
                  refine lv_iload_n hx hb dX7_stampLow_43 rfl (lv_at hl 0 rfl) ?_
                  refine lv_aload_n hx hb dX7_stampLow_44 rfl (lv_at hl 2 rfl) ?_
                  refine gm_13 S hK hI dX7_stampLow_45 ?_
                  refine lv_iload_n hx hb dX7_stampLow_48 rfl (lv_at hl 3 rfl) ?_
                  refine ln_2 (j := k) S hK hI (by omega) dX7_stampLow_49 ?_
                  refine lv_eqi (v := 3) (ez) ?_
                  refine lv_icmp_ge (tgt := 120) hx hb dX7_stampLow_50 (by decide) (fun c290 => ?_) (fun c290 => ?_)
                  · exact absurd c290 (by decide)
                  · refine lv_aload_n hx hb dX7_stampLow_53 rfl (lv_at hl 2 rfl) ?_
                    refine gm_7 S hK hI dX7_stampLow_54 ?_
                    refine lv_iload_n hx hb dX7_stampLow_57 rfl (lv_at hl 3 rfl) ?_
                    refine ln_1 (j := k) S hK hI (by omega) dX7_stampLow_58 ?_
                    refine lv_eqi (v := κ) (eκ) ?_
                    refine tw_calli (tw_rS (As := [.int κ]) (rest := []) S hK hI kX7_107 (c_X7_isOfNumbers l D ad _ _ _) ⟨Nat.le_of_ble_eq_true rfl, Nat.le_of_ble_eq_true rfl⟩ ⟨Nat.le_of_ble_eq_true rfl, Nat.le_of_ble_eq_true rfl⟩ rfl hl.1 rfl (Nat.le_of_ble_eq_true rfl) dX7_stampLow_59) hI (fun H locs hI => ?_)
                    refine lv_topi (fun x291 e291 => ?_)
                    refine lv_if_eq (tgt := 120) hx hb dX7_stampLow_62 (by decide) (fun c292 => ?_) (fun c292 => ?_)
                    · exact (by subst e291; subst e289; subst e287; subst e285; subst e283; subst e264; subst e262; subst e260; subst e182; exact absurd c292 hN)
                    · refine lv_aload_n hx hb dX7_stampLow_65 rfl (lv_at hl 2 rfl) ?_
                      refine gm_19 S hK hI dX7_stampLow_66 ?_
                      refine lv_iconst (v := 3) hx hb dX7_stampLow_69 (by decide) ?_
                      refine lv_iload_n hx hb dX7_stampLow_70 rfl (lv_at hl 3 rfl) ?_
                      refine lv_imul hx hb dX7_stampLow_71 ?_
                      refine lv_eqi (v := (nI (3 * k))) (nM (a := 3) (b := k) (c := 3 * k) (by omega)) ?_
                      refine lv_iload_n hx hb dX7_stampLow_72 rfl (lv_at hl 0 rfl) ?_
                      refine lv_iadd hx hb dX7_stampLow_73 ?_
                      refine lv_eqi (v := (nI (3 * k + 2))) (nA (a := 3 * k) (b := 2) (c := 3 * k + 2) (by omega)) ?_
                      refine ln_4 (j := 3 * k + 2) S hK hI (by omega) dX7_stampLow_74 ?_
                      refine lv_topl (fun x293 e293 => ?_)
                      refine lv_lstore_n (lv' := [(3, .long x293), (2, .int 2), (0, .ref (ad 1000)), (1, .int (nI k))]) hx hb dX7_stampLow_75 rfl hl (by decide) rfl (fun ls hl => ?_)
                      refine lv_aload_n hx hb dX7_stampLow_76 rfl (lv_at hl 2 rfl) ?_
                      refine gm_19 S hK hI dX7_stampLow_77 ?_
                      refine lv_iconst (v := 3) hx hb dX7_stampLow_80 (by decide) ?_
                      refine lv_iload_n hx hb dX7_stampLow_81 rfl (lv_at hl 3 rfl) ?_
                      refine lv_imul hx hb dX7_stampLow_82 ?_
                      refine lv_eqi (v := (nI (3 * k))) (nM (a := 3) (b := k) (c := 3 * k) (by omega)) ?_
                      refine lv_iload_n hx hb dX7_stampLow_83 rfl (lv_at hl 1 rfl) ?_
                      refine lv_iadd hx hb dX7_stampLow_84 ?_
                      refine lv_eqi (v := (nI (3 * k + 2))) (nA (a := 3 * k) (b := 2) (c := 3 * k + 2) (by omega)) ?_
                      refine lv_aload_n hx hb dX7_stampLow_85 rfl (lv_at hl 2 rfl) ?_
                      refine gm_7 S hK hI dX7_stampLow_86 ?_
                      refine lv_iload_n hx hb dX7_stampLow_89 rfl (lv_at hl 3 rfl) ?_
                      refine ln_1 (j := k) S hK hI (by omega) dX7_stampLow_90 ?_
                      refine lv_eqi (v := κ) (eκ) ?_
                      refine lv_iconst (v := 3) hx hb dX7_stampLow_91 (by decide) ?_
                      refine lv_icmp_ne (tgt := 101) hx hb dX7_stampLow_92 (by decide) (fun c294 => ?_) (fun c294 => ?_)
                      · exact absurd c265 c294
                      · refine lv_lconst (v := 1) hx hb dX7_stampLow_95 (by decide) ?_
                        refine lv_lload_n hx hb dX7_stampLow_96 rfl (lv_at hl 0 rfl) ?_
                        refine lv_lsub hx hb dX7_stampLow_97 ?_
                        refine lv_topl (fun x295 e295 => ?_)
                        refine lv_goto (tgt := 113) hx hb dX7_stampLow_98 (by decide) ?_
                        refine sn_4 (j := 3 * k + 2) S hK hI (by omega) dX7_stampLow_113 (fun H locs hI => ?_)
                        refine lv_iinc (v := 3) (lv' := [(2, .int 3), (3, .long x293), (0, .ref (ad 1000)), (1, .int (nI k))]) hx hb dX7_stampLow_114 hl (k := 1) rfl (by decide) (by decide) rfl (fun ls hl => ?_)
                        refine lv_goto (tgt := 43) hx hb dX7_stampLow_117 (by decide) ?_
                        refine lv_iload_n hx hb dX7_stampLow_43 rfl (lv_at hl 0 rfl) ?_
                        refine lv_aload_n hx hb dX7_stampLow_44 rfl (lv_at hl 2 rfl) ?_
                        refine gm_13 S hK hI dX7_stampLow_45 ?_
                        refine lv_iload_n hx hb dX7_stampLow_48 rfl (lv_at hl 3 rfl) ?_
                        refine ln_2 (j := k) S hK hI (by omega) dX7_stampLow_49 ?_
                        refine lv_eqi (v := 3) (ez) ?_
                        refine lv_icmp_ge (tgt := 120) hx hb dX7_stampLow_50 (by decide) (fun c296 => ?_) (fun c296 => ?_)
                        · subst e295
                          subst e293
                          subst e291
                          subst e289
                          subst e287
                          subst e285
                          subst e283
                          subst e264
                          subst e262
                          subst e260
                          subst e182
                          unfold stampLowF
                          unfold addS
                          have es : szS σ k = 3 := by unfold szS; rw [ez]; rfl
                          rw [es]
                          rw [eκ]
                          try simp only [bumpN, bump1, bumpF, Nat.add_zero]
                          try rw [if_neg hN]
                          try rw [if_pos c183]
                          try rw [if_neg (show ¬ (3 : Int32) ≤ 0 from by decide)]
                          try rw [if_neg hN]
                          try rw [if_pos c265]
                          try rw [if_neg (show ¬ (3 : Int32) ≤ 1 from by decide)]
                          try rw [if_neg hN]
                          try rw [if_pos c265]
                          try rw [if_neg (show ¬ (3 : Int32) ≤ 2 from by decide)]
                          try rw [if_neg hN]
                          try rw [if_pos c265]
                          try rw [if_pos (show (3 : Int32) ≤ 3 from by decide)]
                          exact tw_vret S hr hlocks hI dX7_stampLow_120
                        · exact absurd c296 (by decide)
