/-! the class: what stands at an item, a desk, a row; what a store leaves -/
def wXg (b : tw_W) (root : List Value) (n : Nat) (dc : Nat → Nat) (cnt : Nat → Int32) (desk : Nat → List Value) (item : Nat → tw_T) (arr : Nat → Option tw_T) : tw_W := fun t =>
  if 1000 ≤ t then b t
  else if t = 0 then some (.inr (5, root))
  else if t = 1 then some (.inl (4, 60, .inr (.inr (.inr (.inr (fun i => if i < n then some (100 + i) else none))))))
  else if t = 2 then some (.inl (5, 8, .inr (.inr (.inr (.inr (fun r => if r < 8 then some (10 + r) else none))))))
  else if 10 ≤ t ∧ t < 18 then some (.inr (3, [.ref (20 + (t - 10)), .int (cnt (t - 10))]))
  else if 20 ≤ t ∧ t < 28 then some (.inl (3, 4, .inr (.inr (.inr (.inr (fun d => if d < dc (t - 20) then some (30 + (4 * (t - 20) + d)) else none))))))
  else if 30 ≤ t ∧ t < 62 ∧ (t - 30) % 4 < dc ((t - 30) / 4) then some (.inr (0, desk (t - 30)))
  else if 100 ≤ t ∧ t < 160 ∧ t - 100 < n then some (item (t - 100))
  else if 200 ≤ t ∧ t < 260 ∧ t - 200 < n then arr (t - 200)
  else none
theorem wX_g {b : tw_W} {σ : Sg} {h : Int32} {Q : Nat → Int32} : wX b σ h Q = wXg b (xRoot σ h) (nS σ) (dcS σ) (σ.1 5) (xDesk σ h Q) (xItem σ) (xArr σ) := rfl
section WG
variable {b : tw_W} {root : List Value} {n : Nat} {dc : Nat → Nat} {cnt : Nat → Int32} {desk : Nat → List Value} {item : Nat → tw_T} {arr : Nat → Option tw_T}
theorem g_arr {k : Nat} (hn : k < n) (h6 : k < 60) (a : Option tw_T) : va_up (wXg b root n dc cnt desk item arr) (200 + k) a = wXg b root n dc cnt desk item (va_up arr k a) := by
  funext t
  by_cases ht : t = 200 + k
  · subst ht
    rw [va_up_self]
    unfold wXg
    rw [if_neg (by omega), if_neg (by omega), if_neg (by omega), if_neg (by omega), if_neg (by omega), if_neg (by omega), if_neg (by omega), if_neg (by omega), if_pos (by omega), show 200 + k - 200 = k by omega, va_up_self]
  · rw [va_up_ne _ _ ht]
    unfold wXg
    by_cases h2 : 200 ≤ t
    · rw [va_up_ne arr _ (show t - 200 ≠ k by omega)]
    · rw [if_neg (show ¬ (200 ≤ t ∧ t < 260 ∧ t - 200 < n) by omega), if_neg (show ¬ (200 ≤ t ∧ t < 260 ∧ t - 200 < n) by omega)]
theorem g_item {k : Nat} (hn : k < n) (h6 : k < 60) (a : tw_T) : va_up (wXg b root n dc cnt desk item arr) (100 + k) (some a) = wXg b root n dc cnt desk (va_up item k a) arr := by
  funext t
  by_cases ht : t = 100 + k
  · subst ht
    rw [va_up_self]
    unfold wXg
    rw [if_neg (by omega), if_neg (by omega), if_neg (by omega), if_neg (by omega), if_neg (by omega), if_neg (by omega), if_neg (by omega), if_pos (by omega), show 100 + k - 100 = k by omega, va_up_self]
  · rw [va_up_ne _ _ ht]
    unfold wXg
    by_cases h2 : 100 ≤ t
    · rw [va_up_ne item _ (show t - 100 ≠ k by omega)]
    · rw [if_neg (show ¬ (100 ≤ t ∧ t < 160 ∧ t - 100 < n) by omega), if_neg (show ¬ (100 ≤ t ∧ t < 160 ∧ t - 100 < n) by omega)]
theorem g_desk {d : Nat} (hd : d < 32) (hc : d % 4 < dc (d / 4)) (a : List Value) : va_up (wXg b root n dc cnt desk item arr) (30 + d) (some (.inr (0, a))) = wXg b root n dc cnt (va_up desk d a) item arr := by
  funext t
  by_cases ht : t = 30 + d
  · subst ht
    rw [va_up_self]
    unfold wXg
    rw [if_neg (by omega), if_neg (by omega), if_neg (by omega), if_neg (by omega), if_neg (by omega), if_neg (by omega), show 30 + d - 30 = d by omega, if_pos ⟨by omega, by omega, hc⟩, va_up_self]
  · rw [va_up_ne _ _ ht]
    unfold wXg
    by_cases h2 : 30 ≤ t
    · rw [va_up_ne desk _ (show t - 30 ≠ d by omega)]
    · rw [if_neg (show ¬ (30 ≤ t ∧ t < 62 ∧ (t - 30) % 4 < dc ((t - 30) / 4)) by omega), if_neg (show ¬ (30 ≤ t ∧ t < 62 ∧ (t - 30) % 4 < dc ((t - 30) / 4)) by omega)]
end WG
theorem up_eq {α : Type} {f g : Nat → α} {k : Nat} (h : ∀ i, i ≠ k → g i = f i) : va_up f k (g k) = g := by
  funext i
  by_cases hi : i = k
  · subst hi; exact va_up_self _ _ _
  · rw [va_up_ne _ _ hi, h i hi]
theorem wX_setC {b : tw_W} {σ : Sg} {h : Int32} {Q : Nat → Int32} {k : Nat} {C' : Nat → Int64} (hn : k < nS σ) (h6 : k < 60) (hC : ∀ i : Nat, i ≠ k → ∀ j : Nat, j < 3 → C' (3 * i + j) = σ.2 (3 * i + j)) : va_up (wX b σ h Q) (200 + k) (xArr (σ.1, C') k) = wX b (σ.1, C') h Q := by
  rw [wX_g, g_arr hn h6, up_eq]
  · rfl
  · intro i hi
    unfold xArr szS
    have e1 : (fun j => if j < 3 then C' (3 * i + j) else 0) = (fun j => if j < 3 then σ.2 (3 * i + j) else 0) := by
      funext j
      by_cases hj : j < 3
      · rw [if_pos hj, if_pos hj, hC i hi j hj]
      · rw [if_neg hj, if_neg hj]
    have e2 : (fun j => if j < 3 then tI (decL (C' (3 * i + j))) else none) = (fun j => if j < 3 then tI (decL (σ.2 (3 * i + j))) else none) := by
      funext j
      by_cases hj : j < 3
      · rw [if_pos hj, if_pos hj, hC i hi j hj]
      · rw [if_neg hj, if_neg hj]
    dsimp only
    rw [e1, e2]
theorem sC_far {σ : Sg} {k i : Nat} {v : Int64} (hi : i < 3) : ∀ i' : Nat, i' ≠ k → ∀ j : Nat, j < 3 → (sC σ (3 * k + i) v).2 (3 * i' + j) = σ.2 (3 * i' + j) := fun i' hne j hj => va_up_ne _ _ (by omega)
theorem xI_num {b : tw_W} {σ : Sg} {h : Int32} {Q : Nat → Int32} {k : Nat} (hn : k < nS σ) (h6 : k < 60) (hk : isNumK (σ.1 1 k) = true) : wX b σ h Q (100 + k) = some (.inr (1, [.int (nI k), .int (σ.1 1 k), .ref (200 + k)])) := by
  rw [wX_item hn h6]; unfold xItem; rw [if_pos hk]
theorem xI_one {b : tw_W} {σ : Sg} {h : Int32} {Q : Nat → Int32} {k : Nat} (hn : k < nS σ) (h6 : k < 60) (hN : isNumK (σ.1 1 k) = false) (hk : isOneK (σ.1 1 k) = true) : wX b σ h Q (100 + k) = some (.inr (2, [.int (nI k), .int (σ.1 1 k), .int (σ.1 3 k)])) := by
  rw [wX_item hn h6]; unfold xItem; rw [if_neg (by rw [hN]; decide), if_pos hk]
theorem xI_th {b : tw_W} {σ : Sg} {h : Int32} {Q : Nat → Int32} {k : Nat} (hn : k < nS σ) (h6 : k < 60) (hN : isNumK (σ.1 1 k) = false) (hk : isOneK (σ.1 1 k) = false) : wX b σ h Q (100 + k) = some (.inr (4, [.int (nI k), .int (σ.1 1 k), .ref (200 + k)])) := by
  rw [wX_item hn h6]; unfold xItem; rw [if_neg (by rw [hN]; decide), if_neg (by rw [hk]; decide)]
theorem xA_num {b : tw_W} {σ : Sg} {h : Int32} {Q : Nat → Int32} {k : Nat} (hn : k < nS σ) (h6 : k < 60) (hk : isNumK (σ.1 1 k) = true) : wX b σ h Q (200 + k) = some (.inl (1, szS σ k, .inr (.inl (fun j => if j < 3 then σ.2 (3 * k + j) else 0)))) := by
  rw [wX_arr hn h6]; unfold xArr; rw [if_pos hk]
theorem xA_th {b : tw_W} {σ : Sg} {h : Int32} {Q : Nat → Int32} {k : Nat} (hn : k < nS σ) (h6 : k < 60) (hN : isNumK (σ.1 1 k) = false) (hk : isOneK (σ.1 1 k) = false) : wX b σ h Q (200 + k) = some (.inl (4, szS σ k, .inr (.inr (.inr (.inr (fun j => if j < 3 then tI (decL (σ.2 (3 * k + j))) else none)))))) := by
  rw [wX_arr hn h6]; unfold xArr; rw [if_neg (by rw [hN]; decide), if_neg (by rw [hk]; decide)]
theorem xArr_numS {σ : Sg} {k i : Nat} {v : Int64} (hk : isNumK (σ.1 1 k) = true) (hi : i < 3) : some (.inl (1, szS σ k, .inr (.inl (va_up (fun j => if j < 3 then σ.2 (3 * k + j) else 0) i v)))) = xArr (sC σ (3 * k + i) v) k := by
  unfold xArr
  rw [show (sC σ (3 * k + i) v).1 = σ.1 from rfl, if_pos hk]
  have e : va_up (fun j => if j < 3 then σ.2 (3 * k + j) else 0) i v = fun j => if j < 3 then (sC σ (3 * k + i) v).2 (3 * k + j) else 0 := by
    funext j
    by_cases hj : j = i
    · subst hj
      rw [va_up_self, if_pos hi]
      exact (va_up_self _ _ _).symm
    · rw [va_up_ne _ _ hj]
      by_cases h3 : j < 3
      · rw [if_pos h3, if_pos h3]
        exact (va_up_ne _ _ (by omega)).symm
      · rw [if_neg h3, if_neg h3]
  rw [e]
  rfl
theorem xArr_thS {σ : Sg} {k i : Nat} {v : Int64} (hN : isNumK (σ.1 1 k) = false) (hk : isOneK (σ.1 1 k) = false) (hi : i < 3) : some (.inl (4, szS σ k, .inr (.inr (.inr (.inr (va_up (fun j => if j < 3 then tI (decL (σ.2 (3 * k + j))) else none) i (tI (decL v)))))))) = xArr (sC σ (3 * k + i) v) k := by
  unfold xArr
  rw [show (sC σ (3 * k + i) v).1 = σ.1 from rfl, if_neg (by rw [hN]; decide), if_neg (by rw [hk]; decide)]
  have e : va_up (fun j => if j < 3 then tI (decL (σ.2 (3 * k + j))) else none) i (tI (decL v)) = fun j => if j < 3 then tI (decL ((sC σ (3 * k + i) v).2 (3 * k + j))) else none := by
    funext j
    by_cases hj : j = i
    · subst hj
      rw [va_up_self, if_pos hi, show (sC σ (3 * k + j) v).2 (3 * k + j) = v from va_up_self _ _ _]
    · rw [va_up_ne _ _ hj]
      by_cases h3 : j < 3
      · rw [if_pos h3, if_pos h3, show (sC σ (3 * k + i) v).2 (3 * k + j) = σ.2 (3 * k + j) from va_up_ne _ _ (by omega)]
      · rw [if_neg h3, if_neg h3]
  rw [e]
  rfl
section ROWS4
variable {p : Program} {l : Launch} {e : Env} {R : Room} {s : State} {m : MethodId} {args : Array Value} {below : List Frame} {meth : Method} {c : Code} {H : Heap} {locs : List Loc} {cells slots : Nat} {Z : State → Prop}
variable {cc : ByteArray} {pc nL : Nat} {ls : Array Slot} {rest st0 : List Value} {D : tw_G} {A : Nat → Prop} {ad : Nat → Nat} {own : String} {b : tw_W} {σ : Sg} {h : Int32} {Q : Nat → Int32} {k i : Nat}
theorem xl_num (S : CallFix p m c cc nL s args tw_ws own) (hK : tw_K D s) (hI : tw_I D A ad (wX b σ h Q) s.heap H locs) (hn : k < nS σ) (h6 : k < 60) (hk : isNumK (σ.1 1 k) = true) (hi : i < szS σ k) (h3 : i < 3) (hz : szS σ k < 2 ^ 31) (hdg : decode cc pc = .ok (.laload, 1)) (kk : W p l e R s m args below meth c H locs cells slots Z (F0 m (pc + 1) ls (.long (σ.2 (3 * k + i)) :: rest))) : W p l e R s m args below meth c H locs cells slots Z (F0 m pc ls (.int (nI i) :: .ref (ad (200 + k)) :: rest)) :=
  tw_lald S hK hI (xA_num hn h6 hk) (vp_in_nI hi hz) hdg (by rw [show (nI i).toNatClampNeg = i from nI_clamp (by omega), if_pos h3]; exact kk)
theorem xs_num {v : Int64} (S : CallFix p m c cc nL s args tw_ws own) (hK : tw_K D s) (hI : tw_I D A ad (wX b σ h Q) s.heap H locs) (hn : k < nS σ) (h6 : k < 60) (hk : isNumK (σ.1 1 k) = true) (hi : i < szS σ k) (h3 : i < 3) (hz : szS σ k < 2 ^ 31) (hdg : decode cc pc = .ok (.lastore, 1)) (kk : ∀ (H1 : Heap) (locs1 : List Loc), tw_I D A ad (wX b (sC σ (3 * k + i) v) h Q) s.heap H1 locs1 → W p l e R s m args below meth c H1 locs1 cells slots Z (F0 m (pc + 1) ls rest)) : W p l e R s m args below meth c H locs cells slots Z (F0 m pc ls (.long v :: .int (nI i) :: .ref (ad (200 + k)) :: rest)) :=
  tw_last S hK hI (xA_num hn h6 hk) (vp_in_nI hi hz) hdg (fun H1 locs1 h1 => kk H1 locs1 (by
    rw [show (nI i).toNatClampNeg = i from nI_clamp (by omega), xArr_numS hk h3] at h1
    have e : va_up (wX b σ h Q) (200 + k) (xArr (sC σ (3 * k + i) v) k) = wX b (sC σ (3 * k + i) v) h Q := wX_setC (σ := σ) (C' := (sC σ (3 * k + i) v).2) hn h6 (sC_far h3)
    rw [← e]
    exact h1))
theorem xl_th {v : Value} (S : CallFix p m c cc nL s args tw_ws own) (hK : tw_K D s) (hI : tw_I D A ad (wX b σ h Q) s.heap H locs) (hn : k < nS σ) (h6 : k < 60) (hN : isNumK (σ.1 1 k) = false) (hO : isOneK (σ.1 1 k) = false) (hi : i < szS σ k) (h3 : i < 3) (hz : szS σ k < 2 ^ 31) (hv : va_rf ((tI (decL (σ.2 (3 * k + i)))).map ad) = v) (hdg : decode cc pc = .ok (.aaload, 1)) (kk : W p l e R s m args below meth c H locs cells slots Z (F0 m (pc + 1) ls (v :: rest))) : W p l e R s m args below meth c H locs cells slots Z (F0 m pc ls (.int (nI i) :: .ref (ad (200 + k)) :: rest)) :=
  tw_aald S hK hI (xA_th hn h6 hN hO) rfl (vp_in_nI hi hz) (by rw [show (nI i).toNatClampNeg = i from nI_clamp (by omega), if_pos h3]; exact hv) hdg kk
theorem xs_th {v : Value} {q : Int64} (S : CallFix p m c cc nL s args tw_ws own) (hK : tw_K D s) (hI : tw_I D A ad (wX b σ h Q) s.heap H locs) (hn : k < nS σ) (h6 : k < 60) (hN : isNumK (σ.1 1 k) = false) (hO : isOneK (σ.1 1 k) = false) (hi : i < szS σ k) (h3 : i < 3) (hz : szS σ k < 2 ^ 31) (hv : va_rf ((tI (decL q)).map ad) = v) (hr : ∀ y, tI (decL q) = some y → va_Any RX1 s H (ad y)) (hdg : decode cc pc = .ok (.aastore, 1)) (kk : ∀ (H1 : Heap) (locs1 : List Loc), tw_I D A ad (wX b (sC σ (3 * k + i) q) h Q) s.heap H1 locs1 → W p l e R s m args below meth c H1 locs1 cells slots Z (F0 m (pc + 1) ls rest)) : W p l e R s m args below meth c H locs cells slots Z (F0 m pc ls (v :: .int (nI i) :: .ref (ad (200 + k)) :: rest)) :=
  tw_aast S hK hI (xA_th hn h6 hN hO) rfl (vp_in_nI hi hz) (tI (decL q)) hv hr hdg (fun H1 locs1 h1 => kk H1 locs1 (by
    rw [show (nI i).toNatClampNeg = i from nI_clamp (by omega), xArr_thS hN hO h3] at h1
    have e : va_up (wX b σ h Q) (200 + k) (xArr (sC σ (3 * k + i) q) k) = wX b (sC σ (3 * k + i) q) h Q := wX_setC (σ := σ) (C' := (sC σ (3 * k + i) q).2) hn h6 (sC_far h3)
    rw [← e]
    exact h1))
theorem xAny (hK : tw_K D s) (hI : tw_I D A ad (wX b σ h Q) s.heap H locs) (hn : k < nS σ) (h6 : k < 60) : va_Any RX1 s H (ad (100 + k)) := by
  cases hN : isNumK (σ.1 1 k) with
  | true => exact tw_any hK hI (xI_num hn h6 hN) rfl (Or.inl (tw_memN (by decide +kernel) rfl))
  | false =>
    cases hO : isOneK (σ.1 1 k) with
    | true => exact tw_any hK hI (xI_one hn h6 hN hO) rfl (Or.inl (tw_memN (by decide +kernel) rfl))
    | false => exact tw_any hK hI (xI_th hn h6 hN hO) rfl (Or.inl (tw_memN (by decide +kernel) rfl))
end ROWS4
