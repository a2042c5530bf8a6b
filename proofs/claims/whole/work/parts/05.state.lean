/-! THE STATE, AND THE TWO WORLDS. A state is (I, C): I k is the reference's field of place k (a number at 0, or a row), C its row of longs. -/
abbrev Sg : Type := (Nat → Nat → Int32) × (Nat → Int64)
def sI (σ : Sg) (f i : Nat) (v : Int32) : Sg := (va_up σ.1 f (va_up (σ.1 f) i v), σ.2)
def sC (σ : Sg) (i : Nat) (v : Int64) : Sg := (σ.1, va_up σ.2 i v)
abbrev ix (v : Int32) : Nat := v.toNatClampNeg
-- the reference's world: tags 1000 and on
def mRoot (σ : Sg) : List Value := [.int (σ.1 0 0), .ref 1001, .ref 1002, .ref 1003, .ref 1004, .ref 1005, .ref 1006, .ref 1007, .ref 1008, .ref 1009, .ref 1010, .ref 1011, .ref 1012, .ref 1013, .ref 1014, .int (σ.1 15 0), .int (σ.1 16 0), .int (σ.1 17 0), .int (σ.1 18 0), .int (σ.1 19 0), .int (σ.1 20 0), .ref 1021, .ref 1022, .ref 1023, .ref 1024, .int (σ.1 25 0), .int (σ.1 26 0)]
def mLen (k : Nat) : Nat := if k ≤ 3 then 60 else if k = 5 then 8 else if k ≤ 14 then 32 else 9
def mInts : List Nat := [1, 2, 3, 5, 6, 7, 9, 10, 11, 12, 13, 21, 22, 23, 24]
def mCell (σ : Sg) (k : Nat) : Option tw_T :=
  if k = 0 then some (.inr (6, mRoot σ))
  else if k = 4 then some (.inl (1, 180, .inr (.inl σ.2)))
  else if k = 8 then some (.inl (2, 32, .inl (σ.1 8)))
  else if k = 14 then some (.inl (2, 32, .inl (σ.1 14)))
  else if k ∈ mInts then some (.inl (0, mLen k, .inl (σ.1 k)))
  else none
def wM (b : tw_W) (σ : Sg) : tw_W := fun t => if 1000 ≤ t then mCell σ (t - 1000) else b t
theorem mRoot_I {σ : Sg} {k : Nat} (hk : k = 8 ∨ k = 14 ∨ k ∈ mInts) (g : Nat → Int32) : mRoot (va_up σ.1 k g, σ.2) = mRoot σ := by
  have h : ∀ j : Nat, j ≠ k → (va_up σ.1 k g) j = σ.1 j := fun j hj => va_up_ne _ _ hj
  have n : ∀ j : Nat, j ∈ [0, 15, 16, 17, 18, 19, 20, 25, 26] → j ≠ k := by
    intro j hj e
    subst e
    rcases hk with rfl | rfl | hk
    · revert hj; decide
    · revert hj; decide
    · have : ∀ x ∈ [0, 15, 16, 17, 18, 19, 20, 25, 26], x ∉ mInts := by decide
      exact this _ hj hk
  unfold mRoot
  simp only [h 0 (n 0 (by decide)), h 15 (n 15 (by decide)), h 16 (n 16 (by decide)), h 17 (n 17 (by decide)), h 18 (n 18 (by decide)), h 19 (n 19 (by decide)), h 20 (n 20 (by decide)), h 25 (n 25 (by decide)), h 26 (n 26 (by decide))]
theorem wM_row {b : tw_W} {σ : Sg} {k n : Nat} {c : Nat} (hk : k = 8 ∨ k = 14 ∨ k ∈ mInts) (g : Nat → Int32) (h0 : mCell (va_up σ.1 k g, σ.2) k = some (.inl (c, n, .inl g))) : va_up (wM b σ) (1000 + k) (some (.inl (c, n, .inl g))) = wM b (va_up σ.1 k g, σ.2) := by
  funext t
  by_cases ht : t = 1000 + k
  · subst ht
    rw [va_up_self]
    unfold wM
    rw [if_pos (by omega), show 1000 + k - 1000 = k by omega, h0]
  · rw [va_up_ne _ _ ht]
    unfold wM
    by_cases h1 : 1000 ≤ t
    · rw [if_pos h1, if_pos h1]
      have hj : t - 1000 ≠ k := by omega
      generalize t - 1000 = j at hj ⊢
      unfold mCell
      rw [mRoot_I hk g]
      by_cases j0 : j = 0
      · rw [if_pos j0, if_pos j0]
      · rw [if_neg j0, if_neg j0]
        by_cases j4 : j = 4
        · rw [if_pos j4, if_pos j4]
        · rw [if_neg j4, if_neg j4]
          by_cases j8 : j = 8
          · subst j8
            rw [if_pos rfl, if_pos rfl, show (va_up σ.1 k g, σ.2).1 8 = σ.1 8 from va_up_ne _ _ hj]
          · rw [if_neg j8, if_neg j8]
            by_cases j14 : j = 14
            · subst j14
              rw [if_pos rfl, if_pos rfl, show (va_up σ.1 k g, σ.2).1 14 = σ.1 14 from va_up_ne _ _ hj]
            · rw [if_neg j14, if_neg j14, show (va_up σ.1 k g, σ.2).1 j = σ.1 j from va_up_ne _ _ hj]
    · rw [if_neg h1, if_neg h1]
theorem wM_C {b : tw_W} {σ : Sg} (g : Nat → Int64) : va_up (wM b σ) 1004 (some (.inl (1, 180, .inr (.inl g)))) = wM b (σ.1, g) := by
  funext t
  by_cases ht : t = 1004
  · subst ht
    rw [va_up_self]
    rfl
  · rw [va_up_ne _ _ ht]
    unfold wM
    by_cases h1 : 1000 ≤ t
    · rw [if_pos h1, if_pos h1]
      have hj : t - 1000 ≠ 4 := by omega
      generalize t - 1000 = j at hj ⊢
      unfold mCell
      rw [if_neg hj, if_neg hj]
      rfl
    · rw [if_neg h1, if_neg h1]
theorem wM_root {b : tw_W} {σ σ' : Sg} {fs : List Value} (h0 : mRoot σ' = fs) (hC : σ'.2 = σ.2) (hr : ∀ k, k = 8 ∨ k = 14 ∨ k ∈ mInts → σ'.1 k = σ.1 k) : va_up (wM b σ) 1000 (some (.inr (6, fs))) = wM b σ' := by
  funext t
  by_cases ht : t = 1000
  · subst ht
    rw [va_up_self, ← h0]
    rfl
  · rw [va_up_ne _ _ ht]
    unfold wM
    by_cases h1 : 1000 ≤ t
    · rw [if_pos h1, if_pos h1]
      have hj : t - 1000 ≠ 0 := by omega
      generalize t - 1000 = j at hj ⊢
      unfold mCell
      rw [if_neg hj, if_neg hj]
      by_cases j4 : j = 4
      · rw [if_pos j4, if_pos j4, hC]
      · rw [if_neg j4, if_neg j4]
        by_cases j8 : j = 8
        · rw [if_pos j8, if_pos j8, hr 8 (Or.inl rfl)]
        · rw [if_neg j8, if_neg j8]
          by_cases j14 : j = 14
          · rw [if_pos j14, if_pos j14, hr 14 (Or.inr (Or.inl rfl))]
          · rw [if_neg j14, if_neg j14]
            by_cases jm : j ∈ mInts
            · rw [if_pos jm, if_pos jm, hr j (Or.inr (Or.inr jm))]
            · rw [if_neg jm, if_neg jm]
    · rw [if_neg h1, if_neg h1]
-- the class's world: tags below 1000; h: how often it was handed, Q: in which handing a desk asked last (but for this one)
def nS (σ : Sg) : Nat := ix (σ.1 0 0)
def dcS (σ : Sg) (r : Nat) : Nat := ix (σ.1 5 r)
def szS (σ : Sg) (i : Nat) : Nat := ix (σ.1 2 i)
def dec (v : Int32) : Option Nat := if v < 0 then none else some (ix v)
def decL (v : Int64) : Option Nat := if v.toInt < 0 then none else some v.toInt.toNat
def tI (o : Option Nat) : Option Nat := o.map (fun i => 100 + i)
def xRoot (σ : Sg) (h : Int32) : List Value := [.ref 1, .ref 2, .int (σ.1 0 0), .int h, .int (σ.1 26 0), .int (σ.1 20 0), .int (σ.1 15 0), .int (σ.1 16 0), .int (σ.1 17 0), .int (σ.1 18 0), .int (σ.1 19 0)]
def xAsk (σ : Sg) (h : Int32) (Q : Nat → Int32) (d : Nat) : Int32 := if σ.1 14 d = 1 then h else Q d
def xDesk (σ : Sg) (h : Int32) (Q : Nat → Int32) (d : Nat) : List Value := [.int (σ.1 6 d), .int (σ.1 7 d), .int (σ.1 8 d), .int (σ.1 9 d), .int (σ.1 11 d), va_rf (tI (dec (σ.1 10 d))), .int (σ.1 12 d), va_rf (tI (dec (σ.1 13 d))), .int (xAsk σ h Q d)]
def isNumK (k : Int32) : Bool := decide (k ≤ 3)
def isOneK (k : Int32) : Bool := decide (5 ≤ k) && decide (k ≤ 7)
def xItem (σ : Sg) (i : Nat) : tw_T := if isNumK (σ.1 1 i) then .inr (1, [.int (nI i), .int (σ.1 1 i), .ref (200 + i)]) else if isOneK (σ.1 1 i) then .inr (2, [.int (nI i), .int (σ.1 1 i), .int (σ.1 3 i)]) else .inr (4, [.int (nI i), .int (σ.1 1 i), .ref (200 + i)])
def xArr (σ : Sg) (i : Nat) : Option tw_T := if isNumK (σ.1 1 i) then some (.inl (1, szS σ i, .inr (.inl (fun j => if j < 3 then σ.2 (3 * i + j) else 0)))) else if isOneK (σ.1 1 i) then none else some (.inl (4, szS σ i, .inr (.inr (.inr (.inr (fun j => if j < 3 then tI (decL (σ.2 (3 * i + j))) else none))))))
def wX (b : tw_W) (σ : Sg) (h : Int32) (Q : Nat → Int32) : tw_W := fun t =>
  if 1000 ≤ t then b t
  else if t = 0 then some (.inr (5, xRoot σ h))
  else if t = 1 then some (.inl (4, 60, .inr (.inr (.inr (.inr (fun i => if i < nS σ then some (100 + i) else none))))))
  else if t = 2 then some (.inl (5, 8, .inr (.inr (.inr (.inr (fun r => if r < 8 then some (10 + r) else none))))))
  else if 10 ≤ t ∧ t < 18 then some (.inr (3, [.ref (20 + (t - 10)), .int (σ.1 5 (t - 10))]))
  else if 20 ≤ t ∧ t < 28 then some (.inl (3, 4, .inr (.inr (.inr (.inr (fun d => if d < dcS σ (t - 20) then some (30 + (4 * (t - 20) + d)) else none))))))
  else if 30 ≤ t ∧ t < 62 ∧ (t - 30) % 4 < dcS σ ((t - 30) / 4) then some (.inr (0, xDesk σ h Q (t - 30)))
  else if 100 ≤ t ∧ t < 160 ∧ t - 100 < nS σ then some (xItem σ (t - 100))
  else if 200 ≤ t ∧ t < 260 ∧ t - 200 < nS σ then xArr σ (t - 200)
  else none
theorem wX_0 {b : tw_W} {σ : Sg} {h : Int32} {Q : Nat → Int32} : wX b σ h Q 0 = some (.inr (5, xRoot σ h)) := rfl
theorem wX_1 {b : tw_W} {σ : Sg} {h : Int32} {Q : Nat → Int32} : wX b σ h Q 1 = some (.inl (4, 60, .inr (.inr (.inr (.inr (fun i => if i < nS σ then some (100 + i) else none)))))) := rfl
theorem wX_2 {b : tw_W} {σ : Sg} {h : Int32} {Q : Nat → Int32} : wX b σ h Q 2 = some (.inl (5, 8, .inr (.inr (.inr (.inr (fun r => if r < 8 then some (10 + r) else none)))))) := rfl
theorem wX_room {b : tw_W} {σ : Sg} {h : Int32} {Q : Nat → Int32} {r : Nat} (hr : r < 8) : wX b σ h Q (10 + r) = some (.inr (3, [.ref (20 + r), .int (σ.1 5 r)])) := by
  unfold wX
  rw [if_neg (by omega), if_neg (by omega), if_neg (by omega), if_neg (by omega), if_pos (by omega), show 10 + r - 10 = r by omega]
theorem wX_darr {b : tw_W} {σ : Sg} {h : Int32} {Q : Nat → Int32} {r : Nat} (hr : r < 8) : wX b σ h Q (20 + r) = some (.inl (3, 4, .inr (.inr (.inr (.inr (fun d => if d < dcS σ r then some (30 + (4 * r + d)) else none)))))) := by
  unfold wX
  rw [if_neg (by omega), if_neg (by omega), if_neg (by omega), if_neg (by omega), if_neg (by omega), if_pos (by omega), show 20 + r - 20 = r by omega]
theorem wX_desk {b : tw_W} {σ : Sg} {h : Int32} {Q : Nat → Int32} {r d : Nat} (hr : r < 8) (hd : d < 4) (hc : d < dcS σ r) : wX b σ h Q (30 + (4 * r + d)) = some (.inr (0, xDesk σ h Q (4 * r + d))) := by
  unfold wX
  have e1 : 30 + (4 * r + d) - 30 = 4 * r + d := by omega
  have e2 : (4 * r + d) % 4 = d := by omega
  have e3 : (4 * r + d) / 4 = r := by omega
  rw [if_neg (by omega), if_neg (by omega), if_neg (by omega), if_neg (by omega), if_neg (by omega), if_neg (by omega), e1, e2, e3, if_pos ⟨by omega, by omega, hc⟩]
theorem wX_item {b : tw_W} {σ : Sg} {h : Int32} {Q : Nat → Int32} {i : Nat} (hi : i < nS σ) (h6 : i < 60) : wX b σ h Q (100 + i) = some (xItem σ i) := by
  unfold wX
  have e1 : 100 + i - 100 = i := by omega
  rw [if_neg (by omega), if_neg (by omega), if_neg (by omega), if_neg (by omega), if_neg (by omega), if_neg (by omega), if_neg (by omega), e1, if_pos ⟨by omega, by omega, hi⟩]
theorem wX_arr {b : tw_W} {σ : Sg} {h : Int32} {Q : Nat → Int32} {i : Nat} (hi : i < nS σ) (h6 : i < 60) : wX b σ h Q (200 + i) = xArr σ i := by
  unfold wX
  have e1 : 200 + i - 200 = i := by omega
  rw [if_neg (by omega), if_neg (by omega), if_neg (by omega), if_neg (by omega), if_neg (by omega), if_neg (by omega), if_neg (by omega), if_neg (by omega), e1, if_pos ⟨by omega, by omega, hi⟩]
/-- where two states agree on what the class's cells other than the root say, only the root changes -/
def xSame (σ σ' : Sg) : Prop := σ'.2 = σ.2 ∧ (∀ k, 1 ≤ k ∧ k ≤ 13 → σ'.1 k = σ.1 k) ∧ σ'.1 0 0 = σ.1 0 0
theorem wX_root {b : tw_W} {σ σ' : Sg} {h h' : Int32} {Q Q' : Nat → Int32} {fs : List Value} (hs : xSame σ σ') (h0 : xRoot σ' h' = fs) (ha : ∀ d, xAsk σ' h' Q' d = xAsk σ h Q d) : va_up (wX b σ h Q) 0 (some (.inr (5, fs))) = wX b σ' h' Q' := by
  obtain ⟨hC, hk, hn⟩ := hs
  funext t
  by_cases ht : t = 0
  · subst ht
    rw [va_up_self, ← h0]
    rfl
  · rw [va_up_ne _ _ ht]
    unfold wX
    have en : nS σ' = nS σ := by unfold nS; rw [hn]
    have ed : ∀ r, dcS σ' r = dcS σ r := fun r => by unfold dcS; rw [hk 5 (by omega)]
    have e6 : ∀ d, xDesk σ' h' Q' d = xDesk σ h Q d := fun d => by unfold xDesk; rw [ha, hk 6 (by omega), hk 7 (by omega), hk 8 (by omega), hk 9 (by omega), hk 10 (by omega), hk 11 (by omega), hk 12 (by omega), hk 13 (by omega)]
    have e7 : ∀ i, xItem σ' i = xItem σ i := fun i => by unfold xItem; rw [hk 1 (by omega), hk 3 (by omega)]
    have e8 : ∀ i, xArr σ' i = xArr σ i := fun i => by unfold xArr szS; rw [hk 1 (by omega), hk 2 (by omega), hC]
    simp only [if_neg ht, en, ed, e6, e7, e8, hk 5 (by omega)]
