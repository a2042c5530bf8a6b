/-! the invariant, and what a handing does, as functions -/
def okO (σ : Sg) : Prop := ∀ k : Nat, k < nS σ → isOneK (σ.1 1 k) = true → σ.1 2 k = 0
def okU (σ : Sg) : Prop := ∀ k : Nat, nS σ ≤ k → k < 60 → σ.1 2 k = 0
def okV (σ : Sg) : Prop := ∀ r d : Nat, r < 8 → d < 4 → (σ.1 14 (4 * r + d) = 0 ∨ σ.1 14 (4 * r + d) = 1) ∧ (dcS σ r ≤ d → σ.1 14 (4 * r + d) = 0)
def okB (σ : Sg) (B : Nat) : Prop := ∀ k : Nat, k < nS σ → isNumK (σ.1 1 k) = true → ∀ i : Nat, i < szS σ k → -2147483648 ≤ (σ.2 (3 * k + i)).toInt ∧ (σ.2 (3 * k + i)).toInt ≤ (B : Int) ∧ (σ.1 1 k = 3 → σ.2 (3 * k + i) = 0 ∨ σ.2 (3 * k + i) = 1)
def okJ (σ : Sg) : Prop := ∀ k : Nat, k < nS σ → ¬ isThF (σ.1 1 k) = 0 → ∀ i : Nat, i < 3 → szS σ k ≤ i → σ.2 (3 * k + i) = -1
def INV (σ : Sg) (B : Nat) : Prop := okM σ ∧ okKd σ ∧ okT σ ∧ okH σ ∧ okO σ ∧ okU σ ∧ okV σ ∧ okB σ B ∧ 65536 ≤ B ∧ okJ σ
theorem INV_same {σ σ' : Sg} {B : Nat} (h : INV σ B) (hf : ∀ g : Nat, g ∈ [0, 1, 2, 5, 6, 7, 8, 10, 13, 14] → σ'.1 g = σ.1 g) (hC : σ'.2 = σ.2) : INV σ' B := by
  unfold INV okM okKd okT okH okO okU okV okB okJ nS szS dcS at *
  rw [hf 0 (by decide), hf 1 (by decide), hf 2 (by decide), hf 5 (by decide), hf 6 (by decide), hf 7 (by decide), hf 8 (by decide), hf 10 (by decide), hf 13 (by decide), hf 14 (by decide), hC]
  exact h
theorem sI_ne (σ : Sg) {f g : Nat} (i : Nat) (v : Int32) (hg : g ≠ f) : (sI σ f i v).1 g = σ.1 g := va_up_ne _ _ hg
theorem sI_at (σ : Sg) (f i : Nat) (v : Int32) : (sI σ f i v).1 f i = v := by
  unfold sI
  simp only [va_up_self]
theorem sI_off (σ : Sg) (f : Nat) {i j : Nat} (v : Int32) (h : j ≠ i) : (sI σ f i v).1 f j = σ.1 f j := by
  unfold sI
  simp only [va_up_self, va_up_ne _ _ h]
def kpL : List Nat := [0, 1, 2, 5, 6, 7, 8]
def Kp (σ : Sg) (B : Nat) (τ : Sg) : Prop := INV τ B ∧ ∀ g : Nat, g ∈ kpL → τ.1 g = σ.1 g
theorem Kp.trans {σ τ ρ : Sg} {B B' : Nat} (h1 : Kp σ B τ) (h2 : Kp τ B' ρ) : Kp σ B' ρ := ⟨h2.1, fun g hg => (h2.2 g hg).trans (h1.2 g hg)⟩
theorem Kp.n {σ τ : Sg} {B : Nat} (h : Kp σ B τ) : nS τ = nS σ := by unfold nS; rw [h.2 0 (by decide)]
theorem Kp.dc {σ τ : Sg} {B : Nat} (h : Kp σ B τ) (r : Nat) : dcS τ r = dcS σ r := by unfold dcS; rw [h.2 5 (by decide)]
theorem Kp.sz {σ τ : Sg} {B : Nat} (h : Kp σ B τ) (r : Nat) : szS τ r = szS σ r := by unfold szS; rw [h.2 2 (by decide)]
theorem Kp.refl {σ : Sg} {B : Nat} (h : INV σ B) : Kp σ B σ := ⟨h, fun _ _ => rfl⟩
theorem INV.mono {σ : Sg} {B B' : Nat} (h : INV σ B) (hb : B ≤ B') : INV σ B' := by
  obtain ⟨hM, hKd, hT, hH, hO, hU, hV, hB, h6⟩ := h
  exact ⟨hM, hKd, hT, hH, hO, hU, hV, fun k hk hN i hi => ⟨(hB k hk hN i hi).1, by have := (hB k hk hN i hi).2.1; omega, (hB k hk hN i hi).2.2⟩, by have := h6.1; omega, h6.2⟩
theorem Kp.mono {σ τ : Sg} {B B' : Nat} (h : Kp σ B τ) (hb : B ≤ B') : Kp σ B' τ := ⟨h.1.mono hb, h.2⟩
theorem kp_sub : ∀ g : Nat, g ∈ kpL → g ∈ [0, 1, 2, 5, 6, 7, 8, 10, 13, 14] := by unfold kpL; decide
theorem Kp_sI {σ : Sg} {B f i : Nat} {v : Int32} (hf : f ∉ [0, 1, 2, 5, 6, 7, 8, 10, 13, 14]) (h : INV σ B) : Kp σ B (sI σ f i v) :=
  ⟨INV_same h (fun g hg => sI_ne σ i v (fun e => hf (e ▸ hg))) rfl, fun g hg => sI_ne σ i v (fun e => hf (e ▸ kp_sub g hg))⟩
theorem Kp_held {σ : Sg} {B r d q : Nat} (h : INV σ B) (hq : q < nS σ) : Kp σ B (sI σ 10 (4 * r + d) (nI q)) := by
  refine ⟨?_, fun g hg => sI_ne σ _ _ (fun e => by subst e; revert hg; decide)⟩
  obtain ⟨hM, hKd, hT, hH, hO, hU, hV, hB, h6⟩ := h
  refine ⟨hM, hKd, hT, fun r' d' hr hd => ?_, hO, hU, hV, hB, h6⟩
  obtain ⟨a1, a2, a3⟩ := hH r' d' hr hd
  refine ⟨?_, a2, a3⟩
  by_cases e : 4 * r' + d' = 4 * r + d
  · rw [e, sI_at]; exact Or.inr ⟨q, hq, rfl⟩
  · rw [sI_off _ _ _ e]; exact a1
theorem Kp_last {σ : Sg} {B r d q : Nat} (h : INV σ B) (hq : q < nS σ) : Kp σ B (sI σ 13 (4 * r + d) (nI q)) := by
  refine ⟨?_, fun g hg => sI_ne σ _ _ (fun e => by subst e; revert hg; decide)⟩
  obtain ⟨hM, hKd, hT, hH, hO, hU, hV, hB, h6⟩ := h
  refine ⟨hM, hKd, hT, fun r' d' hr hd => ?_, hO, hU, hV, hB, h6⟩
  obtain ⟨a1, a2, a3⟩ := hH r' d' hr hd
  refine ⟨a1, ?_, a3⟩
  by_cases e : 4 * r' + d' = 4 * r + d
  · rw [e, sI_at]; exact Or.inr ⟨q, hq, rfl⟩
  · rw [sI_off _ _ _ e]; exact a2
theorem Kp_gave {σ : Sg} {B r d : Nat} (h : INV σ B) (hd4 : d < 4) (hc : d < dcS σ r) : Kp σ B (sI σ 14 (4 * r + d) 1) := by
  refine ⟨?_, fun g hg => sI_ne σ _ _ (fun e => by subst e; revert hg; decide)⟩
  obtain ⟨hM, hKd, hT, hH, hO, hU, hV, hB, h6⟩ := h
  refine ⟨hM, hKd, hT, hH, hO, hU, fun r' d' hr hd => ?_, hB, h6⟩
  obtain ⟨a1, a2⟩ := hV r' d' hr hd
  by_cases e : 4 * r' + d' = 4 * r + d
  · have er : r' = r := by omega
    have ed : d' = d := by omega
    subst er; subst ed
    rw [sI_at]
    exact ⟨Or.inr rfl, fun q => absurd hc (Nat.not_lt.mpr q)⟩
  · rw [sI_off _ _ _ e]
    exact ⟨a1, a2⟩
theorem numK_F {κ : Int32} (h : isNumF κ = 0) : isNumK κ = false := by
  cases hN : isNumK κ with
  | false => rfl
  | true => rw [numF1 hN] at h; exact absurd h (by decide)
/-- cells change: rows of things keep to their old cells, rows of numbers to a bound -/
theorem INV_C {σ σ' : Sg} {B B' : Nat} (h : INV σ B) (hf : ∀ g : Nat, g ∈ [0, 1, 2, 5, 6, 7, 8, 10, 13, 14] → σ'.1 g = σ.1 g) (hT : ∀ k : Nat, k < nS σ → isNumK (σ.1 1 k) = false → ∀ i : Nat, i < szS σ k → ∃ j : Nat, j < szS σ k ∧ σ'.2 (3 * k + i) = σ.2 (3 * k + j)) (hB : okB (σ.1, σ'.2) B') (hb : B ≤ B') (hJ : ∀ k : Nat, k < nS σ → isNumK (σ.1 1 k) = false → ∀ i : Nat, i < 3 → szS σ k ≤ i → σ'.2 (3 * k + i) = σ.2 (3 * k + i)) : INV σ' B' := by
  refine INV_same (σ := (σ.1, σ'.2)) ?_ hf rfl
  obtain ⟨hM, hKd, hT0, hH, hO, hU, hV, -, h6⟩ := h
  refine ⟨hM, hKd, fun k hk hN i hi => ?_, hH, hO, hU, hV, hB, by have := h6.1; omega, fun k hk hT i hi hz => (hJ k hk (numK_F (th_num hT)) i hi hz).trans (h6.2 k hk hT i hi hz)⟩
  obtain ⟨j, hj, e⟩ := hT k hk (numK_F hN) i hi
  show σ'.2 (3 * k + i) = -1 ∨ ∃ q : Nat, q < nS σ ∧ σ'.2 (3 * k + i) = lN q ∧ ¬ goesF (σ.1 1 q) (holdsF (σ.1 1 k)) = 0
  rw [e]
  exact hT0 k hk hN j hj
theorem bumpN_at (σ : Sg) (κ : Int32) (k : Nat) : ∀ (z i : Nat), i < z → (bumpN σ κ k z).2 (3 * k + i) = bumpF κ (σ.2 (3 * k + i))
  | 0, _, h => absurd h (Nat.not_lt_zero _)
  | z + 1, i, h => by
    show va_up (bumpN σ κ k z).2 (3 * k + z) (bumpF κ ((bumpN σ κ k z).2 (3 * k + z))) (3 * k + i) = _
    by_cases e : i = z
    · subst e
      rw [va_up_self, bumpN_C σ κ k (3 * k + i) i (fun j hj => by omega)]
    · rw [va_up_ne _ _ (show 3 * k + i ≠ 3 * k + z by omega)]
      exact bumpN_at σ κ k z i (by omega)
theorem l_succ {v : Int64} (h1 : -2147483648 ≤ v.toInt) (h2 : v.toInt < 2 ^ 62) : (v + 1).toInt = v.toInt + 1 := by
  rw [Int64.toInt_add, show (1 : Int64).toInt = 1 by decide]
  exact Int.bmod_eq_of_le (by omega) (by omega)
theorem bumpF_ok {a B : Nat} {v : Int64} (ha : a ≤ 3) (h1 : -2147483648 ≤ v.toInt) (h2 : v.toInt ≤ (B : Int)) (h3 : nI a = 3 → v = 0 ∨ v = 1) (h6 : 65536 ≤ B) (hB : B < 2 ^ 62) : -2147483648 ≤ (bumpF (nI a) v).toInt ∧ (bumpF (nI a) v).toInt ≤ ((B + 1 : Nat) : Int) ∧ (nI a = 3 → bumpF (nI a) v = 0 ∨ bumpF (nI a) v = 1) := by
  rcases (show a = 0 ∨ a = 1 ∨ a = 2 ∨ a = 3 by omega) with rfl | rfl | rfl | rfl
  · show -2147483648 ≤ ((v + 1) &&& 65535).toInt ∧ ((v + 1) &&& 65535).toInt ≤ _ ∧ ((0 : Int32) = 3 → _)
    have hm := Nat.mod_lt (v + 1).toBitVec.toNat (show 0 < 65536 by decide)
    rw [and16, lN_toInt (by omega)]
    exact ⟨by omega, by omega, fun e => absurd e (by decide)⟩
  · show -2147483648 ≤ ((v + 1).toInt32.toInt16.toInt32.toInt64).toInt ∧ ((v + 1).toInt32.toInt16.toInt32.toInt64).toInt ≤ _ ∧ ((1 : Int32) = 3 → _)
    rw [Int32.toInt_toInt64, Int16.toInt_toInt32]
    have l1 := Int16.le_toInt (v + 1).toInt32.toInt16
    have l2 := Int16.toInt_lt (v + 1).toInt32.toInt16
    exact ⟨by omega, by omega, fun e => absurd e (by decide)⟩
  · show -2147483648 ≤ (v + 1).toInt ∧ (v + 1).toInt ≤ _ ∧ ((2 : Int32) = 3 → _)
    rw [l_succ h1 (by omega)]
    exact ⟨by omega, by omega, fun e => absurd e (by decide)⟩
  · show -2147483648 ≤ (1 - v).toInt ∧ (1 - v).toInt ≤ _ ∧ (_ → 1 - v = 0 ∨ 1 - v = 1)
    rcases h3 rfl with rfl | rfl
    · rw [show ((1 : Int64) - 0).toInt = 1 by decide]
      exact ⟨by omega, by omega, fun _ => Or.inr rfl⟩
    · rw [show ((1 : Int64) - 1).toInt = 0 by decide]
      exact ⟨by omega, by omega, fun _ => Or.inl rfl⟩
theorem numK_a {a : Nat} (ha : a ≤ 12) (hN : isNumK (nI a) = true) : a ≤ 3 := by
  have h := numK hN
  rw [show (3 : Int32) = nI 3 from rfl, nI_ltI (by decide) (by omega)] at h
  omega
theorem low_Kp {σ : Sg} {B j : Nat} (h : INV σ B) (hB : B < 2 ^ 62) (hj : j < nS σ) : Kp σ (B + 1) (stampLowF σ j) := by
  have h0 := h
  obtain ⟨hM, hKd, hT, hH, hO, hU, hV, hBd, h6⟩ := h
  have hn := (okN hM).1
  refine ⟨INV_C h0 (fun g hg => low_I σ j g (fun e => by subst e; revert hg; decide)) (fun k hk hN i hi => ⟨i, hi, low_C hM (by omega) (numF0 hN) (Nat.lt_of_lt_of_le hi (okZ hM (by omega)).1)⟩) (fun k hk hN i hi => ?_) (by omega) (fun k hk hN i hi hz => low_C hM (by omega) (numF0 hN) hi), fun g hg => low_I σ j g (fun e => by subst e; revert hg; decide)⟩
  have hN : isNumK (σ.1 1 k) = true := hN
  have hi : i < szS σ k := hi
  obtain ⟨b1, b2, b3⟩ := hBd k hk hN i hi
  obtain ⟨a, ha, ea⟩ := hKd k hk
  by_cases ekj : k = j
  · subst ekj
    show -2147483648 ≤ ((stampLowF σ k).2 (3 * k + i)).toInt ∧ _ ∧ (σ.1 1 k = 3 → (stampLowF σ k).2 (3 * k + i) = 0 ∨ (stampLowF σ k).2 (3 * k + i) = 1)
    rw [show (stampLowF σ k).2 (3 * k + i) = bumpF (σ.1 1 k) (σ.2 (3 * k + i)) by rw [low_num (σ := σ) hN]; exact bumpN_at _ _ _ _ _ hi]
    rw [ea] at b3 hN ⊢
    exact bumpF_ok (numK_a ha hN) b1 b2 b3 h6.1 hB
  · have e : (stampLowF σ j).2 (3 * k + i) = σ.2 (3 * k + i) := by
      unfold stampLowF
      by_cases q : isNumF (σ.1 1 j) = 0
      · rw [if_pos q]; rfl
      · rw [if_neg q, bumpN_C _ _ _ _ _ (fun i' hi' e2 => by
          have := (okZ hM (show j < 60 by omega)).1
          have := (okZ hM (show k < 60 by omega)).1
          have : i < szS σ k := hi
          omega)]
        rfl
    show -2147483648 ≤ ((stampLowF σ j).2 (3 * k + i)).toInt ∧ ((stampLowF σ j).2 (3 * k + i)).toInt ≤ ((B + 1 : Nat) : Int) ∧ (σ.1 1 k = 3 → (stampLowF σ j).2 (3 * k + i) = 0 ∨ (stampLowF σ j).2 (3 * k + i) = 1)
    rw [e]
    exact ⟨b1, by omega, b3⟩
theorem turn_I (σ : Sg) (k : Nat) : (turnF σ k).1 = σ.1 := by
  unfold turnF
  split
  · rfl
  · split <;> rfl
theorem turn_C {σ : Sg} {k : Nat} (hok : okM σ) (hk : k < 60) {k' i : Nat} (hk' : k' < 60) (hi : i < szS σ k') : ∃ j : Nat, j < szS σ k' ∧ (turnF σ k).2 (3 * k' + i) = σ.2 (3 * k' + j) := by
  have hz := okZ hok hk
  have hz' := okZ hok hk'
  by_cases c2 : σ.1 2 k = 2
  · rw [turn_2 c2]
    have s2 : szS σ k = 2 := by unfold szS; rw [c2]; rfl
    show ∃ j : Nat, j < szS σ k' ∧ va_up (va_up σ.2 (3 * k) (σ.2 (3 * k + 1))) (3 * k + 1) (σ.2 (3 * k)) (3 * k' + i) = σ.2 (3 * k' + j)
    by_cases e1 : 3 * k' + i = 3 * k + 1
    · have ek : k' = k := by omega
      subst ek
      exact ⟨0, by omega, by rw [e1, va_up_self]; rfl⟩
    · rw [va_up_ne _ _ e1]
      by_cases e0 : 3 * k' + i = 3 * k
      · have ek : k' = k := by omega
        subst ek
        exact ⟨1, by omega, by rw [e0, va_up_self]⟩
      · exact ⟨i, hi, va_up_ne _ _ e0⟩
  · by_cases c3 : σ.1 2 k = 3
    · rw [turn_3 c3]
      have s2 : szS σ k = 3 := by unfold szS; rw [c3]; rfl
      show ∃ j : Nat, j < szS σ k' ∧ va_up (va_up σ.2 (3 * k) (σ.2 (3 * k + 2))) (3 * k + 2) (σ.2 (3 * k)) (3 * k' + i) = σ.2 (3 * k' + j)
      by_cases e1 : 3 * k' + i = 3 * k + 2
      · have ek : k' = k := by omega
        subst ek
        exact ⟨0, by omega, by rw [e1, va_up_self]; rfl⟩
      · rw [va_up_ne _ _ e1]
        by_cases e0 : 3 * k' + i = 3 * k
        · have ek : k' = k := by omega
          subst ek
          exact ⟨2, by omega, by rw [e0, va_up_self]⟩
        · exact ⟨i, hi, va_up_ne _ _ e0⟩
    · unfold turnF
      rw [if_neg c2, if_neg c3]
      exact ⟨i, hi, rfl⟩
theorem turn_J {σ : Sg} {k : Nat} (hok : okM σ) (hk : k < 60) {k' i : Nat} (hi : szS σ k' ≤ i) (h3 : i < 3) : (turnF σ k).2 (3 * k' + i) = σ.2 (3 * k' + i) := by
  by_cases c2 : σ.1 2 k = 2
  · rw [turn_2 c2]
    have s2 : szS σ k = 2 := by unfold szS; rw [c2]; rfl
    show va_up (va_up σ.2 (3 * k) (σ.2 (3 * k + 1))) (3 * k + 1) (σ.2 (3 * k)) (3 * k' + i) = _
    rw [va_up_ne _ _ (fun e => by have ek : k' = k := by omega
                                  subst ek
                                  omega), va_up_ne _ _ (fun e => by have ek : k' = k := by omega
                                                                    subst ek
                                                                    omega)]
  · by_cases c3 : σ.1 2 k = 3
    · rw [turn_3 c3]
      have s2 : szS σ k = 3 := by unfold szS; rw [c3]; rfl
      show va_up (va_up σ.2 (3 * k) (σ.2 (3 * k + 2))) (3 * k + 2) (σ.2 (3 * k)) (3 * k' + i) = _
      rw [va_up_ne _ _ (fun e => by have ek : k' = k := by omega
                                    subst ek
                                    omega), va_up_ne _ _ (fun e => by have ek : k' = k := by omega
                                                                      subst ek
                                                                      omega)]
    · unfold turnF
      rw [if_neg c2, if_neg c3]
theorem turn_Kp {σ : Sg} {B k : Nat} (h : INV σ B) (hk : k < nS σ) : Kp σ B (turnF σ k) := by
  have h0 := h
  obtain ⟨hM, hKd, hT, hH, hO, hU, hV, hBd, h6⟩ := h
  have hn := (okN hM).1
  refine ⟨INV_C h0 (fun g hg => by rw [turn_I]) (fun k' hk' hN i hi => turn_C hM (by omega) (by omega) hi) (fun k' hk' hN i hi => ?_) (Nat.le_refl _) (fun k' hk' hN i hi hz => turn_J hM (by omega) hz hi), fun g hg => by rw [turn_I]⟩
  obtain ⟨j, hj, e⟩ := turn_C hM (show k < 60 by omega) (show k' < 60 from by have : k' < nS σ := hk'; omega) hi
  show -2147483648 ≤ ((turnF σ k).2 (3 * k' + i)).toInt ∧ ((turnF σ k).2 (3 * k' + i)).toInt ≤ (B : Int) ∧ (σ.1 1 k' = 3 → (turnF σ k).2 (3 * k' + i) = 0 ∨ (turnF σ k).2 (3 * k' + i) = 1)
  rw [e]
  exact hBd k' hk' hN j hj
theorem step_nil {f : Sg → Nat → Sg} {σ : Sg} {a : Nat} (e : σ.2 a = -1) : stepF f σ a = σ := by
  unfold stepF
  rw [e, if_pos (by decide)]
theorem lN_cmp {q : Nat} (h : q < 2 ^ 31) : ¬ lg_cmp (lN q) (-1) = 0 := by
  intro e
  have : lN q = -1 := by
    unfold lg_cmp at e
    by_cases c1 : lN q > -1
    · rw [if_pos c1] at e; exact absurd e (by decide)
    · rw [if_neg c1] at e
      by_cases c2 : lN q = -1
      · exact c2
      · rw [if_neg c2] at e; exact absurd e (by decide)
  have h2 := lN_toInt h
  rw [this, show (-1 : Int64).toInt = -1 by decide] at h2
  omega
theorem step_q {f : Sg → Nat → Sg} {σ : Sg} {a q : Nat} (hq : q < 2 ^ 31) (e : σ.2 a = lN q) : stepF f σ a = f σ q := by
  unfold stepF
  rw [e, if_neg (lN_cmp hq), lN_32, ixn hq]
theorem each_Kp {f : Sg → Nat → Sg} {s k : Nat} (hf : ∀ (σ : Sg) (B q : Nat), INV σ B → B + s < 2 ^ 62 → q < nS σ → Kp σ (B + s) (f σ q)) : ∀ (y i : Nat) (σ : Sg) (B : Nat), INV σ B → B + y * s < 2 ^ 62 → k < nS σ → isNumK (σ.1 1 k) = false → i + y ≤ szS σ k → Kp σ (B + y * s) (eachF f k y i σ)
  | 0, i, σ, B, h, _, _, _, _ => by rw [Nat.zero_mul]; exact Kp.refl h
  | y + 1, i, σ, B, h, hB, hk, hN, hi => by
    have hst : Kp σ (B + s) (stepF f σ (3 * k + i)) := by
      rcases cell_or h.1 h.2.2.1 hk hN (show i < szS σ k by omega) with ⟨e, -⟩ | ⟨q, hq, hq6, e, -⟩
      · rw [step_nil e]; exact (Kp.refl h).mono (by omega)
      · rw [step_q (by omega) e]; exact hf σ B q h (by rw [Nat.succ_mul] at hB; omega) hq
    have hrec := each_Kp hf y (i + 1) (stepF f σ (3 * k + i)) (B + s) hst.1 (by rw [Nat.succ_mul] at hB; omega) (by rw [hst.n]; exact hk) (by rw [hst.2 1 (by decide)]; exact hN) (by rw [hst.sz]; omega)
    have h2 := hst.trans hrec
    rw [show B + s + y * s = B + (y + 1) * s by rw [Nat.succ_mul]; omega] at h2
    exact h2
theorem thK {κ : Int32} (h : ¬ isThF κ = 0) : isNumK κ = false := numK_F (th_num h)
theorem row_Kp {σ : Sg} {B j : Nat} (h : INV σ B) (hB : B + 4 < 2 ^ 62) (hj : j < nS σ) : Kp σ (B + 4) (stampRowF σ j) := by
  unfold stampRowF
  have hn := (okN h.1).1
  have hz := (okZ h.1 (show j < 60 by omega)).1
  by_cases c : isThF (σ.1 1 j) = 0
  · rw [if_pos c]; exact (low_Kp h (by omega) hj).mono (by omega)
  · rw [if_neg c]
    have h1 := low_Kp h (by omega) hj
    have h2 := each_Kp (k := j) (s := 1) (fun σ B q h hB hq => low_Kp h (by omega) hq) (szS σ j) 0 _ _ h1.1 (by omega) (by rw [h1.n]; exact hj) (by rw [h1.2 1 (by decide)]; exact thK c) (by rw [h1.sz]; omega)
    exact (h1.trans h2).mono (by omega)
theorem albK {κ : Int32} (h : 11 ≤ κ) : isNumK κ = false := numK_F (alb_num h)
theorem all_Kp {σ : Sg} {B j : Nat} (h : INV σ B) (hB : B + 12 < 2 ^ 62) (hj : j < nS σ) : Kp σ (B + 12) (stampAllF σ j) := by
  unfold stampAllF
  have hn := (okN h.1).1
  have hz := (okZ h.1 (show j < 60 by omega)).1
  by_cases c : 11 ≤ σ.1 1 j
  · rw [if_pos c]
    have h2 := each_Kp (k := j) (s := 4) (fun σ B q h hB hq => row_Kp h (by omega) hq) (szS σ j) 0 _ _ h (by omega) hj (albK c) (by omega)
    exact h2.mono (by omega)
  · rw [if_neg c]
    exact (row_Kp h (by omega) hj).mono (by omega)
-- a handing
def placesF (σ : Sg) (t : Nat) : Int32 := if isOneF (σ.1 1 t) = 0 then σ.1 2 t else 1
def wkF (σ : Sg) (d : Nat) : Sg := sI (sI σ 11 d (σ.1 11 d + 1)) 26 0 (σ.1 26 0 + 1)
def actF (sp : Sg → Nat → Sg) (d : Nat) (σ : Sg) (t : Nat) : Option Nat × Sg :=
  if σ.1 7 d = 0 then (some t, sI σ 9 d (σ.1 9 d + placesF σ t))
  else if σ.1 7 d = 1 then (some t, turnF σ t)
  else if σ.1 7 d = 2 then (some t, stampAllF σ t)
  else if σ.1 7 d = 3 then (some t, if isThF (σ.1 1 t) = 0 then σ else eachF sp t (szS σ t) 0 σ)
  else (dec (σ.1 10 d), sI σ 10 d (nI t))
def giveF (σ : Sg) (d t : Nat) : Sg := sI (sI (sI (sI σ 12 d (σ.1 12 d + 1)) 14 d 1) 13 d (nI t)) 19 0 (σ.1 19 0 + 1)
def meetF (sp : Sg → Nat → Sg) (d : Nat) (σ : Sg) (t : Nat) : Option Nat × Sg :=
  if goesF (σ.1 1 t) (σ.1 6 d) = 0 then
    (if σ.1 8 d = 0 then (if σ.1 14 d = 0 then (none, giveF σ d t) else (some t, σ)) else (some t, σ))
  else actF sp d (wkF σ d) t
def goO (sp : Sg → Nat → Sg) (r : Nat) : Nat → Nat → Option Nat → Sg → Option Nat × Sg
  | 0, _, o, σ => (o, σ)
  | _ + 1, _, none, σ => (none, σ)
  | m + 1, a, some t, σ => if a < dcS σ r then goO sp r m (a + 1) (meetF sp (4 * r + a) σ t).1 (meetF sp (4 * r + a) σ t).2 else goO sp r m (a + 1) (some t) σ
def passF : Nat → Nat → Sg → Nat → Option Nat × Sg
  | 0, _, σ, _ => (none, σ)
  | n + 1, r, σ, t => goO (fun σ q => (passF n (r + 1) σ q).2) r 4 0 (some t) σ
def cN : Nat → Nat
  | 0 => 0
  | n + 1 => 4 * (12 + 3 * cN n)
theorem wk_Kp {σ : Sg} {B d : Nat} (h : INV σ B) : Kp σ B (wkF σ d) := (Kp_sI (f := 11) (by decide) h).trans (Kp_sI (f := 26) (by decide) (Kp_sI (f := 11) (by decide) h).1)
def Sp (s : Nat) (sp : Sg → Nat → Sg) : Prop := ∀ (σ : Sg) (B q : Nat), INV σ B → B + s < 2 ^ 62 → q < nS σ → Kp σ (B + s) (sp σ q)
theorem held_lt {σ : Sg} {B r a t : Nat} (h : INV σ B) (hr : r < 8) (ha : a < dcS σ r) (e : dec (σ.1 10 (4 * r + a)) = some t) : t < nS σ := by
  have hn := (okN h.1).1
  rcases (h.2.2.2.1 r a hr ha).1 with q | ⟨q, hq, e2⟩
  · rw [q, dec_m1] at e; cases e
  · rw [e2, dec_nI (by omega)] at e; cases e; exact hq
theorem act_Kp {sp : Sg → Nat → Sg} {s : Nat} (hsp : Sp s sp) {σ : Sg} {B r a t : Nat} (h : INV σ B) (hB : B + (12 + 3 * s) < 2 ^ 62) (hr : r < 8) (ha : a < dcS σ r) (ht : t < nS σ) : Kp σ (B + (12 + 3 * s)) (actF sp (4 * r + a) σ t).2 ∧ ∀ t' : Nat, (actF sp (4 * r + a) σ t).1 = some t' → t' < nS σ := by
  have hn := (okN h.1).1
  have hz := (okZ h.1 (show t < 60 by omega)).1
  unfold actF
  by_cases c0 : σ.1 7 (4 * r + a) = 0
  · rw [if_pos c0]; exact ⟨(Kp_sI (f := 9) (by decide) h).mono (by omega), fun t' e => by cases e; exact ht⟩
  · rw [if_neg c0]
    by_cases c1 : σ.1 7 (4 * r + a) = 1
    · rw [if_pos c1]; exact ⟨(turn_Kp h ht).mono (by omega), fun t' e => by cases e; exact ht⟩
    · rw [if_neg c1]
      by_cases c2 : σ.1 7 (4 * r + a) = 2
      · rw [if_pos c2]; exact ⟨(all_Kp h (by omega) ht).mono (by omega), fun t' e => by cases e; exact ht⟩
      · rw [if_neg c2]
        by_cases c3 : σ.1 7 (4 * r + a) = 3
        · rw [if_pos c3]
          refine ⟨?_, fun t' e => by cases e; exact ht⟩
          by_cases cT : isThF (σ.1 1 t) = 0
          · rw [if_pos cT]; exact (Kp.refl h).mono (by omega)
          · rw [if_neg cT]
            have hm : szS σ t * s ≤ 3 * s := Nat.mul_le_mul_right s hz
            exact (each_Kp hsp (szS σ t) 0 σ B h (by omega) ht (thK cT) (by omega)).mono (by omega)
        · rw [if_neg c3]
          exact ⟨(Kp_held h ht).mono (by omega), fun t' e => held_lt h hr ha e⟩
theorem give_Kp {σ : Sg} {B r a t : Nat} (h : INV σ B) (hM4 : a < 4) (ha : a < dcS σ r) (ht : t < nS σ) : Kp σ B (giveF σ (4 * r + a) t) := by
  have k1 : Kp σ B (sI σ 12 (4 * r + a) (σ.1 12 (4 * r + a) + 1)) := Kp_sI (f := 12) (by decide) h
  have k2 := Kp_gave (r := r) (d := a) k1.1 hM4 (by rw [k1.dc]; exact ha)
  have k3 := Kp_last (r := r) (d := a) (q := t) k2.1 (by rw [k2.n, k1.n]; exact ht)
  have k4 := Kp_sI (f := 19) (i := 0) (v := σ.1 19 0 + 1) (by decide) k3.1
  exact ((k1.trans k2).trans k3).trans k4
theorem meet_Kp {sp : Sg → Nat → Sg} {s : Nat} (hsp : Sp s sp) {σ : Sg} {B r a t : Nat} (h : INV σ B) (hB : B + (12 + 3 * s) < 2 ^ 62) (hr : r < 8) (ha : a < dcS σ r) (ht : t < nS σ) : Kp σ (B + (12 + 3 * s)) (meetF sp (4 * r + a) σ t).2 ∧ ∀ t' : Nat, (meetF sp (4 * r + a) σ t).1 = some t' → t' < nS σ := by
  have h4 := (okD h.1 hr).1
  unfold meetF
  by_cases c0 : goesF (σ.1 1 t) (σ.1 6 (4 * r + a)) = 0
  · rw [if_pos c0]
    by_cases c1 : σ.1 8 (4 * r + a) = 0
    · rw [if_pos c1]
      by_cases c2 : σ.1 14 (4 * r + a) = 0
      · rw [if_pos c2]; exact ⟨(give_Kp h (by omega) ha ht).mono (by omega), fun t' e => by cases e⟩
      · rw [if_neg c2]; exact ⟨(Kp.refl h).mono (by omega), fun t' e => by cases e; exact ht⟩
    · rw [if_neg c1]; exact ⟨(Kp.refl h).mono (by omega), fun t' e => by cases e; exact ht⟩
  · rw [if_neg c0]
    have k := wk_Kp (d := 4 * r + a) h
    obtain ⟨q1, q2⟩ := act_Kp hsp k.1 hB hr (show a < dcS (wkF σ (4 * r + a)) r by rw [k.dc]; exact ha) (show t < nS (wkF σ (4 * r + a)) by rw [k.n]; exact ht)
    exact ⟨k.trans q1, fun t' e => by rw [← k.n]; exact q2 t' e⟩
theorem go_Kp {sp : Sg → Nat → Sg} {s r : Nat} (hsp : Sp s sp) (hr : r < 8) : ∀ (m a : Nat) (o : Option Nat) (σ : Sg) (B : Nat), INV σ B → B + m * (12 + 3 * s) < 2 ^ 62 → (∀ t : Nat, o = some t → t < nS σ) → Kp σ (B + m * (12 + 3 * s)) (goO sp r m a o σ).2 ∧ ∀ t' : Nat, (goO sp r m a o σ).1 = some t' → t' < nS σ
  | 0, a, o, σ, B, h, hB, ho => ⟨by rw [Nat.zero_mul]; exact Kp.refl h, ho⟩
  | m + 1, a, none, σ, B, h, hB, ho => ⟨(Kp.refl h).mono (by omega), fun t' e => by cases e⟩
  | m + 1, a, some t, σ, B, h, hB, ho => by
    unfold goO
    have ht := ho t rfl
    by_cases c : a < dcS σ r
    · rw [if_pos c]
      obtain ⟨q1, q2⟩ := meet_Kp hsp h (by rw [Nat.succ_mul] at hB; omega) hr c ht
      obtain ⟨p1, p2⟩ := go_Kp hsp hr m (a + 1) _ _ _ q1.1 (by rw [Nat.succ_mul] at hB; omega) (fun t' e => by rw [q1.n]; exact q2 t' e)
      have p3 := q1.trans p1
      rw [show B + (12 + 3 * s) + m * (12 + 3 * s) = B + (m + 1) * (12 + 3 * s) by rw [Nat.succ_mul m (12 + 3 * s)]; omega] at p3
      exact ⟨p3, fun t' e => by rw [← q1.n]; exact p2 t' e⟩
    · rw [if_neg c]
      obtain ⟨p1, p2⟩ := go_Kp hsp hr m (a + 1) (some t) σ B h (by rw [Nat.succ_mul] at hB; omega) ho
      exact ⟨p1.mono (by rw [Nat.succ_mul m (12 + 3 * s)]; omega), p2⟩
theorem pass_Kp : ∀ (n r : Nat) (σ : Sg) (B t : Nat), r + n = 8 → INV σ B → B + cN n < 2 ^ 62 → t < nS σ → Kp σ (B + cN n) (passF n r σ t).2 ∧ ∀ t' : Nat, (passF n r σ t).1 = some t' → t' < nS σ
  | 0, r, σ, B, t, e, h, hB, ht => ⟨Kp.refl h, fun t' e => by cases e⟩
  | n + 1, r, σ, B, t, e, h, hB, ht => by
    have hsp : Sp (cN n) (fun σ q => (passF n (r + 1) σ q).2) := fun σ B q h hB hq => (pass_Kp n (r + 1) σ B q (by omega) h hB hq).1
    exact go_Kp hsp (by omega) 4 0 (some t) σ B h hB (fun t' e => by cases e; exact ht)
theorem Sp_pass {n r : Nat} (e : r + n = 8) : Sp (cN n) (fun σ q => (passF n r σ q).2) := fun σ B q h hB hq => (pass_Kp n r σ B q e h hB hq).1
