/-! the invariant is kept by every call; the two worlds, one state -/
theorem INV_acc {σ : Sg} {B : Nat} (h : INV σ B) : INV (acc σ) B := (Kp_sI (f := 15) (by decide) h).1
theorem INV_ref {σ : Sg} {B : Nat} (y : Int32) (h : INV σ B) : INV (refuseM σ y) B := by
  unfold refuseM
  exact (Kp_sI (f := 18) (by decide) (Kp_sI (f := 17) (by decide) (Kp_sI (f := 16) (by decide) (Kp_sI (f := 15) (by decide) h).1).1).1).1
theorem mkS_sz {σ : Sg} {n : Nat} {k z : Int32} (i : Nat) : szS (mkS σ n k z) i = if i = n then ix (if isOneF k = 0 then z else 0) else szS σ i := by
  unfold szS
  rw [mkS_2]
  by_cases h : i = n
  · rw [if_pos h, if_pos h]
  · rw [if_neg h, if_neg h]
theorem INV_mk {σ : Sg} {B n : Nat} {k z : Int32} (h : INV σ B) (en : nS σ = n) (h60 : n < 60) (hk : ∃ a : Nat, a ≤ 12 ∧ k = nI a) (hz : isOneK k = true ∨ (isOneK k = false ∧ ∃ c : Nat, c ≤ 3 ∧ z = nI c)) : INV (mkS σ n k z) B := by
  obtain ⟨hM, hKd, hT, hH, hO, hU, hV, hB, h6, hJ⟩ := h
  have hn1 : nS (mkS σ n k z) = n + 1 := mkS_n h60
  have hnew : ∃ c : Nat, c ≤ 3 ∧ (if isOneF k = 0 then z else 0) = nI c ∧ (isOneK k = true → c = 0) := by
    rcases hz with hO | ⟨hO, c, hc, e⟩
    · exact ⟨0, by omega, by rw [oneF1 hO, if_neg (by decide)]; rfl, fun _ => rfl⟩
    · exact ⟨c, hc, by rw [oneF0 hO, if_pos rfl, e], fun h => by rw [hO] at h; cases h⟩
  obtain ⟨c, hc, ec, ec0⟩ := hnew
  have sn : szS (mkS σ n k z) n = c := by rw [mkS_sz, if_pos rfl, ec]; exact ixn (by omega)
  have so : ∀ i : Nat, i ≠ n → szS (mkS σ n k z) i = szS σ i := fun i hi => by rw [mkS_sz, if_neg hi]
  have s3 : ∀ i : Nat, i < n → szS σ i ≤ 3 := fun i hi => (okZ hM (by omega)).1
  have k1 : (mkS σ n k z).1 1 n = k := by rw [mkS_1, if_pos rfl]
  have ko : ∀ i : Nat, i ≠ n → (mkS σ n k z).1 1 i = σ.1 1 i := fun i hi => by rw [mkS_1, if_neg hi]
  have Co : ∀ i j : Nat, j < 3 → i ≠ n → (mkS σ n k z).2 (3 * i + j) = σ.2 (3 * i + j) := fun i j hj hi => by rw [mkS_C i j hj, if_neg hi]
  have Cn : ∀ j : Nat, j < 3 → (mkS σ n k z).2 (3 * n + j) = if isThF k = 0 then 0 else -1 := fun j hj => by rw [mkS_C n j hj, if_pos rfl]
  have dc : ∀ r : Nat, dcS (mkS σ n k z) r = dcS σ r := fun r => by unfold dcS; rw [mkS_ne (by decide)]
  refine ⟨⟨⟨n + 1, by omega, mkS_0⟩, fun i hi => ?_, fun r hr => by rw [mkS_ne (by decide)]; exact hM.2.2 r hr⟩, fun i hi => ?_, fun i hi hN j hj => ?_, fun r d hr hd => ?_, fun i hi hO' => ?_, fun i h1 h2 => ?_, fun r d hr hd => ?_, fun i hi hN j hj => ?_, h6, fun i hi hT' j hj hs => ?_⟩
  · rw [mkS_2]
    by_cases e : i = n
    · rw [if_pos e]; exact ⟨c, hc, ec⟩
    · rw [if_neg e]; exact hM.2.1 i hi
  · rw [hn1] at hi
    by_cases e : i = n
    · subst e; rw [k1]; exact hk
    · rw [ko i e]; exact hKd i (by omega)
  · rw [hn1] at hi
    by_cases e : i = n
    · subst e
      rw [k1] at hN
      rw [sn] at hj
      have hO' : isOneK k = false := by
        cases hq : isOneK k with
        | false => rfl
        | true => have := ec0 hq; omega
      left
      rw [Cn j (by omega), thF2 (numK_F hN) hO', if_neg (by decide)]
    · rw [ko i e] at hN
      rw [so i e] at hj
      have := s3 i (by omega)
      rw [Co i j (by omega) e, hn1, ko i e]
      rcases hT i (by omega) hN j hj with h | ⟨q, hq, h1, h2⟩
      · exact Or.inl h
      · exact Or.inr ⟨q, by omega, h1, by rw [ko q (by omega)]; exact h2⟩
  · rw [dc] at hd
    rw [mkS_ne (f := 10) (by decide), mkS_ne (f := 13) (by decide), mkS_ne (f := 6) (by decide), mkS_ne (f := 7) (by decide), mkS_ne (f := 8) (by decide), hn1]
    obtain ⟨a1, a2, a3⟩ := hH r d hr hd
    exact ⟨a1.imp id (fun ⟨q, h1, h2⟩ => ⟨q, by omega, h2⟩), a2.imp id (fun ⟨q, h1, h2⟩ => ⟨q, by omega, h2⟩), a3⟩
  · rw [hn1] at hi
    rw [mkS_2]
    by_cases e : i = n
    · subst e
      rw [k1] at hO'
      rw [if_pos rfl, ec, ec0 hO']
      rfl
    · rw [ko i e] at hO'
      rw [if_neg e]
      exact hO i (by omega) hO'
  · rw [hn1] at h1
    rw [mkS_2, if_neg (by omega)]
    exact hU i (by omega) h2
  · rw [mkS_ne (f := 14) (by decide), dc]
    exact hV r d hr hd
  · rw [hn1] at hi
    by_cases e : i = n
    · subst e
      rw [k1] at hN
      rw [sn] at hj
      rw [Cn j (by omega), thF0 hN, if_pos rfl]
      exact ⟨by decide, by show (0 : Int) ≤ _; omega, fun _ => Or.inl rfl⟩
    · rw [ko i e] at hN ⊢
      rw [so i e] at hj
      have := s3 i (by omega)
      rw [Co i j (by omega) e]
      exact hB i (by omega) hN j hj
  · rw [hn1] at hi
    by_cases e : i = n
    · subst e
      rw [k1] at hT'
      rw [Cn j hj, if_neg hT']
    · rw [ko i e] at hT'
      rw [so i e] at hs
      rw [Co i j hj e]
      exact hJ i (by omega) hT' j hj hs
theorem kind_12 {k : Int32} (h0 : ¬ k < 0) (h12 : k ≤ 12) : ∃ a : Nat, a ≤ 12 ∧ k = nI a := by
  rcases pk_ix k (n := 13) (by decide) with h | h | ⟨j, hj, e⟩
  · exact absurd h h0
  · rw [Int32.le_iff_toInt_le] at h h12
    have e1 : (nI 13 : Int32).toInt = 13 := by decide
    have e2 : (12 : Int32).toInt = 12 := by decide
    omega
  · exact ⟨j, by omega, e⟩
theorem INV_make {σ : Sg} {B : Nat} (k z : Int32) (h : INV σ B) : INV (makeM σ (nS σ) k z).2 B := by
  by_cases hk : k < 0 ∨ ¬ k ≤ 12
  · rw [mk_kind (fun h1 => hk.elim (fun q => absurd q h1) id)]
    exact INV_ref _ h
  have h0 : ¬ k < 0 := fun q => hk (Or.inl q)
  have h12 : k ≤ 12 := Classical.byContradiction (fun q => hk (Or.inr q))
  have hn := okN h.1
  by_cases hp : isPieceF k = 0
  · rcases z_4 z with hz | ⟨z, hz, rfl⟩
    · rw [mk_size h0 h12 hp (fun h1 h2 => hz.elim (fun q => absurd q h1) (fun q => by
          rw [Int32.le_iff_toInt_le] at q h2
          have e1 : (nI 4 : Int32).toInt = 4 := by decide
          have e2 : (3 : Int32).toInt = 3 := by decide
          omega))]
      exact INV_ref _ h
    · rw [mk_row h0 h12 hp (by omega)]
      rcases Nat.lt_or_ge (nS σ) 60 with h60 | h60
      · rw [mkB_ok h60]
        exact INV_acc (INV_mk h rfl h60 (kind_12 h0 h12) (Or.inr ⟨pc_row hp, z, by omega, rfl⟩))
      · rw [show nS σ = 60 by omega, mkB_full]
        exact INV_ref _ h
  · rw [mk_one h0 h12 hp]
    rcases Nat.lt_or_ge (nS σ) 60 with h60 | h60
    · rw [mkB_ok h60]
      exact INV_acc (INV_mk h rfl h60 (kind_12 h0 h12) (Or.inl (pc_one hp).2))
    · rw [show nS σ = 60 by omega, mkB_full]
      exact INV_ref _ h
-- cells
theorem ix_3 {k i k' j : Nat} (hi : i < 3) (hj : j < 3) (e : 3 * k + i = 3 * k' + j) : k = k' ∧ i = j := by omega
theorem INV_num {σ : Sg} {B k j : Nat} {v : Int64} (h : INV σ B) (hk : k < nS σ) (hN : isNumK (σ.1 1 k) = true) (hj : j < szS σ k) (hv : -2147483648 ≤ v.toInt ∧ v.toInt ≤ (B : Int) ∧ (σ.1 1 k = 3 → v = 0 ∨ v = 1)) : INV (sC σ (3 * k + j) v) B := by
  have hn := (okN h.1).1
  have s3 : ∀ i : Nat, i < nS σ → szS σ i ≤ 3 := fun i hi => (okZ h.1 (by omega)).1
  have hk3 := s3 k hk
  refine INV_C h (fun _ _ => rfl) (fun k' hk' hN' i hi => ⟨i, hi, ?_⟩) (fun k' hk' hN' i hi => ?_) (Nat.le_refl _) (fun k' hk' hN' i hi hz => ?_)
  · refine va_up_ne _ _ (fun e => ?_)
    have := s3 k' hk'
    obtain ⟨rfl, -⟩ := ix_3 (by omega) (by omega) e
    rw [hN] at hN'; cases hN'
  · have hN' : isNumK (σ.1 1 k') = true := hN'
    have hi : i < szS σ k' := hi
    have hk' : k' < nS σ := hk'
    have := s3 k' hk'
    show -2147483648 ≤ (va_up σ.2 (3 * k + j) v (3 * k' + i)).toInt ∧ (va_up σ.2 (3 * k + j) v (3 * k' + i)).toInt ≤ (B : Int) ∧ (σ.1 1 k' = 3 → va_up σ.2 (3 * k + j) v (3 * k' + i) = 0 ∨ va_up σ.2 (3 * k + j) v (3 * k' + i) = 1)
    by_cases e : 3 * k' + i = 3 * k + j
    · obtain ⟨rfl, rfl⟩ := ix_3 (by omega) (by omega) e
      rw [va_up_self]
      exact hv
    · rw [va_up_ne _ _ e]
      exact h.2.2.2.2.2.2.2.1 k' hk' hN' i hi
  · refine va_up_ne _ _ (fun e => ?_)
    obtain ⟨rfl, -⟩ := ix_3 hi (by omega) e
    rw [hN] at hN'; cases hN'
theorem INV_th {σ : Sg} {B k j : Nat} {v : Int64} (h : INV σ B) (hk : k < nS σ) (hT : ¬ isThF (σ.1 1 k) = 0) (hj : j < szS σ k) (hv : v = -1 ∨ ∃ q : Nat, q < nS σ ∧ v = lN q ∧ ¬ goesF (σ.1 1 q) (holdsF (σ.1 1 k)) = 0) : INV (sC σ (3 * k + j) v) B := by
  have hn := (okN h.1).1
  have s3 : ∀ i : Nat, i < nS σ → szS σ i ≤ 3 := fun i hi => (okZ h.1 (by omega)).1
  have hk3 := s3 k hk
  have hN := thK hT
  obtain ⟨hM, hKd, hT0, hH, hO, hU, hV, hB, h6, hJ⟩ := h
  refine ⟨hM, hKd, fun k' hk' hN' i hi => ?_, hH, hO, hU, hV, fun k' hk' hN' i hi => ?_, h6, fun k' hk' hT' i hi hs => ?_⟩
  · have hi : i < szS σ k' := hi
    have hk' : k' < nS σ := hk'
    have := s3 k' hk'
    show va_up σ.2 (3 * k + j) v (3 * k' + i) = -1 ∨ ∃ q : Nat, q < nS σ ∧ va_up σ.2 (3 * k + j) v (3 * k' + i) = lN q ∧ ¬ goesF (σ.1 1 q) (holdsF (σ.1 1 k')) = 0
    by_cases e : 3 * k' + i = 3 * k + j
    · obtain ⟨rfl, rfl⟩ := ix_3 (by omega) (by omega) e
      rw [va_up_self]
      exact hv
    · rw [va_up_ne _ _ e]
      exact hT0 k' hk' hN' i hi
  · have hN' : isNumK (σ.1 1 k') = true := hN'
    have hi : i < szS σ k' := hi
    have hk' : k' < nS σ := hk'
    have := s3 k' hk'
    show -2147483648 ≤ (va_up σ.2 (3 * k + j) v (3 * k' + i)).toInt ∧ (va_up σ.2 (3 * k + j) v (3 * k' + i)).toInt ≤ (B : Int) ∧ (σ.1 1 k' = 3 → va_up σ.2 (3 * k + j) v (3 * k' + i) = 0 ∨ va_up σ.2 (3 * k + j) v (3 * k' + i) = 1)
    rw [va_up_ne _ _ (fun e => by
      obtain ⟨rfl, -⟩ := ix_3 (by omega) (by omega) e
      exact absurd (hN.symm.trans hN') (by decide))]
    exact hB k' hk' hN' i hi
  · have hs : szS σ k' ≤ i := hs
    have hk' : k' < nS σ := hk'
    show va_up σ.2 (3 * k + j) v (3 * k' + i) = -1
    rw [va_up_ne _ _ (fun e => by
      obtain ⟨rfl, rfl⟩ := ix_3 hi (by omega) e
      omega)]
    exact hJ k' hk' hT' i hi hs
theorem kept_ok {a B : Nat} (v : Int32) (ha : a ≤ 3) (hB : 2147483648 ≤ B) : -2147483648 ≤ (keptF (nI a) v.toInt64).toInt ∧ (keptF (nI a) v.toInt64).toInt ≤ (B : Int) ∧ (nI a = 3 → keptF (nI a) v.toInt64 = 0 ∨ keptF (nI a) v.toInt64 = 1) := by
  rcases (show a = 0 ∨ a = 1 ∨ a = 2 ∨ a = 3 by omega) with rfl | rfl | rfl | rfl
  · show -2147483648 ≤ (v.toInt64 &&& 65535).toInt ∧ (v.toInt64 &&& 65535).toInt ≤ _ ∧ ((0 : Int32) = 3 → _)
    have hm := Nat.mod_lt v.toInt64.toBitVec.toNat (show 0 < 65536 by decide)
    rw [and16, lN_toInt (by omega)]
    exact ⟨by omega, by omega, fun e => absurd e (by decide)⟩
  · show -2147483648 ≤ (v.toInt64.toInt32.toInt16.toInt32.toInt64).toInt ∧ (v.toInt64.toInt32.toInt16.toInt32.toInt64).toInt ≤ _ ∧ ((1 : Int32) = 3 → _)
    rw [Int32.toInt_toInt64, Int16.toInt_toInt32]
    have l1 := Int16.le_toInt v.toInt64.toInt32.toInt16
    have l2 := Int16.toInt_lt v.toInt64.toInt32.toInt16
    exact ⟨by omega, by omega, fun e => absurd e (by decide)⟩
  · show -2147483648 ≤ (v.toInt64).toInt ∧ (v.toInt64).toInt ≤ _ ∧ ((2 : Int32) = 3 → _)
    rw [Int32.toInt_toInt64]
    have l1 := Int32.le_toInt v
    have l2 := Int32.toInt_lt v
    exact ⟨by omega, by omega, fun e => absurd e (by decide)⟩
  · show -2147483648 ≤ (if lg_cmp v.toInt64 0 = 0 then (0 : Int64) else 1).toInt ∧ (if lg_cmp v.toInt64 0 = 0 then (0 : Int64) else 1).toInt ≤ _ ∧ (_ → (if lg_cmp v.toInt64 0 = 0 then (0 : Int64) else 1) = 0 ∨ (if lg_cmp v.toInt64 0 = 0 then (0 : Int64) else 1) = 1)
    by_cases q : lg_cmp v.toInt64 0 = 0
    · rw [if_pos q]
      exact ⟨by decide, by show (0 : Int) ≤ _; omega, fun _ => Or.inl rfl⟩
    · rw [if_neg q]
      exact ⟨by decide, by show (1 : Int) ≤ _; omega, fun _ => Or.inr rfl⟩
theorem INV_put {σ : Sg} {B : Nat} (t i v : Int32) (h : INV σ B) (hB : 2147483648 ≤ B) : INV (putM σ t i v).2 B := by
  rcases item_or σ t (okN h.1).1 with hv | ⟨k, hn, h6, rfl⟩
  · rw [put_none h.1 hv]; exact INV_ref _ h
  · cases hN : isNumK (σ.1 1 k) with
    | false => rw [put_cast h.1 hn h6 hN]; exact INV_ref _ h
    | true =>
      rcases place_or (szS σ k) i (okZ h.1 h6).1 with hi | ⟨j, hj, rfl⟩
      · rw [put_index h.1 hn h6 hN hi]; exact INV_ref _ h
      · rw [put_ok h.1 hn h6 hN hj]
        refine INV_num (σ := acc σ) (INV_acc h) hn hN hj ?_
        obtain ⟨a, ha, ea⟩ := h.2.1 k hn
        show -2147483648 ≤ (keptF (σ.1 1 k) v.toInt64).toInt ∧ (keptF (σ.1 1 k) v.toInt64).toInt ≤ (B : Int) ∧ (σ.1 1 k = 3 → keptF (σ.1 1 k) v.toInt64 = 0 ∨ keptF (σ.1 1 k) v.toInt64 = 1)
        rw [ea] at hN ⊢
        exact kept_ok v (numK_a ha hN) hB
theorem INV_get {σ : Sg} {B : Nat} (t i : Int32) (h : INV σ B) : INV (getM σ t i).2 B := by
  unfold getM
  split
  · exact INV_acc h
  · exact INV_ref _ (INV_acc h)
theorem INV_at {σ : Sg} {B : Nat} (t i : Int32) (h : INV σ B) : INV (atM σ t i).2 B := by
  unfold atM
  split
  · exact INV_acc h
  · exact INV_ref _ (INV_acc h)
theorem INV_is {σ : Sg} {B : Nat} (t f : Int32) (h : INV σ B) : INV (isM σ t f).2 B := by
  unfold isM
  split
  · exact INV_ref _ (INV_acc h)
  · split
    · exact INV_ref _ (INV_acc h)
    · split
      · exact INV_acc h
      · exact INV_acc h
theorem INV_stamps {σ : Sg} {B : Nat} (t : Int32) (h : INV σ B) : INV (stampsM σ t).2 B := by
  unfold stampsM
  split
  · exact INV_acc h
  · exact INV_ref _ (INV_acc h)
theorem nI_64 {q : Nat} (h : q < 60) : (nI q).toInt64 = lN q := by
  rw [← Int64.toInt_inj, Int32.toInt_toInt64, lN_toInt (by omega)]
  exact nI_toInt (by omega)
theorem INV_lay2 {σ : Sg} {B k : Nat} (i x : Int32) (h : INV σ B) (hk : k < nS σ) (hx : x = -1 ∨ ∃ q : Nat, q < nS σ ∧ x = nI q) : INV (layM2 σ (nI k) i x).2 B := by
  have hn := (okN h.1).1
  have k31 : k < 2 ^ 31 := by omega
  unfold layM2
  by_cases c0 : wrongM σ (nI k) i (layOK σ (nI k) x) = 0
  · rw [if_pos c0]
    have hL : ¬ layOK σ (nI k) x = 0 := fun e => by rw [e, wrong_0] at c0; exact absurd c0 (by decide)
    have hT : ¬ isThF (σ.1 1 k) = 0 := fun e => hL (by unfold layOK; rw [ixn k31, if_pos e])
    rcases place_or (szS σ k) i (okZ h.1 (by omega)).1 with hi | ⟨j, hj, rfl⟩
    · rw [wrong_out h.1 (by omega) hi hL] at c0
      exact absurd c0 (by decide)
    · have h3 := (okZ h.1 (show k < 60 by omega)).1
      rw [ix3n (by omega) (by omega), ixn k31]
      rcases hx with rfl | ⟨q, hq, rfl⟩
      · rw [if_pos rfl]
        exact INV_th h hk hT hj (Or.inl (by decide))
      · rw [if_neg (nI_m1 (by omega)), ixn (show q < 2 ^ 31 by omega)]
        by_cases cg : goesF (σ.1 1 q) (holdsF (σ.1 1 k)) = 0
        · rw [if_pos cg]; exact INV_ref _ h
        · rw [if_neg cg]
          exact INV_th h hk hT hj (Or.inr ⟨q, hq, nI_64 (by omega), cg⟩)
  · rw [if_neg c0]
    exact INV_ref _ h
theorem INV_lay {σ : Sg} {B : Nat} (t i x : Int32) (h : INV σ B) : INV (layM σ t i x).2 B := by
  have hn := (okN h.1).1
  rcases item_or σ t hn with hv | ⟨k, hk, h6, rfl⟩
  · rw [lay_none h.1 hv]; exact INV_ref _ h
  · by_cases e : x = -1
    · subst e
      rw [lay_nil h.1 hk]
      exact INV_lay2 (σ := acc σ) _ _ (INV_acc h) hk (Or.inl rfl)
    · rcases item_or σ x hn with hv | ⟨q, hq, h7, rfl⟩
      · rw [lay_bad h.1 hk hv e]; exact INV_ref _ h
      · rw [lay_q h.1 hk hq]
        exact INV_lay2 (σ := acc σ) _ _ (INV_acc h) hk (Or.inr ⟨q, hq, rfl⟩)
-- desks
theorem INV_s6 {σ : Sg} {B i : Nat} {v : Int32} (h : INV σ B) (hv : ∃ a : Nat, a ≤ 13 ∧ v = nI a) : INV (sI σ 6 i v) B := by
  obtain ⟨hM, hKd, hT, hH, hO, hU, hV, hB, h6⟩ := h
  refine ⟨hM, hKd, hT, fun r d hr hd => ?_, hO, hU, hV, hB, h6⟩
  obtain ⟨a1, a2, a3, a4, a5⟩ := hH r d hr hd
  refine ⟨a1, a2, ?_, a4, a5⟩
  by_cases e : 4 * r + d = i
  · subst e; rw [sI_at]; exact hv
  · rw [sI_off _ _ _ e]; exact a3
theorem INV_s7 {σ : Sg} {B i : Nat} {v : Int32} (h : INV σ B) (hv : ∃ a : Nat, a ≤ 4 ∧ v = nI a) : INV (sI σ 7 i v) B := by
  obtain ⟨hM, hKd, hT, hH, hO, hU, hV, hB, h6⟩ := h
  refine ⟨hM, hKd, hT, fun r d hr hd => ?_, hO, hU, hV, hB, h6⟩
  obtain ⟨a1, a2, a3, a4, a5⟩ := hH r d hr hd
  refine ⟨a1, a2, a3, ?_, a5⟩
  by_cases e : 4 * r + d = i
  · subst e; rw [sI_at]; exact hv
  · rw [sI_off _ _ _ e]; exact a4
theorem INV_s8 {σ : Sg} {B i : Nat} {v : Int32} (h : INV σ B) (hv : v = 0 ∨ v = 1) : INV (sI σ 8 i v) B := by
  obtain ⟨hM, hKd, hT, hH, hO, hU, hV, hB, h6⟩ := h
  refine ⟨hM, hKd, hT, fun r d hr hd => ?_, hO, hU, hV, hB, h6⟩
  obtain ⟨a1, a2, a3, a4, a5⟩ := hH r d hr hd
  refine ⟨a1, a2, a3, a4, ?_⟩
  by_cases e : 4 * r + d = i
  · subst e; rw [sI_at]; exact hv
  · rw [sI_off _ _ _ e]; exact a5
theorem INV_s10 {σ : Sg} {B i : Nat} (h : INV σ B) : INV (sI σ 10 i (-1)) B := by
  obtain ⟨hM, hKd, hT, hH, hO, hU, hV, hB, h6⟩ := h
  refine ⟨hM, hKd, hT, fun r d hr hd => ?_, hO, hU, hV, hB, h6⟩
  obtain ⟨a1, a2⟩ := hH r d hr hd
  refine ⟨?_, a2⟩
  by_cases e : 4 * r + d = i
  · subst e; rw [sI_at]; exact Or.inl rfl
  · rw [sI_off _ _ _ e]; exact a1
theorem INV_s13 {σ : Sg} {B i : Nat} (h : INV σ B) : INV (sI σ 13 i (-1)) B := by
  obtain ⟨hM, hKd, hT, hH, hO, hU, hV, hB, h6⟩ := h
  refine ⟨hM, hKd, hT, fun r d hr hd => ?_, hO, hU, hV, hB, h6⟩
  obtain ⟨a1, a2, a3⟩ := hH r d hr hd
  refine ⟨a1, ?_, a3⟩
  by_cases e : 4 * r + d = i
  · subst e; rw [sI_at]; exact Or.inl rfl
  · rw [sI_off _ _ _ e]; exact a2
theorem INV_s5 {σ : Sg} {B r c : Nat} (h : INV σ B) (hr8 : r < 8) (h4 : c < 4) (ec : dcS σ r = c) (e10 : σ.1 10 (4 * r + c) = -1) (e13 : σ.1 13 (4 * r + c) = -1) (e6 : ∃ a : Nat, a ≤ 13 ∧ σ.1 6 (4 * r + c) = nI a) (e7 : ∃ a : Nat, a ≤ 4 ∧ σ.1 7 (4 * r + c) = nI a) (e8 : σ.1 8 (4 * r + c) = 0 ∨ σ.1 8 (4 * r + c) = 1) : INV (sI σ 5 r (nI (c + 1))) B := by
  obtain ⟨hM, hKd, hT, hH, hO, hU, hV, hB, h6⟩ := h
  have dn : dcS (sI σ 5 r (nI (c + 1))) r = c + 1 := by unfold dcS; rw [sI_at]; exact ixn (by omega)
  have dO : ∀ r' : Nat, r' ≠ r → dcS (sI σ 5 r (nI (c + 1))) r' = dcS σ r' := fun r' hr => by unfold dcS; rw [sI_off _ _ _ hr]
  refine ⟨⟨hM.1, hM.2.1, fun r' hr' => ?_⟩, hKd, hT, fun r' d hr hd => ?_, hO, hU, fun r' d hr hd => ?_, hB, h6⟩
  · by_cases e : r' = r
    · subst e; rw [sI_at]; exact ⟨c + 1, by omega, rfl⟩
    · rw [sI_off _ _ _ e]; exact hM.2.2 r' hr'
  · by_cases e : r' = r
    · subst e
      rw [dn] at hd
      by_cases ed : d = c
      · subst ed
        exact ⟨Or.inl e10, Or.inl e13, e6, e7, e8⟩
      · exact hH r' d hr (by omega)
    · rw [dO r' e] at hd
      exact hH r' d hr hd
  · obtain ⟨a1, a2⟩ := hV r' d hr hd
    refine ⟨a1, fun hq => a2 ?_⟩
    by_cases e : r' = r
    · subst e; rw [dn] at hq; omega
    · rw [dO r' e] at hq; exact hq
theorem INV_dk {σ : Sg} {B r c : Nat} {f a q : Int32} (h : INV σ B) (hr8 : r < 8) (h4 : c < 4) (ec : dcS σ r = c) (hf : ∃ x : Nat, x ≤ 13 ∧ f = nI x) (ha : ∃ x : Nat, x ≤ 4 ∧ a = nI x) (hq : q = 0 ∨ q = 1) : INV (dkS σ r c f a q) B := by
  have h9 : INV (sI (sI (sI (sI (sI (sI (sI (sI σ 6 (4 * r + c) f) 7 (4 * r + c) a) 8 (4 * r + c) q) 9 (4 * r + c) 0) 10 (4 * r + c) (-1)) 11 (4 * r + c) 0) 12 (4 * r + c) 0) 13 (4 * r + c) (-1)) B :=
    INV_s13 (Kp_sI (f := 12) (by decide) (Kp_sI (f := 11) (by decide) (INV_s10 (Kp_sI (f := 9) (by decide) (INV_s8 (INV_s7 (INV_s6 h hf) ha) hq)).1)).1).1
  refine INV_s5 h9 hr8 h4 ec (sI_at (sI (sI (sI (sI σ 6 _ _) 7 _ _) 8 _ _) 9 _ _) 10 _ _) (sI_at (sI (sI (sI (sI (sI (sI (sI σ 6 _ _) 7 _ _) 8 _ _) 9 _ _) 10 _ _) 11 _ _) 12 _ _) 13 _ _) ?_ ?_ ?_
  · rw [show (sI (sI (sI (sI (sI (sI (sI (sI σ 6 (4 * r + c) f) 7 (4 * r + c) a) 8 (4 * r + c) q) 9 (4 * r + c) 0) 10 (4 * r + c) (-1)) 11 (4 * r + c) 0) 12 (4 * r + c) 0) 13 (4 * r + c) (-1)).1 6 (4 * r + c) = f from sI_at σ 6 _ _]; exact hf
  · rw [show (sI (sI (sI (sI (sI (sI (sI (sI σ 6 (4 * r + c) f) 7 (4 * r + c) a) 8 (4 * r + c) q) 9 (4 * r + c) 0) 10 (4 * r + c) (-1)) 11 (4 * r + c) 0) 12 (4 * r + c) 0) 13 (4 * r + c) (-1)).1 7 (4 * r + c) = a from sI_at (sI σ 6 _ _) 7 _ _]; exact ha
  · rw [show (sI (sI (sI (sI (sI (sI (sI (sI σ 6 (4 * r + c) f) 7 (4 * r + c) a) 8 (4 * r + c) q) 9 (4 * r + c) 0) 10 (4 * r + c) (-1)) 11 (4 * r + c) 0) 12 (4 * r + c) 0) 13 (4 * r + c) (-1)).1 8 (4 * r + c) = q from sI_at (sI (sI σ 6 _ _) 7 _ _) 8 _ _]; exact hq
theorem in_13 {v : Int32} (h : ¬ isInF v 0 13 = 0) : ∃ x : Nat, x ≤ 13 ∧ v = nI x := by
  obtain ⟨h1, h2⟩ := isInF_ne h
  rcases pk_ix v (n := 14) (by decide) with c | c | ⟨j, hj, e⟩
  · exact absurd c h1
  · rw [Int32.le_iff_toInt_le] at c
    rw [Int32.lt_iff_toInt_lt] at h2
    have e1 : (nI 14 : Int32).toInt = 14 := by decide
    have e2 : (13 : Int32).toInt = 13 := by decide
    omega
  · exact ⟨j, by omega, e⟩
theorem in_4 {v : Int32} (h : ¬ isInF v 0 4 = 0) : ∃ x : Nat, x ≤ 4 ∧ v = nI x := by
  obtain ⟨h1, h2⟩ := isInF_ne h
  rcases pk_ix v (n := 5) (by decide) with c | c | ⟨j, hj, e⟩
  · exact absurd c h1
  · rw [Int32.le_iff_toInt_le] at c
    rw [Int32.lt_iff_toInt_lt] at h2
    have e1 : (nI 5 : Int32).toInt = 5 := by decide
    have e2 : (4 : Int32).toInt = 4 := by decide
    omega
  · exact ⟨j, by omega, e⟩
theorem INV_change {σ : Sg} {B : Nat} (r d f a q : Int32) (h : INV σ B) (hq : q = 0 ∨ q = 1) : INV (changeM σ r d f a q).2 B := by
  unfold changeM
  split
  · exact INV_ref _ (INV_acc h)
  · split
    · exact INV_ref _ (INV_acc h)
    · split
      · exact INV_ref _ (INV_acc h)
      · rename_i hf
        split
        · exact INV_ref _ (INV_acc h)
        · rename_i ha
          show INV (settleM (acc σ) (4 * r + d) f a q) B
          unfold settleM
          exact INV_s8 (INV_s7 (INV_s6 (INV_acc h) (in_13 hf)) (in_4 ha)) hq
theorem INV_hand {σ : Sg} {B k r : Nat} (h : INV σ B) (hB : B + 2000000000 < 2 ^ 62) (hk : k < nS σ) (hr : r < 8) : INV (handOK σ k r).2 (B + 2000000000) := by
  have hc := cN_le (8 - r) (by omega)
  have hp := (pass_Kp (8 - r) r (hand1 σ) B k (by omega) (INV_hand1 h) (by omega) hk).1.1
  exact (Kp_sI (f := 20) (by decide) (hp.mono (by omega))).1
theorem INV_gj {σ : Sg} {B : Nat} {F : Nat → Nat → Int32} (h : INV σ B) : INV (gj σ F) B := INV_same h (fun g hg => gj_off (by revert g; decide)) rfl
theorem wX_gj {b : tw_W} {σ : Sg} {F : Nat → Nat → Int32} {h : Int32} {Q : Nat → Int32} : wX b (gj σ F) h Q = wX b σ h Q := rfl
theorem INV_00 : INV s00 2147483648 := by
  have h0 : nS s00 = 0 := by decide
  refine ⟨⟨⟨0, by omega, rfl⟩, fun k hk => ⟨0, by omega, rfl⟩, fun r hr => ⟨0, by omega, rfl⟩⟩, fun k hk => ?_, fun k hk => ?_, fun r d hr hd => ?_, fun k hk => ?_, fun k _ _ => rfl, fun r d hr hd => ⟨Or.inl rfl, fun _ => rfl⟩, fun k hk => ?_, by omega, fun k hk => ?_⟩
  · rw [h0] at hk; omega
  · rw [h0] at hk; omega
  · rw [show dcS s00 r = 0 from rfl] at hd; omega
  · rw [h0] at hk; omega
  · rw [h0] at hk; omega
  · rw [h0] at hk; omega
theorem INV_L {σ : Sg} {B : Nat} (h : INV σ B) : okL σ := fun k hk hN i hi => (h.2.2.2.2.2.2.2.1 k hk hN i hi).1
-- the two worlds
theorem wB {σ τ : Sg} {h : Int32} {Q : Nat → Int32} : wX (wM w00 τ) σ h Q = wM (wX w00 σ h Q) τ := by
  funext t
  by_cases c : 1000 ≤ t
  · show (if 1000 ≤ t then (if 1000 ≤ t then mCell τ (t - 1000) else w00 t) else _) = (if 1000 ≤ t then mCell τ (t - 1000) else _)
    rw [if_pos c, if_pos c, if_pos c]
  · show (if 1000 ≤ t then _ else _) = (if 1000 ≤ t then _ else (if 1000 ≤ t then _ else _))
    rw [if_neg c, if_neg c, if_neg c]
theorem mCell_nr2 {σ : Sg} {k τ : Nat} {e : tw_T} (hτ : τ < 1000) (h : mCell σ k = some e) : tw_nr τ e := by
  unfold mCell at h
  by_cases c0 : k = 0
  · rw [if_pos c0] at h
    cases h
    refine nr_o (fun v hv => ?_)
    unfold mRoot at hv
    simp only [List.mem_cons, List.not_mem_nil, or_false] at hv
    intro e
    subst e
    rcases hv with hv | hv | hv | hv | hv | hv | hv | hv | hv | hv | hv | hv | hv | hv | hv | hv | hv | hv | hv | hv | hv | hv | hv | hv | hv | hv | hv <;> first | cases hv; omega | cases hv | (injection hv with hv; omega)
  rw [if_neg c0] at h
  by_cases c4 : k = 4
  · rw [if_pos c4] at h; cases h; exact nr_l
  rw [if_neg c4] at h
  by_cases c8 : k = 8
  · rw [if_pos c8] at h; cases h; exact nr_i
  rw [if_neg c8] at h
  by_cases c14 : k = 14
  · rw [if_pos c14] at h; cases h; exact nr_i
  rw [if_neg c14] at h
  by_cases cm : k ∈ mInts
  · rw [if_pos cm] at h; cases h; exact nr_i
  rw [if_neg cm] at h
  cases h
theorem b_okM {σ : Sg} : b_ok (wM w00 σ) := by
  intro t e ht he τ hτ
  unfold wM at he
  rw [if_pos ht] at he
  exact mCell_nr2 hτ he
