/-! the reference: the run of the machine, frame by frame -/
theorem fI_at (F : Nat → Nat → Int32) (f i : Nat) (v : Int32) : fI F f i v f i = v := by
  unfold fI
  simp only [va_up_self]
theorem fI_off (F : Nat → Nat → Int32) (f : Nat) {i j : Nat} (v : Int32) (h : j ≠ i) : fI F f i v f j = F f j := by
  unfold fI
  simp only [va_up_self, va_up_ne _ _ h]
theorem fI_ne (F : Nat → Nat → Int32) {f g : Nat} (i : Nat) (v : Int32) (h : g ≠ f) : fI F f i v g = F g := va_up_ne _ _ h
def isFr (f : Nat) : Prop := f = 21 ∨ f = 22 ∨ f = 23 ∨ f = 24
def KeepB (F : Nat → Nat → Int32) (dp : Nat) (F' : Nat → Nat → Int32) : Prop := (∀ f : Nat, isFr f → ∀ j : Nat, j < dp → F' f j = F f j) ∧ F' 15 = F 15 ∧ F' 20 = F 20
def KeepF (F : Nat → Nat → Int32) (dp : Nat) (o : Option Nat) (F' : Nat → Nat → Int32) : Prop := (∀ f : Nat, isFr f → ∀ j : Nat, j < dp → F' f j = F f j) ∧ F' 15 = F 15 ∧ F' 20 = (if dp = 0 then va_up (F 20) 0 (encO o) else F 20) ∧ F' 25 0 = nI dp
def FrF (F : Nat → Nat → Int32) (dp t r a : Nat) (pl : Int32) : Prop := F 25 0 = nI (dp + 1) ∧ F 21 dp = nI t ∧ F 22 dp = nI r ∧ F 23 dp = nI a ∧ F 24 dp = pl
theorem KeepB.trans {F G K : Nat → Nat → Int32} {dp : Nat} (h1 : KeepB F dp G) (h2 : KeepB G dp K) : KeepB F dp K := ⟨fun f hf j hj => (h2.1 f hf j hj).trans (h1.1 f hf j hj), h2.2.1.trans h1.2.1, h2.2.2.trans h1.2.2⟩
theorem KeepB.toF {F G K : Nat → Nat → Int32} {dp : Nat} {o : Option Nat} (h1 : KeepB F dp G) (h2 : KeepF G dp o K) : KeepF F dp o K := ⟨fun f hf j hj => (h2.1 f hf j hj).trans (h1.1 f hf j hj), h2.2.1.trans h1.2.1, by rw [h2.2.2.1, h1.2.2], h2.2.2.2⟩
theorem KeepB_fI {F : Nat → Nat → Int32} {f dp : Nat} {v : Int32} (hf : isFr f) : KeepB F dp (fI F f dp v) := by
  have h15 : 15 ≠ f := by rcases hf with h | h | h | h <;> omega
  have h20 : 20 ≠ f := by rcases hf with h | h | h | h <;> omega
  refine ⟨fun g hg j hj => ?_, fI_ne _ _ _ h15, fI_ne _ _ _ h20⟩
  by_cases e : g = f
  · subst e; exact fI_off _ _ _ (by omega)
  · rw [fI_ne _ _ _ e]
theorem KeepF_end {F : Nat → Nat → Int32} {dp : Nat} (hd : F 25 0 = nI (dp + 1)) (hdp : dp < 8) (o : Option Nat) : KeepF F dp o (endF F (encO o)) := by
  have e1 : F 25 0 - 1 = nI dp := by rw [hd]; exact nI_pred dp
  unfold endF
  refine ⟨fun f hf j hj => ?_, ?_, ?_, ?_⟩
  · rw [fI_ne _ _ _ (show f ≠ 20 by rcases hf with h | h | h | h <;> omega), fI_ne _ _ _ (show f ≠ 25 by rcases hf with h | h | h | h <;> omega)]
  · rw [fI_ne _ _ _ (by decide), fI_ne _ _ _ (by decide)]
  · show va_up (fI F 25 0 (F 25 0 - 1)) 20 (va_up (fI F 25 0 (F 25 0 - 1) 20) 0 (if F 25 0 - 1 = 0 then encO o else F 20 0)) 20 = _
    rw [va_up_self, fI_ne _ _ _ (by decide), e1]
    by_cases h0 : dp = 0
    · subst h0
      rw [if_pos (show nI 0 = 0 from rfl), if_pos (show 0 = 0 from rfl)]
    · rw [if_neg (nI_ne0 (by omega) (by omega)), if_neg h0]
      funext i
      by_cases hi : i = 0
      · subst hi; rw [va_up_self]
      · rw [va_up_ne _ _ hi]
  · rw [fI_ne _ _ _ (by decide), fI_at, e1]
theorem beg_off {F : Nat → Nat → Int32} {dp : Nat} (hd : F 25 0 = nI (dp + 1)) (hdp : dp < 8) {t r : Int32} {f j : Nat} (hf : isFr f) (hj : j < dp + 1) : begF F t r f j = F f j := by
  have e : ix (F 25 0) = dp + 1 := by rw [hd]; exact ixn (by omega)
  unfold begF
  rw [e]
  rcases hf with rfl | rfl | rfl | rfl
  · rw [fI_ne _ _ _ (by decide), fI_ne _ _ _ (by decide), fI_ne _ _ _ (by decide), fI_ne _ _ _ (by decide), fI_off _ _ _ (by omega)]
  · rw [fI_ne _ _ _ (by decide), fI_ne _ _ _ (by decide), fI_ne _ _ _ (by decide), fI_off _ _ _ (by omega), fI_ne _ _ _ (by decide)]
  · rw [fI_ne _ _ _ (by decide), fI_ne _ _ _ (by decide), fI_off _ _ _ (by omega), fI_ne _ _ _ (by decide), fI_ne _ _ _ (by decide)]
  · rw [fI_ne _ _ _ (by decide), fI_off _ _ _ (by omega), fI_ne _ _ _ (by decide), fI_ne _ _ _ (by decide), fI_ne _ _ _ (by decide)]
theorem beg_B {F : Nat → Nat → Int32} {dp : Nat} (hd : F 25 0 = nI (dp + 1)) (hdp : dp < 8) {t r : Int32} : KeepB F (dp + 1) (begF F t r) := by
  refine ⟨fun f hf j hj => beg_off hd hdp hf hj, ?_, ?_⟩
  · unfold begF
    rw [fI_ne _ _ _ (by decide), fI_ne _ _ _ (by decide), fI_ne _ _ _ (by decide), fI_ne _ _ _ (by decide), fI_ne _ _ _ (by decide)]
  · unfold begF
    rw [fI_ne _ _ _ (by decide), fI_ne _ _ _ (by decide), fI_ne _ _ _ (by decide), fI_ne _ _ _ (by decide), fI_ne _ _ _ (by decide)]
theorem beg_Fr {F : Nat → Nat → Int32} {dp n : Nat} (hd : F 25 0 = nI n) (hn : n ≤ 8) (he : n = dp) {t r : Nat} : FrF (begF F (nI t) (nI r)) dp t r 0 (-1) := by
  subst he
  have e : ix (F 25 0) = n := by rw [hd]; exact ixn (by omega)
  unfold begF FrF
  rw [e]
  refine ⟨?_, ?_, ?_, ?_, ?_⟩
  · rw [fI_at, hd]; exact nA (a := n) (b := 1) (c := n + 1) rfl
  · rw [fI_ne _ _ _ (by decide), fI_ne _ _ _ (by decide), fI_ne _ _ _ (by decide), fI_ne _ _ _ (by decide), fI_at]
  · rw [fI_ne _ _ _ (by decide), fI_ne _ _ _ (by decide), fI_ne _ _ _ (by decide), fI_at]
  · rw [fI_ne _ _ _ (by decide), fI_ne _ _ _ (by decide), fI_at]; rfl
  · rw [fI_ne _ _ _ (by decide), fI_at]
theorem each_skip {f : Sg → Nat → Sg} {k : Nat} {σ : Sg} : ∀ (m y i : Nat), (∀ i' : Nat, i ≤ i' → i' < i + m → σ.2 (3 * k + i') = -1) → eachF f k (m + y) i σ = eachF f k y (i + m) σ
  | 0, y, i, _ => by rw [Nat.zero_add]; rfl
  | m + 1, y, i, h => by
    rw [show m + 1 + y = (m + y) + 1 by omega]
    show eachF f k (m + y) (i + 1) (stepF f σ (3 * k + i)) = _
    rw [step_nil (h i (Nat.le_refl _) (by omega)), each_skip m y (i + 1) (fun i' h1 h2 => h i' (by omega) (by omega)), show i + 1 + m = i + (m + 1) by omega]
theorem scan {σ : Sg} {B t : Nat} (hV : INV σ B) (hn : t < nS σ) (hN : isNumK (σ.1 1 t) = false) : ∀ (y i : Nat), i + y ≤ szS σ t → (∀ i' : Nat, i ≤ i' → i' < i + y → σ.2 (3 * t + i') = -1) ∨ ∃ m q : Nat, m < y ∧ q < nS σ ∧ (∀ i' : Nat, i ≤ i' → i' < i + m → σ.2 (3 * t + i') = -1) ∧ σ.2 (3 * t + i + m) = lN q
  | 0, i, _ => Or.inl (fun i' h1 h2 => by omega)
  | y + 1, i, h => by
    rcases cell_or hV.1 hV.2.2.1 hn hN (show i < szS σ t by omega) with ⟨e, -⟩ | ⟨q, hq, -, e, -⟩
    · rcases scan hV hn hN y (i + 1) (by omega) with h1 | ⟨m, q, hm, hq, h1, h2⟩
      · refine Or.inl (fun i' g1 g2 => ?_)
        by_cases c : i' = i
        · subst c; exact e
        · exact h1 i' (by omega) (by omega)
      · refine Or.inr ⟨m + 1, q, by omega, hq, fun i' g1 g2 => ?_, by rw [show 3 * t + i + (m + 1) = 3 * t + (i + 1) + m by omega]; exact h2⟩
        by_cases c : i' = i
        · subst c; exact e
        · exact h1 i' (by omega) (by omega)
    · exact Or.inr ⟨0, q, by omega, hq, fun i' g1 g2 => by omega, e⟩
theorem go_stop {sp : Sg → Nat → Sg} {r : Nat} : ∀ (y a t : Nat) (σ : Sg), ¬ a < dcS σ r → goO sp r y a (some t) σ = (some t, σ)
  | 0, _, _, _, _ => rfl
  | y + 1, a, t, σ, h => by rw [go_out h]; exact go_stop y (a + 1) t σ (by omega)

set_option maxHeartbeats 2000000 in
theorem splitRun {p : Program} {l : Launch} {e : Env} {s : State} {m : MethodId} {av : Array Value} {below : List Frame} {meth : Method} {c : Code} {Z : State → Prop} {D : tw_G} {A : Nat → Prop} {ad : Nat → Nat} {b : tw_W} {n r dp t a : Nat} (S : CallFix p m c cX7_hand 4 s av tw_ws RX7) (hK : tw_K D s) (er : r + 1 + n = 8) (hr7 : r < 7) (hdp : dp ≤ r) (h6 : t < 60) (ha4 : a < 4) (hrun : (∀ (q : Nat) (σ : Sg) (B : Nat) (F : Nat → Nat → Int32) (H : Heap) (locs : List Loc) (ls : Array Slot), INV σ B → B + cN n < 2 ^ 62 → q < nS σ → FrF F (dp + 1) q (r + 1) 0 (-1) → tw_I D A ad (wM b (gr (σ) F)) s.heap H locs → lv_has ls 4 [(0, .ref (ad 1000))] → (∀ (F1 : Nat → Nat → Int32) (H1 : Heap) (locs1 : List Loc) (ls1 : Array Slot), KeepF F (dp + 1) (passF n (r + 1) σ q).1 F1 → tw_I D A ad (wM b (gr (spF n (r + 1) σ q) F1)) s.heap H1 locs1 → lv_has ls1 4 [(0, .ref (ad 1000))] → W p l e (tw_R 7 0 0) s m av below meth c H1 locs1 0 0 Z (F0 m 64 ls1 [])) → W p l e (tw_R 7 0 0) s m av below meth c H locs 0 0 Z (F0 m 64 ls []))) : ∀ (N y i : Nat) (σ : Sg) (B : Nat) (F : Nat → Nat → Int32) (H : Heap) (locs : List Loc) (ls : Array Slot), y ≤ N → i + y = szS σ t → INV σ B → B + y * cN n < 2 ^ 62 → t < nS σ → isNumK (σ.1 1 t) = false → FrF F dp t r a (nI i) → tw_I D A ad (wM b (gr (σ) F)) s.heap H locs → lv_has ls 4 [(0, .ref (ad 1000))] → (∀ (F1 : Nat → Nat → Int32) (H1 : Heap) (locs1 : List Loc) (ls1 : Array Slot), KeepB F dp F1 → FrF F1 dp t r (a + 1) (-1) → tw_I D A ad (wM b (gr (eachF (spF n (r + 1)) t y i σ) F1)) s.heap H1 locs1 → lv_has ls1 4 [(0, .ref (ad 1000))] → W p l e (tw_R 7 0 0) s m av below meth c H1 locs1 0 0 Z (F0 m 64 ls1 [])) → W p l e (tw_R 7 0 0) s m av below meth c H locs 0 0 Z (F0 m 64 ls []) := by
  intro N
  induction N with
  | zero =>
    intro y i σ B F H locs ls hy ei hV hB hn hN hF hI hl kk
    have y0 : y = 0 := by omega
    subst y0
    obtain ⟨hd, hw, hm, ha, hp⟩ := hF
    have hz := okZ hV.1 h6
    refine hb_split S hK hI hl (by omega) hd hp (by omega) (fun sz => c_X7_split_end l D ad b σ F sz dp r a t (szS σ t) i 0 (by omega) h6 hz.1 hz.2 hd hw hm ha hp ha4 ei (fun i' g1 g2 => by omega)) (fun H1 locs1 ls1 hI1 hl1 => ?_)
    refine kk _ H1 locs1 ls1 ((KeepB_fI (Or.inr (Or.inr (Or.inr rfl)))).trans (KeepB_fI (Or.inr (Or.inr (Or.inl rfl))))) ⟨?_, ?_, ?_, ?_, ?_⟩ hI1 hl1
    · rw [fI_ne _ _ _ (by decide), fI_ne _ _ _ (by decide)]; exact hd
    · rw [fI_ne _ _ _ (by decide), fI_ne _ _ _ (by decide)]; exact hw
    · rw [fI_ne _ _ _ (by decide), fI_ne _ _ _ (by decide)]; exact hm
    · rw [fI_at]
    · rw [fI_ne _ _ _ (by decide), fI_at]
  | succ N ih =>
    intro y i σ B F H locs ls hy ei hV hB hn hN hF hI hl kk
    obtain ⟨hd, hw, hm, ha, hp⟩ := hF
    have hz := okZ hV.1 h6
    have hn6 := (okN hV.1).1
    rcases scan hV hn hN y i (by omega) with hnil | ⟨mm, q, hmy, hq, hnil, hc⟩
    · have e0 : eachF (spF n (r + 1)) t y i σ = σ := each_skip (f := spF n (r + 1)) (k := t) (σ := σ) y 0 i hnil
      rw [e0] at kk
      refine hb_split S hK hI hl (by omega) hd hp (by omega) (fun sz => c_X7_split_end l D ad b σ F sz dp r a t (szS σ t) i y (by omega) h6 hz.1 hz.2 hd hw hm ha hp ha4 ei hnil) (fun H1 locs1 ls1 hI1 hl1 => ?_)
      refine kk _ H1 locs1 ls1 ((KeepB_fI (Or.inr (Or.inr (Or.inr rfl)))).trans (KeepB_fI (Or.inr (Or.inr (Or.inl rfl))))) ⟨?_, ?_, ?_, ?_, ?_⟩ hI1 hl1
      · rw [fI_ne _ _ _ (by decide), fI_ne _ _ _ (by decide)]; exact hd
      · rw [fI_ne _ _ _ (by decide), fI_ne _ _ _ (by decide)]; exact hw
      · rw [fI_ne _ _ _ (by decide), fI_ne _ _ _ (by decide)]; exact hm
      · rw [fI_at]
      · rw [fI_ne _ _ _ (by decide), fI_at]
    · have e0 : eachF (spF n (r + 1)) t y i σ = eachF (spF n (r + 1)) t (y - mm - 1) (i + mm + 1) (spF n (r + 1) σ q) := by
        have := each_skip (f := spF n (r + 1)) (k := t) (σ := σ) mm (y - mm) i hnil
        rw [show mm + (y - mm) = y by omega, show y - mm = (y - mm - 1) + 1 by omega] at this
        rw [this]
        show eachF (spF n (r + 1)) t (y - mm - 1) (i + mm + 1) (stepF (spF n (r + 1)) σ (3 * t + (i + mm))) = _
        rw [step_q (q := q) (by omega) (by rw [show 3 * t + (i + mm) = 3 * t + i + mm by omega]; exact hc)]
      rw [e0] at kk
      have hkp := spF_Sp er σ B q hV (by have : 1 * cN n ≤ y * cN n := Nat.mul_le_mul_right _ (by omega); omega) hq
      have hd1 : fI F 24 dp (nI (i + mm + 1)) 25 0 = nI (dp + 1) := by rw [fI_ne _ _ _ (by decide)]; exact hd
      refine hb_split S hK hI hl (by omega) hd hp (by omega) (fun sz => c_X7_split_q l D ad b σ F sz dp r a t (szS σ t) i mm q (by omega) h6 hz.1 hz.2 hd hw hm ha hp (by omega) (by omega) (by omega) hnil hc) (fun H1 locs1 ls1 hI1 hl1 => ?_)
      refine hrun q σ B _ H1 locs1 ls1 hV (by have : 1 * cN n ≤ y * cN n := Nat.mul_le_mul_right _ (by omega); omega) hq (beg_Fr hd1 (by omega) rfl) hI1 hl1 (fun F2 H2 locs2 ls2 hF2 hI2 hl2 => ?_)
      have off : ∀ f : Nat, isFr f → F2 f dp = fI F 24 dp (nI (i + mm + 1)) f dp := fun f hf => (hF2.1 f hf dp (by omega)).trans (beg_off hd1 (by omega) hf (by omega))
      have kb : KeepB F dp F2 := by
        refine ⟨fun f hf j hj => ?_, ?_, ?_⟩
        · rw [hF2.1 f hf j (by omega), beg_off hd1 (by omega) hf (by omega)]
          exact (KeepB_fI (Or.inr (Or.inr (Or.inr rfl)))).1 f hf j hj
        · rw [hF2.2.1, (beg_B hd1 (by omega)).2.1, fI_ne _ _ _ (by decide)]
        · rw [hF2.2.2.1, if_neg (by omega), (beg_B hd1 (by omega)).2.2, fI_ne _ _ _ (by decide)]
      have hB2 : B + cN n + (y - mm - 1) * cN n < 2 ^ 62 := by
        have h1 : (y - mm - 1 + 1) * cN n ≤ y * cN n := Nat.mul_le_mul_right _ (by omega)
        rw [Nat.succ_mul] at h1
        omega
      refine ih (y - mm - 1) (i + mm + 1) (spF n (r + 1) σ q) (B + cN n) F2 H2 locs2 ls2 (by omega) (by rw [hkp.sz]; omega) hkp.1 hB2 (by rw [hkp.n]; exact hn) (by rw [hkp.2 1 (by decide)]; exact hN) ⟨hF2.2.2.2, ?_, ?_, ?_, ?_⟩ hI2 hl2 (fun F3 H3 locs3 ls3 kb3 fr3 hI3 hl3 => kk F3 H3 locs3 ls3 (kb.trans kb3) fr3 hI3 hl3)
      · rw [off 21 (Or.inl rfl), fI_ne _ _ _ (by decide)]; exact hw
      · rw [off 22 (Or.inr (Or.inl rfl)), fI_ne _ _ _ (by decide)]; exact hm
      · rw [off 23 (Or.inr (Or.inr (Or.inl rfl))), fI_ne _ _ _ (by decide)]; exact ha
      · rw [off 24 (Or.inr (Or.inr (Or.inr rfl))), fI_at]

set_option maxHeartbeats 2000000 in
theorem runIn {p : Program} {l : Launch} {e : Env} {s : State} {m : MethodId} {av : Array Value} {below : List Frame} {meth : Method} {c : Code} {Z : State → Prop} {D : tw_G} {A : Nat → Prop} {ad : Nat → Nat} {b : tw_W} {n r dp : Nat} (S : CallFix p m c cX7_hand 4 s av tw_ws RX7) (hK : tw_K D s) (er : r + 1 + n = 8) (hdp : dp ≤ r) (hch : r < 7 → (∀ (q : Nat) (σ : Sg) (B : Nat) (F : Nat → Nat → Int32) (H : Heap) (locs : List Loc) (ls : Array Slot), INV σ B → B + cN n < 2 ^ 62 → q < nS σ → FrF F (dp + 1) q (r + 1) 0 (-1) → tw_I D A ad (wM b (gr (σ) F)) s.heap H locs → lv_has ls 4 [(0, .ref (ad 1000))] → (∀ (F1 : Nat → Nat → Int32) (H1 : Heap) (locs1 : List Loc) (ls1 : Array Slot), KeepF F (dp + 1) (passF n (r + 1) σ q).1 F1 → tw_I D A ad (wM b (gr (spF n (r + 1) σ q) F1)) s.heap H1 locs1 → lv_has ls1 4 [(0, .ref (ad 1000))] → W p l e (tw_R 7 0 0) s m av below meth c H1 locs1 0 0 Z (F0 m 64 ls1 [])) → W p l e (tw_R 7 0 0) s m av below meth c H locs 0 0 Z (F0 m 64 ls []))) : ∀ (y a t : Nat) (σ : Sg) (B : Nat) (F : Nat → Nat → Int32) (H : Heap) (locs : List Loc) (ls : Array Slot), a + y = 4 → a ≤ dcS σ r → INV σ B → B + y * (12 + 3 * cN n) < 2 ^ 62 → t < nS σ → FrF F dp t r a (-1) → tw_I D A ad (wM b (gr (σ) F)) s.heap H locs → lv_has ls 4 [(0, .ref (ad 1000))] → (∀ (F1 : Nat → Nat → Int32) (H1 : Heap) (locs1 : List Loc) (ls1 : Array Slot), KeepF F dp (goO (spF n (r + 1)) r y a (some t) σ).1 F1 → tw_I D A ad (wM b (gr ((goO (spF n (r + 1)) r y a (some t) σ).2) F1)) s.heap H1 locs1 → lv_has ls1 4 [(0, .ref (ad 1000))] → W p l e (tw_R 7 0 0) s m av below meth c H1 locs1 0 0 Z (F0 m 64 ls1 [])) → W p l e (tw_R 7 0 0) s m av below meth c H locs 0 0 Z (F0 m 64 ls []) := by
  intro y
  induction y with
  | zero =>
    intro a t σ B F H locs ls ea hac hV hB ht hF hI hl kk
    obtain ⟨hd, hw, hm, ha, hp⟩ := hF
    have hn6 := (okN hV.1).1
    have h4 := okD hV.1 (show r < 8 by omega)
    have h5 : σ.1 5 r = nI a := by rw [h4.2, show dcS σ r = a by omega]
    refine hb_ends S hK hI hl (by omega) hd hp hm ha hw (by omega) h5 (fun H1 locs1 ls1 hI1 hl1 => ?_)
    exact kk _ H1 locs1 ls1 (KeepF_end hd (by omega) (some t)) hI1 hl1
  | succ y ih =>
    intro a t σ B F H locs ls ea hac hV hB ht hF hI hl kk
    have hF0 := hF
    obtain ⟨hd, hw, hm, ha, hp⟩ := hF
    have hn6 := (okN hV.1).1
    have h4 := okD hV.1 (show r < 8 by omega)
    rw [Nat.succ_mul y (12 + 3 * cN n)] at hB
    by_cases cc : a < dcS σ r
    · rw [go_in cc] at kk
      have hmk := meet_Kp (spF_Sp er) hV (show B + (12 + 3 * cN n) < 2 ^ 62 by omega) (show r < 8 by omega) cc ht
      have next : ∀ (t' : Nat) (τ : Sg) (F1 : Nat → Nat → Int32) (H1 : Heap) (locs1 : List Loc) (ls1 : Array Slot), meetF (spF n (r + 1)) (4 * r + a) σ t = (some t', τ) → KeepB F dp F1 → FrF F1 dp t' r (a + 1) (-1) → tw_I D A ad (wM b (gr (τ) F1)) s.heap H1 locs1 → lv_has ls1 4 [(0, .ref (ad 1000))] → W p l e (tw_R 7 0 0) s m av below meth c H1 locs1 0 0 Z (F0 m 64 ls1 []) := by
        intro t' τ F1 H1 locs1 ls1 em kb fr hI1 hl1
        rw [em] at kk hmk
        exact ih (a + 1) t' τ (B + (12 + 3 * cN n)) F1 H1 locs1 ls1 (by omega) (by rw [hmk.1.dc]; omega) hmk.1.1 (by omega) (by rw [hmk.1.n]; exact hmk.2 t' rfl) fr hI1 hl1 (fun F2 H2 locs2 ls2 hF2 hI2 hl2 => kk F2 H2 locs2 ls2 (kb.toF hF2) hI2 hl2)
      have stop : ∀ (τ : Sg) (H1 : Heap) (locs1 : List Loc) (ls1 : Array Slot), meetF (spF n (r + 1)) (4 * r + a) σ t = (none, τ) → tw_I D A ad (wM b (gr (τ) (endF F (-1)))) s.heap H1 locs1 → lv_has ls1 4 [(0, .ref (ad 1000))] → W p l e (tw_R 7 0 0) s m av below meth c H1 locs1 0 0 Z (F0 m 64 ls1 []) := by
        intro τ H1 locs1 ls1 em hI1 hl1
        rw [em] at kk
        dsimp only at kk
        rw [go_none] at kk
        exact kk _ H1 locs1 ls1 (KeepF_end hd (by omega) none) hI1 hl1
      have kb23 : KeepB F dp (fI F 23 dp (nI (a + 1))) := KeepB_fI (Or.inr (Or.inr (Or.inl rfl)))
      have fr23 : FrF (fI F 23 dp (nI (a + 1))) dp t r (a + 1) (-1) := ⟨by rw [fI_ne _ _ _ (by decide)]; exact hd, by rw [fI_ne _ _ _ (by decide)]; exact hw, by rw [fI_ne _ _ _ (by decide)]; exact hm, fI_at _ _ _ _, by rw [fI_ne _ _ _ (by decide)]; exact hp⟩
      have go := fun (τ : Sg) (F1 : Nat → Nat → Int32) => hb_comes (l := l) (e := e) (below := below) (meth := meth) (Z := Z) (τ := τ) (F1 := F1) S hK hI hl (show dp < 8 by omega) hd hp hm ha (show r < 8 by omega) h4.2 cc h4.1
      obtain ⟨hH1, hH2, hH3, ⟨aa, haa, eaa⟩, hH5⟩ := hV.2.2.2.1 r a (by omega) cc
      by_cases hg : goesF (σ.1 1 t) (σ.1 6 (4 * r + a)) = 0
      · rcases hH5 with h8 | h8
        · rcases (hV.2.2.2.2.2.2.1 r a (by omega) (by omega)).1 with h14 | h14
          · exact go _ _ (fun sz => c_X7_comes_give l D ad b σ F sz dp r a t B hV (by omega) (by omega) (by omega) (by omega) hw hm ha ht hg h8 h14) (fun H1 locs1 ls1 hI1 hl1 => stop _ H1 locs1 ls1 (meet_give hg h8 h14) hI1 hl1)
          · exact go _ _ (fun sz => c_X7_comes_gave l D ad b σ F sz dp r a t B hV (by omega) (by omega) (by omega) (by omega) hw hm ha ht hg h8 h14) (fun H1 locs1 ls1 hI1 hl1 => next t _ _ H1 locs1 ls1 (meet_gave hg h8 h14) kb23 fr23 hI1 hl1)
        · exact go _ _ (fun sz => c_X7_comes_asks l D ad b σ F sz dp r a t B hV (by omega) (by omega) (by omega) (by omega) hw hm ha ht hg h8) (fun H1 locs1 ls1 hI1 hl1 => next t _ _ H1 locs1 ls1 (meet_asks hg h8) kb23 fr23 hI1 hl1)
      · have hk := wk_Kp (d := 4 * r + a) hV
        have ewk : ∀ f : Nat, f ∈ kpL → (wkF σ (4 * r + a)).1 f = σ.1 f := hk.2
        have e7 : (wkF σ (4 * r + a)).1 7 (4 * r + a) = nI aa := by rw [ewk 7 (by decide)]; exact eaa
        rcases (show aa = 0 ∨ aa = 1 ∨ aa = 2 ∨ aa = 3 ∨ aa = 4 by omega) with rfl | rfl | rfl | rfl | rfl
        · by_cases h1 : isOneF (σ.1 1 t) = 0
          · exact go _ _ (fun sz => c_X7_comes_w0row l D ad b σ F sz dp r a t B hV (by omega) (by omega) (by omega) (by omega) hw hm ha ht hg eaa h1) (fun H1 locs1 ls1 hI1 hl1 => next t _ _ H1 locs1 ls1 (by rw [meet_work hg, act_0 e7]) kb23 fr23 hI1 hl1)
          · exact go _ _ (fun sz => c_X7_comes_w0one l D ad b σ F sz dp r a t B hV (by omega) (by omega) (by omega) (by omega) hw hm ha ht hg eaa h1) (fun H1 locs1 ls1 hI1 hl1 => next t _ _ H1 locs1 ls1 (by rw [meet_work hg, act_0 e7]) kb23 fr23 hI1 hl1)
        · exact go _ _ (fun sz => c_X7_comes_w1 l D ad b σ F sz dp r a t B hV (by omega) (by omega) (by omega) (by omega) hw hm ha ht hg eaa) (fun H1 locs1 ls1 hI1 hl1 => next t _ _ H1 locs1 ls1 (by rw [meet_work hg, act_1 e7]) kb23 fr23 hI1 hl1)
        · exact go _ _ (fun sz => c_X7_comes_w2 l D ad b σ F sz dp r a t B hV (by omega) (by omega) (by omega) (by omega) hw hm ha ht hg eaa) (fun H1 locs1 ls1 hI1 hl1 => next t _ _ H1 locs1 ls1 (by rw [meet_work hg, act_2 e7]) kb23 fr23 hI1 hl1)
        · by_cases h1 : isThF (σ.1 1 t) = 0
          · exact go _ _ (fun sz => c_X7_comes_w3num l D ad b σ F sz dp r a t B hV (by omega) (by omega) (by omega) (by omega) hw hm ha ht hg eaa h1) (fun H1 locs1 ls1 hI1 hl1 => next t _ _ H1 locs1 ls1 (by rw [meet_work hg, act_3 e7, if_pos (by rw [ewk 1 (by decide)]; exact h1)]) kb23 fr23 hI1 hl1)
          · have h1' : ¬ isThF ((wkF σ (4 * r + a)).1 1 t) = 0 := by rw [ewk 1 (by decide)]; exact h1
            by_cases hr7 : r < 7
            · refine go _ _ (fun sz => c_X7_comes_w3s l D ad b σ F sz dp r a t B hV (by omega) (by omega) (by omega) (by omega) hw hm ha ht hg eaa h1 hr7) (fun H1 locs1 ls1 hI1 hl1 => ?_)
              have em : meetF (spF n (r + 1)) (4 * r + a) σ t = (some t, eachF (spF n (r + 1)) t (szS (wkF σ (4 * r + a)) t) 0 (wkF σ (4 * r + a))) := by rw [meet_work hg, act_3 e7, if_neg h1']
              have hm3 : szS (wkF σ (4 * r + a)) t * cN n ≤ 3 * cN n := Nat.mul_le_mul_right _ (by rw [hk.sz]; exact (okZ hV.1 (by omega)).1)
              exact splitRun S hK er hr7 hdp (by omega) (by omega) (hch hr7) (szS (wkF σ (4 * r + a)) t) (szS (wkF σ (4 * r + a)) t) 0 (wkF σ (4 * r + a)) B (fI F 24 dp 0) H1 locs1 ls1 (Nat.le_refl _) (by omega) hk.1 (by omega) (by rw [hk.n]; exact ht) (thK h1') ⟨by rw [fI_ne _ _ _ (by decide)]; exact hd, by rw [fI_ne _ _ _ (by decide)]; exact hw, by rw [fI_ne _ _ _ (by decide)]; exact hm, by rw [fI_ne _ _ _ (by decide)]; exact ha, fI_at _ _ _ _⟩ hI1 hl1 (fun F2 H2 locs2 ls2 kb fr hI2 hl2 => next t _ F2 H2 locs2 ls2 em ((KeepB_fI (Or.inr (Or.inr (Or.inr rfl)))).trans kb) fr hI2 hl2)
            · have em : meetF (spF n (r + 1)) (4 * r + a) σ t = (some t, wkF σ (4 * r + a)) := by
                have n0 : n = 0 := by omega
                subst n0
                have eid : ∀ (y i : Nat) (ρ : Sg), eachF (spF 0 (r + 1)) t y i ρ = ρ := by
                  intro y
                  induction y with
                  | zero => intro i ρ; rfl
                  | succ y ih2 =>
                    intro i ρ
                    show eachF (spF 0 (r + 1)) t y (i + 1) (stepF (spF 0 (r + 1)) ρ (3 * t + i)) = ρ
                    rw [ih2]
                    unfold stepF
                    split <;> rfl
                rw [meet_work hg, act_3 e7, if_neg h1', eid]
              exact go _ _ (fun sz => c_X7_comes_w3last l D ad b σ F sz dp r a t B hV (by omega) (by omega) (by omega) (by omega) hw hm ha ht hg eaa h1 (by omega)) (fun H1 locs1 ls1 hI1 hl1 => next t _ _ H1 locs1 ls1 em kb23 fr23 hI1 hl1)
        · have e10 : (wkF σ (4 * r + a)).1 10 (4 * r + a) = σ.1 10 (4 * r + a) := rfl
          rcases hH1 with hh | ⟨q, hq, hh⟩
          · exact go _ _ (fun sz => c_X7_comes_w4n l D ad b σ F sz dp r a t B hV (by omega) (by omega) (by omega) (by omega) hw hm ha ht hg eaa hh) (fun H1 locs1 ls1 hI1 hl1 => stop _ H1 locs1 ls1 (by rw [meet_work hg, act_4 e7, e10, hh, dec_m1]) hI1 hl1)
          · refine go _ _ (fun sz => c_X7_comes_w4s l D ad b σ F sz dp r a t q B hV (by omega) (by omega) (by omega) (by omega) hw hm ha ht hg eaa hh (by omega)) (fun H1 locs1 ls1 hI1 hl1 => ?_)
            refine next q _ _ H1 locs1 ls1 (by rw [meet_work hg, act_4 e7, e10, hh, dec_nI (by omega)]) ((KeepB_fI (Or.inl rfl)).trans (KeepB_fI (Or.inr (Or.inr (Or.inl rfl))))) ⟨?_, ?_, ?_, ?_, ?_⟩ hI1 hl1
            · rw [fI_ne _ _ _ (by decide), fI_ne _ _ _ (by decide)]; exact hd
            · rw [fI_ne _ _ _ (by decide), fI_at]
            · rw [fI_ne _ _ _ (by decide), fI_ne _ _ _ (by decide)]; exact hm
            · rw [fI_at]
            · rw [fI_ne _ _ _ (by decide), fI_ne _ _ _ (by decide)]; exact hp
    · rw [go_stop _ _ _ _ cc] at kk
      have h5 : σ.1 5 r = nI a := by rw [h4.2, show dcS σ r = a by omega]
      refine hb_ends S hK hI hl (by omega) hd hp hm ha hw (by omega) h5 (fun H1 locs1 ls1 hI1 hl1 => ?_)
      exact kk _ H1 locs1 ls1 (KeepF_end hd (by omega) (some t)) hI1 hl1

theorem run {p : Program} {l : Launch} {e : Env} {s : State} {m : MethodId} {av : Array Value} {below : List Frame} {meth : Method} {c : Code} {Z : State → Prop} {D : tw_G} {A : Nat → Prop} {ad : Nat → Nat} {b : tw_W} (S : CallFix p m c cX7_hand 4 s av tw_ws RX7) (hK : tw_K D s) : ∀ (n r : Nat), r + 1 + n = 8 → ∀ dp : Nat, dp ≤ r → ∀ (y a t : Nat) (σ : Sg) (B : Nat) (F : Nat → Nat → Int32) (H : Heap) (locs : List Loc) (ls : Array Slot), a + y = 4 → a ≤ dcS σ r → INV σ B → B + y * (12 + 3 * cN n) < 2 ^ 62 → t < nS σ → FrF F dp t r a (-1) → tw_I D A ad (wM b (gr (σ) F)) s.heap H locs → lv_has ls 4 [(0, .ref (ad 1000))] → (∀ (F1 : Nat → Nat → Int32) (H1 : Heap) (locs1 : List Loc) (ls1 : Array Slot), KeepF F dp (goO (spF n (r + 1)) r y a (some t) σ).1 F1 → tw_I D A ad (wM b (gr ((goO (spF n (r + 1)) r y a (some t) σ).2) F1)) s.heap H1 locs1 → lv_has ls1 4 [(0, .ref (ad 1000))] → W p l e (tw_R 7 0 0) s m av below meth c H1 locs1 0 0 Z (F0 m 64 ls1 [])) → W p l e (tw_R 7 0 0) s m av below meth c H locs 0 0 Z (F0 m 64 ls [])
  | 0, r, er, dp, hdp => runIn S hK er hdp (fun h => absurd h (by omega))
  | n + 1, r, er, dp, hdp => runIn S hK er hdp (fun hr7 q σ B F H locs ls hV hB hq hF hI hl kk => run S hK n (r + 1) (by omega) (dp + 1) (by omega) 4 0 q σ B F H locs ls rfl (Nat.zero_le _) hV hB hq hF hI hl kk)
