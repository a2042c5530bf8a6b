/-! the law: what a turn starts from and comes to; one lemma an arm of the switch -/
theorem c_X6_desk (l : Launch) (D : tw_G) (σ : Sg) (h : Int32) (Q : Nat → Int32) (r f a q : Int32) (B : Nat) (hV : INV σ B) (hq : q = 0 ∨ q = 1) : INV (deskM σ r f a q).2 B ∧ ∃ Q' : Nat → Int32, (∀ d : Nat, Q' d = Q d ∨ Q' d = 0) ∧ ∀ (ad : Nat → Nat) (b : tw_W) (sz : Nat), b_ok b → Met l yX6_desk (tw_w yX6_desk cX6_desk 7 (some .int)) (tw_R 3 1 9) (tw_Pc D ad (wX b σ h Q) sz [.ref (ad 0), .int r, .int f, .int a, .int q]) (tw_Qn D ad (wX b σ h Q) (wX b (deskM σ r f a q).2 h Q') (tw_A ad (wX b σ h Q) sz) (fun _ => some (.int (deskM σ r f a q).1))) 1 9 (tw_A ad (wX b σ h Q) sz) := by
  rcases room_or r with hv | ⟨r, hr8, rfl⟩
  · exact ⟨by rw [dk_noroom hv]; exact INV_ref _ hV, Q, fun _ => Or.inl rfl, fun ad b sz _ => c_X6_desk_noroom l D ad b σ h Q sz r f a q hv⟩
  · by_cases hf : isFormF f = 0
    · exact ⟨by rw [dk_form hr8 hf]; exact INV_ref _ hV, Q, fun _ => Or.inl rfl, fun ad b sz _ => c_X6_desk_form l D ad b σ h Q sz r f a q hr8 hf⟩
    · by_cases ha : isActF a = 0
      · exact ⟨by rw [dk_act hr8 hf ha]; exact INV_ref _ hV, Q, fun _ => Or.inl rfl, fun ad b sz _ => c_X6_desk_act l D ad b σ h Q sz r f a q hr8 hf ha⟩
      · have h5 := okD hV.1 hr8
        rcases Nat.lt_or_ge (dcS σ r) 4 with h4 | h4
        · refine ⟨?_, va_up Q (4 * r + dcS σ r) 0, fun d => ?_, fun ad b sz hbk => c_X6_desk_ok l D ad b σ h Q sz r (dcS σ r) f a q B hV hbk hr8 hf ha hq h5.2 rfl h4⟩
          · rw [dk_ok hr8 hf ha h5.2 h4]
            exact INV_acc (INV_dk hV hr8 h4 rfl (in_13 hf) (in_4 ha) hq)
          · by_cases e : d = 4 * r + dcS σ r
            · rw [e, va_up_self]; exact Or.inr rfl
            · rw [va_up_ne _ _ e]; exact Or.inl rfl
        · have e4 : σ.1 5 r = 4 := by rw [h5.2, show dcS σ r = 4 by omega]; rfl
          exact ⟨by rw [dk_full hr8 hf ha e4]; exact INV_ref _ hV, Q, fun _ => Or.inl rfl, fun ad b sz _ => c_X6_desk_full l D ad b σ h Q sz r f a q hr8 hf ha e4⟩
theorem gj_id (σ : Sg) : gj σ σ.1 = σ := by
  refine Prod.ext (funext fun g => ?_) rfl
  show cond (gjB g) (σ.1 g) (σ.1 g) = σ.1 g
  cases gjB g <;> rfl
section TWE
variable {p : Program} {l : Launch} {e : Env} {R : Room} {s : State} {m : MethodId} {args : Array Value} {below : List Frame} {meth : Method} {c : Code} {H : Heap} {locs : List Loc} {cells slots mc ms : Nat} {Q : State → Prop} {pc : Nat} {ls : Array Slot} {rest st0 : List Value} {D : tw_G} {A : Nat → Prop} {ad : Nat → Nat} {w : tw_W}
theorem tw_callE {ι : Type} {wf : ι → tw_W} {v : Int32} {a : Array Value} (hr : va_Run p l e R s m args below meth c H locs cells slots mc ms (F0 m pc ls st0) rest (fun s1 oc t => ∃ x : ι, tw_Q D ad (wf x) (tw_A ad w H.size) (some (.int v)) a s1 oc t) (tw_A ad w H.size)) (hI : tw_I D A ad w s.heap H locs)
    (kk : ∀ (x : ι) (H1 : Heap) (locs1 : List Loc), tw_I D A ad (wf x) s.heap H1 locs1 → W p l e R s m args below meth c H1 locs1 (cells + mc) (slots + ms) Q (F0 m (pc + 3) ls (.int v :: rest))) : W p l e R s m args below meth c H locs cells slots Q (F0 m pc ls st0) := by
  intro T hT X
  obtain ⟨v, st₀, t, T', L, h0, X', hL, e1, e2, ⟨x, hv, hP, hd, hz, hk⟩, st⟩ := hr T hT X
  cases hv
  rw [h0] at hz hk
  obtain ⟨t2, a1, b1⟩ := kk x T'.heap (locs ++ L) ⟨by rw [e1]; exact hP, fun τ ε h => hI.sub _ (hd τ ε h), ⟨Nat.le_trans hI.2.2.1.1 (by rw [e1]; exact hz), fun q h1 h2 => by rw [e1, hk q (Nat.lt_of_lt_of_le h1 hI.2.2.1.1) (fun z => h2 (hI.sub q z))]; exact hI.2.2.1.2.1 q h1 h2, fun q hq => by
      rcases List.mem_append.mp hq with h | h
      · exact hI.2.2.1.2.2 q h
      · exact hI.sub _ (hL q h)⟩, hI.2.2.2⟩ T' rfl X'
  exact ⟨t2, st t2 a1, b1⟩
end TWE
def LI (j : Nat) (σ : Sg) (h : Int32) (Q : Nat → Int32) : Prop := INV σ (2147483648 + 2000000000 * j) ∧ ∃ Hn : Nat, Hn ≤ j ∧ h = nI Hn ∧ ∀ d : Nat, ∃ q : Nat, q ≤ Hn ∧ Q d = nI q
theorem LI_up {j : Nat} {σ σ' : Sg} {h : Int32} {Q Q' : Nat → Int32} (hLI : LI j σ h Q) (hN : INV σ' (2147483648 + 2000000000 * j)) (hQ : ∀ d : Nat, Q' d = Q d ∨ Q' d = 0) : LI (j + 1) σ' h Q' := by
  obtain ⟨hV, Hn, h1, h2, h3⟩ := hLI
  refine ⟨hN.mono (by omega), Hn, by omega, h2, fun d => ?_⟩
  rcases hQ d with e | e
  · rw [e]; exact h3 d
  · rw [e]; exact ⟨0, by omega, rfl⟩
theorem LI_same {j : Nat} {σ σ' : Sg} {h : Int32} {Q : Nat → Int32} (hLI : LI j σ h Q) (hN : INV σ' (2147483648 + 2000000000 * j)) : LI (j + 1) σ' h Q := LI_up hLI hN (fun _ => Or.inl rfl)
theorem LI_hand {j k r : Nat} {σ : Sg} {h : Int32} {Q : Nat → Int32} (hLI : LI j σ h Q) (hj : j ≤ 512) (hk : k < nS σ) (hr : r < 8) : LI (j + 1) (handOK σ k r).2 (h + 1) (xAsk σ h Q) := by
  obtain ⟨hV, Hn, h1, h2, h3⟩ := hLI
  refine ⟨(INV_hand hV (by omega) hk hr).mono (by omega), Hn + 1, by omega, by rw [h2]; exact nA (a := Hn) (b := 1) rfl, fun d => ?_⟩
  unfold xAsk
  by_cases e : σ.1 14 d = 1
  · rw [if_pos e]; exact ⟨Hn, by omega, h2⟩
  · rw [if_neg e]
    obtain ⟨q, hq, e⟩ := h3 d
    exact ⟨q, by omega, e⟩
theorem LI_ask {j : Nat} {σ : Sg} {h : Int32} {Q : Nat → Int32} (hLI : LI j σ h Q) (hj : j ≤ 512) (d : Nat) : ¬ xAsk σ h Q d = h + 1 := by
  obtain ⟨hV, Hn, h1, h2, h3⟩ := hLI
  have e1 : h + 1 = nI (Hn + 1) := by rw [h2]; exact nA (a := Hn) (b := 1) rfl
  rw [e1]
  unfold xAsk
  by_cases e : σ.1 14 d = 1
  · rw [if_pos e, h2]; exact nI_neq (by omega) (by omega)
  · rw [if_neg e]
    obtain ⟨q, hq, e⟩ := h3 d
    rw [e]; exact nI_neq (by omega) (by omega)
theorem LI_gj {j : Nat} {σ : Sg} {F : Nat → Nat → Int32} {h : Int32} {Q : Nat → Int32} (hLI : LI j σ h Q) : LI j (gj σ F) h Q := ⟨INV_gj hLI.1, hLI.2⟩
theorem b_bool {q : Int32} (h : q = 0 ∨ q = 1) : narrow .boolean (.int q) = .int q := by rcases h with rfl | rfl <;> rfl

theorem tsw_0_13 (x : Int32) : x = 0 ∨ x = 1 ∨ x = 2 ∨ x = 3 ∨ x = 4 ∨ x = 5 ∨ x = 6 ∨ x = 7 ∨ x = 8 ∨ x = 9 ∨ x = 10 ∨ x = 11 ∨ x = 12 ∨ x = 13 ∨ ((x.toInt < 0 ∨ 13 < x.toInt) ∧ ¬ x = 0 ∧ ¬ x = 1 ∧ ¬ x = 2 ∧ ¬ x = 3 ∧ ¬ x = 4 ∧ ¬ x = 5 ∧ ¬ x = 6 ∧ ¬ x = 7 ∧ ¬ x = 8 ∧ ¬ x = 9 ∧ ¬ x = 10 ∧ ¬ x = 11 ∧ ¬ x = 12 ∧ ¬ x = 13) := by
  by_cases n0 : x = 0
  · simp [n0]
  by_cases n1 : x = 1
  · simp [n1]
  by_cases n2 : x = 2
  · simp [n2]
  by_cases n3 : x = 3
  · simp [n3]
  by_cases n4 : x = 4
  · simp [n4]
  by_cases n5 : x = 5
  · simp [n5]
  by_cases n6 : x = 6
  · simp [n6]
  by_cases n7 : x = 7
  · simp [n7]
  by_cases n8 : x = 8
  · simp [n8]
  by_cases n9 : x = 9
  · simp [n9]
  by_cases n10 : x = 10
  · simp [n10]
  by_cases n11 : x = 11
  · simp [n11]
  by_cases n12 : x = 12
  · simp [n12]
  by_cases n13 : x = 13
  · simp [n13]
  have m0 := lv_neT n0 (a := 0) (by decide)
  have m1 := lv_neT n1 (a := 1) (by decide)
  have m2 := lv_neT n2 (a := 2) (by decide)
  have m3 := lv_neT n3 (a := 3) (by decide)
  have m4 := lv_neT n4 (a := 4) (by decide)
  have m5 := lv_neT n5 (a := 5) (by decide)
  have m6 := lv_neT n6 (a := 6) (by decide)
  have m7 := lv_neT n7 (a := 7) (by decide)
  have m8 := lv_neT n8 (a := 8) (by decide)
  have m9 := lv_neT n9 (a := 9) (by decide)
  have m10 := lv_neT n10 (a := 10) (by decide)
  have m11 := lv_neT n11 (a := 11) (by decide)
  have m12 := lv_neT n12 (a := 12) (by decide)
  have m13 := lv_neT n13 (a := 13) (by decide)
  exact Or.inr (Or.inr (Or.inr (Or.inr (Or.inr (Or.inr (Or.inr (Or.inr (Or.inr (Or.inr (Or.inr (Or.inr (Or.inr (Or.inr (⟨by omega, n0, n1, n2, n3, n4, n5, n6, n7, n8, n9, n10, n11, n12, n13⟩))))))))))))))
set_option maxHeartbeats 2000000 in
set_option maxRecDepth 100000 in
theorem arm_put {p : Program} {l : Launch} {e : Env} {s : State} {m : MethodId} {below : List Frame} {meth : Method} {c : Code} {b L : Nat} {xs : Nat → Int32} {D : tw_G} {i j cells slots : Nat} {Z : State → Prop} {ad : Nat → Nat} {H : Heap} {locs : List Loc} {ls : Array Slot} {σ : Sg} {h : Int32} {Q : Nat → Int32} (S : CallFix p m c cL_law 4 s #[Value.ref b] tw_ws RL) (hK : tw_K D s) (hX : va_X b L xs s s.heap) (hbl : b < s.heap.size) (hL : L ≤ 3072) (hi : i + 6 ≤ L) (hc : cells + 2 ≤ 747832) (hs : slots + 9 ≤ 6858752) (hj : j ≤ 512) (hLI : LI j σ h Q) (hI : tw_I D (fun q : Nat => s.heap.size ≤ q) ad (wX (wM w00 σ) σ h Q) s.heap H locs) (hl : lv_has ls 4 [(0, .ref b), (1, .ref (ad 0)), (2, .ref (ad 1000)), (3, .int (nI i))])  (hk : ∀ (ad : Nat → Nat) (H : Heap) (locs : List Loc) (σ : Sg) (h : Int32) (Q : Nat → Int32), LI (j + 1) σ h Q → tw_I D (fun q : Nat => s.heap.size ≤ q) ad (wX (wM w00 σ) σ h Q) s.heap H locs → lv_has ls 4 [(0, .ref b), (1, .ref (ad 0)), (2, .ref (ad 1000)), (3, .int (nI i))] → W p l e room_1 s m #[Value.ref b] below meth c H locs (cells + 2) (slots + 9) Z (F0 m 618 ls [])) : W p l e room_1 s m #[Value.ref b] below meth c H locs cells slots Z (F0 m 137 ls []) := by
  have hx := S.1
  have hb := S.2.1
  have hbA : ¬ (fun q : Nat => s.heap.size ≤ q) b := Nat.not_le.mpr hbl
  have hV := hLI.1
  obtain ⟨a1, q1⟩ : ∃ y : Int32, xs (nI (i + 1)).toNatClampNeg = y := ⟨_, rfl⟩
  obtain ⟨a2, q2⟩ : ∃ y : Int32, xs (nI (i + 2)).toNatClampNeg = y := ⟨_, rfl⟩
  obtain ⟨a3, q3⟩ : ∃ y : Int32, xs (nI (i + 3)).toNatClampNeg = y := ⟨_, rfl⟩
  refine lv_aload_n hx hb dL_law_137 rfl (lv_at hl 1 rfl) ?_
  refine lv_aload_n hx hb dL_law_138 rfl (lv_at hl 0 rfl) ?_
  refine lv_iload_n hx hb dL_law_139 rfl (lv_at hl 3 rfl) ?_
  refine lv_iconst (v := 1) hx hb dL_law_140 (by decide) ?_
  refine lv_iadd hx hb dL_law_141 ?_
  refine lv_eqi (v := (nI (i + 1))) (nA (a := i) (b := 1) (c := i + 1) (by omega)) ?_
  refine va_sld hx hb hX hbl hbA hI.2.2.1 (vp_in_nI (show i + 1 < L by omega) (by omega)) dL_law_142 ?_
  refine lv_eqi (v := a1) q1 ?_
  refine lv_aload_n hx hb dL_law_143 rfl (lv_at hl 0 rfl) ?_
  refine lv_iload_n hx hb dL_law_144 rfl (lv_at hl 3 rfl) ?_
  refine lv_iconst (v := 2) hx hb dL_law_145 (by decide) ?_
  refine lv_iadd hx hb dL_law_146 ?_
  refine lv_eqi (v := (nI (i + 2))) (nA (a := i) (b := 2) (c := i + 2) (by omega)) ?_
  refine va_sld hx hb hX hbl hbA hI.2.2.1 (vp_in_nI (show i + 2 < L by omega) (by omega)) dL_law_147 ?_
  refine lv_eqi (v := a2) q2 ?_
  refine lv_aload_n hx hb dL_law_148 rfl (lv_at hl 0 rfl) ?_
  refine lv_iload_n hx hb dL_law_149 rfl (lv_at hl 3 rfl) ?_
  refine lv_iconst (v := 3) hx hb dL_law_150 (by decide) ?_
  refine lv_iadd hx hb dL_law_151 ?_
  refine lv_eqi (v := (nI (i + 3))) (nA (a := i) (b := 3) (c := i + 3) (by omega)) ?_
  refine va_sld hx hb hX hbl hbA hI.2.2.1 (vp_in_nI (show i + 3 < L by omega) (by omega)) dL_law_152 ?_
  refine lv_eqi (v := a3) q3 ?_
  obtain ⟨P, hP⟩ : ∃ y : Int32 × Sg, putM σ a1 a2 a3 = y := ⟨_, rfl⟩
  have cX := c_X6_put l D ad (wM w00 σ) σ h Q H.size a1 a2 a3 hV.1 hV.2.1
  rw [hP] at cX
  refine tw_calli (tw_rV (t := 0) (As := [.int a1, .int a2, .int a3]) (rest := []) S hK hI kL_18 cX wX_0 rfl rfl ⟨Nat.le_of_ble_eq_true rfl, Nat.le_of_ble_eq_true rfl⟩ ⟨show _ ≤ 747832 by omega, show _ ≤ 6858752 by omega⟩ rfl hl.1 rfl (Nat.le_of_ble_eq_true rfl) dL_law_153) hI (fun H locs hI => ?_)
  refine lv_aload_n hx hb dL_law_156 rfl (lv_at hl 2 rfl) ?_
  refine lv_aload_n hx hb dL_law_157 rfl (lv_at hl 0 rfl) ?_
  refine lv_iload_n hx hb dL_law_158 rfl (lv_at hl 3 rfl) ?_
  refine lv_iconst (v := 1) hx hb dL_law_159 (by decide) ?_
  refine lv_iadd hx hb dL_law_160 ?_
  refine lv_eqi (v := (nI (i + 1))) (nA (a := i) (b := 1) (c := i + 1) (by omega)) ?_
  refine va_sld hx hb hX hbl hbA hI.2.2.1 (vp_in_nI (show i + 1 < L by omega) (by omega)) dL_law_161 ?_
  refine lv_eqi (v := a1) q1 ?_
  refine lv_aload_n hx hb dL_law_162 rfl (lv_at hl 0 rfl) ?_
  refine lv_iload_n hx hb dL_law_163 rfl (lv_at hl 3 rfl) ?_
  refine lv_iconst (v := 2) hx hb dL_law_164 (by decide) ?_
  refine lv_iadd hx hb dL_law_165 ?_
  refine lv_eqi (v := (nI (i + 2))) (nA (a := i) (b := 2) (c := i + 2) (by omega)) ?_
  refine va_sld hx hb hX hbl hbA hI.2.2.1 (vp_in_nI (show i + 2 < L by omega) (by omega)) dL_law_166 ?_
  refine lv_eqi (v := a2) q2 ?_
  refine lv_aload_n hx hb dL_law_167 rfl (lv_at hl 0 rfl) ?_
  refine lv_iload_n hx hb dL_law_168 rfl (lv_at hl 3 rfl) ?_
  refine lv_iconst (v := 3) hx hb dL_law_169 (by decide) ?_
  refine lv_iadd hx hb dL_law_170 ?_
  refine lv_eqi (v := (nI (i + 3))) (nA (a := i) (b := 3) (c := i + 3) (by omega)) ?_
  refine va_sld hx hb hX hbl hbA hI.2.2.1 (vp_in_nI (show i + 3 < L by omega) (by omega)) dL_law_171 ?_
  refine lv_eqi (v := a3) q3 ?_
  rw [wB] at hI
  have cM := c_X7_put l D ad (wX w00 P.2 h Q) σ H.size a1 a2 a3 hV.1
  rw [hP] at cM
  refine tw_calli (tw_rV (t := 1000) (As := [.int a1, .int a2, .int a3]) (rest := [.int P.1]) S hK hI kL_22 cM (fs := mRoot σ) rfl rfl rfl ⟨Nat.le_of_ble_eq_true rfl, Nat.le_of_ble_eq_true rfl⟩ ⟨show _ ≤ 747832 by omega, show _ ≤ 6858752 by omega⟩ rfl hl.1 rfl (Nat.le_of_ble_eq_true rfl) dL_law_172) hI (fun H locs hI => ?_)
  rw [← wB] at hI
  refine lv_icmp_eq (tgt := 618) hx hb dL_law_175 (by decide) (fun _ => ?_) (fun cc => absurd rfl cc)
  have hN := INV_put a1 a2 a3 hV (by omega)
  rw [hP] at hN
  have hN := LI_same hLI hN
  refine W.widen (k := cells + 2) (n := slots + 9) (by omega) (by omega) ?_
  exact hk ad H locs _ _ _ hN hI hl

set_option maxHeartbeats 2000000 in
set_option maxRecDepth 100000 in
theorem arm_get {p : Program} {l : Launch} {e : Env} {s : State} {m : MethodId} {below : List Frame} {meth : Method} {c : Code} {b L : Nat} {xs : Nat → Int32} {D : tw_G} {i j cells slots : Nat} {Z : State → Prop} {ad : Nat → Nat} {H : Heap} {locs : List Loc} {ls : Array Slot} {σ : Sg} {h : Int32} {Q : Nat → Int32} (S : CallFix p m c cL_law 4 s #[Value.ref b] tw_ws RL) (hK : tw_K D s) (hX : va_X b L xs s s.heap) (hbl : b < s.heap.size) (hL : L ≤ 3072) (hi : i + 6 ≤ L) (hc : cells + 2 ≤ 747832) (hs : slots + 9 ≤ 6858752) (hj : j ≤ 512) (hLI : LI j σ h Q) (hI : tw_I D (fun q : Nat => s.heap.size ≤ q) ad (wX (wM w00 σ) σ h Q) s.heap H locs) (hl : lv_has ls 4 [(0, .ref b), (1, .ref (ad 0)), (2, .ref (ad 1000)), (3, .int (nI i))])  (hk : ∀ (ad : Nat → Nat) (H : Heap) (locs : List Loc) (σ : Sg) (h : Int32) (Q : Nat → Int32), LI (j + 1) σ h Q → tw_I D (fun q : Nat => s.heap.size ≤ q) ad (wX (wM w00 σ) σ h Q) s.heap H locs → lv_has ls 4 [(0, .ref b), (1, .ref (ad 0)), (2, .ref (ad 1000)), (3, .int (nI i))] → W p l e room_1 s m #[Value.ref b] below meth c H locs (cells + 2) (slots + 9) Z (F0 m 618 ls [])) : W p l e room_1 s m #[Value.ref b] below meth c H locs cells slots Z (F0 m 180 ls []) := by
  have hx := S.1
  have hb := S.2.1
  have hbA : ¬ (fun q : Nat => s.heap.size ≤ q) b := Nat.not_le.mpr hbl
  have hV := hLI.1
  obtain ⟨a1, q1⟩ : ∃ y : Int32, xs (nI (i + 1)).toNatClampNeg = y := ⟨_, rfl⟩
  obtain ⟨a2, q2⟩ : ∃ y : Int32, xs (nI (i + 2)).toNatClampNeg = y := ⟨_, rfl⟩
  refine lv_aload_n hx hb dL_law_180 rfl (lv_at hl 1 rfl) ?_
  refine lv_aload_n hx hb dL_law_181 rfl (lv_at hl 0 rfl) ?_
  refine lv_iload_n hx hb dL_law_182 rfl (lv_at hl 3 rfl) ?_
  refine lv_iconst (v := 1) hx hb dL_law_183 (by decide) ?_
  refine lv_iadd hx hb dL_law_184 ?_
  refine lv_eqi (v := (nI (i + 1))) (nA (a := i) (b := 1) (c := i + 1) (by omega)) ?_
  refine va_sld hx hb hX hbl hbA hI.2.2.1 (vp_in_nI (show i + 1 < L by omega) (by omega)) dL_law_185 ?_
  refine lv_eqi (v := a1) q1 ?_
  refine lv_aload_n hx hb dL_law_186 rfl (lv_at hl 0 rfl) ?_
  refine lv_iload_n hx hb dL_law_187 rfl (lv_at hl 3 rfl) ?_
  refine lv_iconst (v := 2) hx hb dL_law_188 (by decide) ?_
  refine lv_iadd hx hb dL_law_189 ?_
  refine lv_eqi (v := (nI (i + 2))) (nA (a := i) (b := 2) (c := i + 2) (by omega)) ?_
  refine va_sld hx hb hX hbl hbA hI.2.2.1 (vp_in_nI (show i + 2 < L by omega) (by omega)) dL_law_190 ?_
  refine lv_eqi (v := a2) q2 ?_
  obtain ⟨P, hP⟩ : ∃ y : Int32 × Sg, getM σ a1 a2 = y := ⟨_, rfl⟩
  have cX := c_X6_get l D ad (wM w00 σ) σ h Q H.size a1 a2 hV.1 (INV_L hV)
  rw [hP] at cX
  refine tw_calli (tw_rV (t := 0) (As := [.int a1, .int a2]) (rest := []) S hK hI kL_23 cX wX_0 rfl rfl ⟨Nat.le_of_ble_eq_true rfl, Nat.le_of_ble_eq_true rfl⟩ ⟨show _ ≤ 747832 by omega, show _ ≤ 6858752 by omega⟩ rfl hl.1 rfl (Nat.le_of_ble_eq_true rfl) dL_law_191) hI (fun H locs hI => ?_)
  refine lv_aload_n hx hb dL_law_194 rfl (lv_at hl 2 rfl) ?_
  refine lv_aload_n hx hb dL_law_195 rfl (lv_at hl 0 rfl) ?_
  refine lv_iload_n hx hb dL_law_196 rfl (lv_at hl 3 rfl) ?_
  refine lv_iconst (v := 1) hx hb dL_law_197 (by decide) ?_
  refine lv_iadd hx hb dL_law_198 ?_
  refine lv_eqi (v := (nI (i + 1))) (nA (a := i) (b := 1) (c := i + 1) (by omega)) ?_
  refine va_sld hx hb hX hbl hbA hI.2.2.1 (vp_in_nI (show i + 1 < L by omega) (by omega)) dL_law_199 ?_
  refine lv_eqi (v := a1) q1 ?_
  refine lv_aload_n hx hb dL_law_200 rfl (lv_at hl 0 rfl) ?_
  refine lv_iload_n hx hb dL_law_201 rfl (lv_at hl 3 rfl) ?_
  refine lv_iconst (v := 2) hx hb dL_law_202 (by decide) ?_
  refine lv_iadd hx hb dL_law_203 ?_
  refine lv_eqi (v := (nI (i + 2))) (nA (a := i) (b := 2) (c := i + 2) (by omega)) ?_
  refine va_sld hx hb hX hbl hbA hI.2.2.1 (vp_in_nI (show i + 2 < L by omega) (by omega)) dL_law_204 ?_
  refine lv_eqi (v := a2) q2 ?_
  rw [wB] at hI
  have cM := c_X7_get l D ad (wX w00 P.2 h Q) σ H.size a1 a2 hV.1
  rw [hP] at cM
  refine tw_calli (tw_rV (t := 1000) (As := [.int a1, .int a2]) (rest := [.int P.1]) S hK hI kL_26 cM (fs := mRoot σ) rfl rfl rfl ⟨Nat.le_of_ble_eq_true rfl, Nat.le_of_ble_eq_true rfl⟩ ⟨show _ ≤ 747832 by omega, show _ ≤ 6858752 by omega⟩ rfl hl.1 rfl (Nat.le_of_ble_eq_true rfl) dL_law_205) hI (fun H locs hI => ?_)
  rw [← wB] at hI
  refine lv_icmp_eq (tgt := 618) hx hb dL_law_208 (by decide) (fun _ => ?_) (fun cc => absurd rfl cc)
  have hN := INV_get a1 a2 hV
  rw [hP] at hN
  have hN := LI_same hLI hN
  refine W.widen (k := cells + 2) (n := slots + 9) (by omega) (by omega) ?_
  exact hk ad H locs _ _ _ hN hI hl

set_option maxHeartbeats 2000000 in
set_option maxRecDepth 100000 in
theorem arm_lay {p : Program} {l : Launch} {e : Env} {s : State} {m : MethodId} {below : List Frame} {meth : Method} {c : Code} {b L : Nat} {xs : Nat → Int32} {D : tw_G} {i j cells slots : Nat} {Z : State → Prop} {ad : Nat → Nat} {H : Heap} {locs : List Loc} {ls : Array Slot} {σ : Sg} {h : Int32} {Q : Nat → Int32} (S : CallFix p m c cL_law 4 s #[Value.ref b] tw_ws RL) (hK : tw_K D s) (hX : va_X b L xs s s.heap) (hbl : b < s.heap.size) (hL : L ≤ 3072) (hi : i + 6 ≤ L) (hc : cells + 2 ≤ 747832) (hs : slots + 9 ≤ 6858752) (hj : j ≤ 512) (hLI : LI j σ h Q) (hI : tw_I D (fun q : Nat => s.heap.size ≤ q) ad (wX (wM w00 σ) σ h Q) s.heap H locs) (hl : lv_has ls 4 [(0, .ref b), (1, .ref (ad 0)), (2, .ref (ad 1000)), (3, .int (nI i))])  (hk : ∀ (ad : Nat → Nat) (H : Heap) (locs : List Loc) (σ : Sg) (h : Int32) (Q : Nat → Int32), LI (j + 1) σ h Q → tw_I D (fun q : Nat => s.heap.size ≤ q) ad (wX (wM w00 σ) σ h Q) s.heap H locs → lv_has ls 4 [(0, .ref b), (1, .ref (ad 0)), (2, .ref (ad 1000)), (3, .int (nI i))] → W p l e room_1 s m #[Value.ref b] below meth c H locs (cells + 2) (slots + 9) Z (F0 m 618 ls [])) : W p l e room_1 s m #[Value.ref b] below meth c H locs cells slots Z (F0 m 213 ls []) := by
  have hx := S.1
  have hb := S.2.1
  have hbA : ¬ (fun q : Nat => s.heap.size ≤ q) b := Nat.not_le.mpr hbl
  have hV := hLI.1
  obtain ⟨a1, q1⟩ : ∃ y : Int32, xs (nI (i + 1)).toNatClampNeg = y := ⟨_, rfl⟩
  obtain ⟨a2, q2⟩ : ∃ y : Int32, xs (nI (i + 2)).toNatClampNeg = y := ⟨_, rfl⟩
  obtain ⟨a3, q3⟩ : ∃ y : Int32, xs (nI (i + 3)).toNatClampNeg = y := ⟨_, rfl⟩
  refine lv_aload_n hx hb dL_law_213 rfl (lv_at hl 1 rfl) ?_
  refine lv_aload_n hx hb dL_law_214 rfl (lv_at hl 0 rfl) ?_
  refine lv_iload_n hx hb dL_law_215 rfl (lv_at hl 3 rfl) ?_
  refine lv_iconst (v := 1) hx hb dL_law_216 (by decide) ?_
  refine lv_iadd hx hb dL_law_217 ?_
  refine lv_eqi (v := (nI (i + 1))) (nA (a := i) (b := 1) (c := i + 1) (by omega)) ?_
  refine va_sld hx hb hX hbl hbA hI.2.2.1 (vp_in_nI (show i + 1 < L by omega) (by omega)) dL_law_218 ?_
  refine lv_eqi (v := a1) q1 ?_
  refine lv_aload_n hx hb dL_law_219 rfl (lv_at hl 0 rfl) ?_
  refine lv_iload_n hx hb dL_law_220 rfl (lv_at hl 3 rfl) ?_
  refine lv_iconst (v := 2) hx hb dL_law_221 (by decide) ?_
  refine lv_iadd hx hb dL_law_222 ?_
  refine lv_eqi (v := (nI (i + 2))) (nA (a := i) (b := 2) (c := i + 2) (by omega)) ?_
  refine va_sld hx hb hX hbl hbA hI.2.2.1 (vp_in_nI (show i + 2 < L by omega) (by omega)) dL_law_223 ?_
  refine lv_eqi (v := a2) q2 ?_
  refine lv_aload_n hx hb dL_law_224 rfl (lv_at hl 0 rfl) ?_
  refine lv_iload_n hx hb dL_law_225 rfl (lv_at hl 3 rfl) ?_
  refine lv_iconst (v := 3) hx hb dL_law_226 (by decide) ?_
  refine lv_iadd hx hb dL_law_227 ?_
  refine lv_eqi (v := (nI (i + 3))) (nA (a := i) (b := 3) (c := i + 3) (by omega)) ?_
  refine va_sld hx hb hX hbl hbA hI.2.2.1 (vp_in_nI (show i + 3 < L by omega) (by omega)) dL_law_228 ?_
  refine lv_eqi (v := a3) q3 ?_
  obtain ⟨P, hP⟩ : ∃ y : Int32 × Sg, layM σ a1 a2 a3 = y := ⟨_, rfl⟩
  have cX := c_X6_lay l D ad (wM w00 σ) σ h Q H.size a1 a2 a3 hV.1 hV.2.1
  rw [hP] at cX
  refine tw_calli (tw_rV (t := 0) (As := [.int a1, .int a2, .int a3]) (rest := []) S hK hI kL_27 cX wX_0 rfl rfl ⟨Nat.le_of_ble_eq_true rfl, Nat.le_of_ble_eq_true rfl⟩ ⟨show _ ≤ 747832 by omega, show _ ≤ 6858752 by omega⟩ rfl hl.1 rfl (Nat.le_of_ble_eq_true rfl) dL_law_229) hI (fun H locs hI => ?_)
  refine lv_aload_n hx hb dL_law_232 rfl (lv_at hl 2 rfl) ?_
  refine lv_aload_n hx hb dL_law_233 rfl (lv_at hl 0 rfl) ?_
  refine lv_iload_n hx hb dL_law_234 rfl (lv_at hl 3 rfl) ?_
  refine lv_iconst (v := 1) hx hb dL_law_235 (by decide) ?_
  refine lv_iadd hx hb dL_law_236 ?_
  refine lv_eqi (v := (nI (i + 1))) (nA (a := i) (b := 1) (c := i + 1) (by omega)) ?_
  refine va_sld hx hb hX hbl hbA hI.2.2.1 (vp_in_nI (show i + 1 < L by omega) (by omega)) dL_law_237 ?_
  refine lv_eqi (v := a1) q1 ?_
  refine lv_aload_n hx hb dL_law_238 rfl (lv_at hl 0 rfl) ?_
  refine lv_iload_n hx hb dL_law_239 rfl (lv_at hl 3 rfl) ?_
  refine lv_iconst (v := 2) hx hb dL_law_240 (by decide) ?_
  refine lv_iadd hx hb dL_law_241 ?_
  refine lv_eqi (v := (nI (i + 2))) (nA (a := i) (b := 2) (c := i + 2) (by omega)) ?_
  refine va_sld hx hb hX hbl hbA hI.2.2.1 (vp_in_nI (show i + 2 < L by omega) (by omega)) dL_law_242 ?_
  refine lv_eqi (v := a2) q2 ?_
  refine lv_aload_n hx hb dL_law_243 rfl (lv_at hl 0 rfl) ?_
  refine lv_iload_n hx hb dL_law_244 rfl (lv_at hl 3 rfl) ?_
  refine lv_iconst (v := 3) hx hb dL_law_245 (by decide) ?_
  refine lv_iadd hx hb dL_law_246 ?_
  refine lv_eqi (v := (nI (i + 3))) (nA (a := i) (b := 3) (c := i + 3) (by omega)) ?_
  refine va_sld hx hb hX hbl hbA hI.2.2.1 (vp_in_nI (show i + 3 < L by omega) (by omega)) dL_law_247 ?_
  refine lv_eqi (v := a3) q3 ?_
  rw [wB] at hI
  have cM := c_X7_lay l D ad (wX w00 P.2 h Q) σ H.size a1 a2 a3 hV.1
  rw [hP] at cM
  refine tw_calli (tw_rV (t := 1000) (As := [.int a1, .int a2, .int a3]) (rest := [.int P.1]) S hK hI kL_30 cM (fs := mRoot σ) rfl rfl rfl ⟨Nat.le_of_ble_eq_true rfl, Nat.le_of_ble_eq_true rfl⟩ ⟨show _ ≤ 747832 by omega, show _ ≤ 6858752 by omega⟩ rfl hl.1 rfl (Nat.le_of_ble_eq_true rfl) dL_law_248) hI (fun H locs hI => ?_)
  rw [← wB] at hI
  refine lv_icmp_eq (tgt := 618) hx hb dL_law_251 (by decide) (fun _ => ?_) (fun cc => absurd rfl cc)
  have hN := INV_lay a1 a2 a3 hV
  rw [hP] at hN
  have hN := LI_same hLI hN
  refine W.widen (k := cells + 2) (n := slots + 9) (by omega) (by omega) ?_
  exact hk ad H locs _ _ _ hN hI hl

set_option maxHeartbeats 2000000 in
set_option maxRecDepth 100000 in
theorem arm_at {p : Program} {l : Launch} {e : Env} {s : State} {m : MethodId} {below : List Frame} {meth : Method} {c : Code} {b L : Nat} {xs : Nat → Int32} {D : tw_G} {i j cells slots : Nat} {Z : State → Prop} {ad : Nat → Nat} {H : Heap} {locs : List Loc} {ls : Array Slot} {σ : Sg} {h : Int32} {Q : Nat → Int32} (S : CallFix p m c cL_law 4 s #[Value.ref b] tw_ws RL) (hK : tw_K D s) (hX : va_X b L xs s s.heap) (hbl : b < s.heap.size) (hL : L ≤ 3072) (hi : i + 6 ≤ L) (hc : cells + 2 ≤ 747832) (hs : slots + 9 ≤ 6858752) (hj : j ≤ 512) (hLI : LI j σ h Q) (hI : tw_I D (fun q : Nat => s.heap.size ≤ q) ad (wX (wM w00 σ) σ h Q) s.heap H locs) (hl : lv_has ls 4 [(0, .ref b), (1, .ref (ad 0)), (2, .ref (ad 1000)), (3, .int (nI i))])  (hk : ∀ (ad : Nat → Nat) (H : Heap) (locs : List Loc) (σ : Sg) (h : Int32) (Q : Nat → Int32), LI (j + 1) σ h Q → tw_I D (fun q : Nat => s.heap.size ≤ q) ad (wX (wM w00 σ) σ h Q) s.heap H locs → lv_has ls 4 [(0, .ref b), (1, .ref (ad 0)), (2, .ref (ad 1000)), (3, .int (nI i))] → W p l e room_1 s m #[Value.ref b] below meth c H locs (cells + 2) (slots + 9) Z (F0 m 618 ls [])) : W p l e room_1 s m #[Value.ref b] below meth c H locs cells slots Z (F0 m 256 ls []) := by
  have hx := S.1
  have hb := S.2.1
  have hbA : ¬ (fun q : Nat => s.heap.size ≤ q) b := Nat.not_le.mpr hbl
  have hV := hLI.1
  obtain ⟨a1, q1⟩ : ∃ y : Int32, xs (nI (i + 1)).toNatClampNeg = y := ⟨_, rfl⟩
  obtain ⟨a2, q2⟩ : ∃ y : Int32, xs (nI (i + 2)).toNatClampNeg = y := ⟨_, rfl⟩
  refine lv_aload_n hx hb dL_law_256 rfl (lv_at hl 1 rfl) ?_
  refine lv_aload_n hx hb dL_law_257 rfl (lv_at hl 0 rfl) ?_
  refine lv_iload_n hx hb dL_law_258 rfl (lv_at hl 3 rfl) ?_
  refine lv_iconst (v := 1) hx hb dL_law_259 (by decide) ?_
  refine lv_iadd hx hb dL_law_260 ?_
  refine lv_eqi (v := (nI (i + 1))) (nA (a := i) (b := 1) (c := i + 1) (by omega)) ?_
  refine va_sld hx hb hX hbl hbA hI.2.2.1 (vp_in_nI (show i + 1 < L by omega) (by omega)) dL_law_261 ?_
  refine lv_eqi (v := a1) q1 ?_
  refine lv_aload_n hx hb dL_law_262 rfl (lv_at hl 0 rfl) ?_
  refine lv_iload_n hx hb dL_law_263 rfl (lv_at hl 3 rfl) ?_
  refine lv_iconst (v := 2) hx hb dL_law_264 (by decide) ?_
  refine lv_iadd hx hb dL_law_265 ?_
  refine lv_eqi (v := (nI (i + 2))) (nA (a := i) (b := 2) (c := i + 2) (by omega)) ?_
  refine va_sld hx hb hX hbl hbA hI.2.2.1 (vp_in_nI (show i + 2 < L by omega) (by omega)) dL_law_266 ?_
  refine lv_eqi (v := a2) q2 ?_
  obtain ⟨P, hP⟩ : ∃ y : Int32 × Sg, atM σ a1 a2 = y := ⟨_, rfl⟩
  have cX := c_X6_at l D ad (wM w00 σ) σ h Q H.size a1 a2 hV.1 hV.2.2.1
  rw [hP] at cX
  refine tw_calli (tw_rV (t := 0) (As := [.int a1, .int a2]) (rest := []) S hK hI kL_31 cX wX_0 rfl rfl ⟨Nat.le_of_ble_eq_true rfl, Nat.le_of_ble_eq_true rfl⟩ ⟨show _ ≤ 747832 by omega, show _ ≤ 6858752 by omega⟩ rfl hl.1 rfl (Nat.le_of_ble_eq_true rfl) dL_law_267) hI (fun H locs hI => ?_)
  refine lv_aload_n hx hb dL_law_270 rfl (lv_at hl 2 rfl) ?_
  refine lv_aload_n hx hb dL_law_271 rfl (lv_at hl 0 rfl) ?_
  refine lv_iload_n hx hb dL_law_272 rfl (lv_at hl 3 rfl) ?_
  refine lv_iconst (v := 1) hx hb dL_law_273 (by decide) ?_
  refine lv_iadd hx hb dL_law_274 ?_
  refine lv_eqi (v := (nI (i + 1))) (nA (a := i) (b := 1) (c := i + 1) (by omega)) ?_
  refine va_sld hx hb hX hbl hbA hI.2.2.1 (vp_in_nI (show i + 1 < L by omega) (by omega)) dL_law_275 ?_
  refine lv_eqi (v := a1) q1 ?_
  refine lv_aload_n hx hb dL_law_276 rfl (lv_at hl 0 rfl) ?_
  refine lv_iload_n hx hb dL_law_277 rfl (lv_at hl 3 rfl) ?_
  refine lv_iconst (v := 2) hx hb dL_law_278 (by decide) ?_
  refine lv_iadd hx hb dL_law_279 ?_
  refine lv_eqi (v := (nI (i + 2))) (nA (a := i) (b := 2) (c := i + 2) (by omega)) ?_
  refine va_sld hx hb hX hbl hbA hI.2.2.1 (vp_in_nI (show i + 2 < L by omega) (by omega)) dL_law_280 ?_
  refine lv_eqi (v := a2) q2 ?_
  rw [wB] at hI
  have cM := c_X7_at l D ad (wX w00 P.2 h Q) σ H.size a1 a2 hV.1
  rw [hP] at cM
  refine tw_calli (tw_rV (t := 1000) (As := [.int a1, .int a2]) (rest := [.int P.1]) S hK hI kL_34 cM (fs := mRoot σ) rfl rfl rfl ⟨Nat.le_of_ble_eq_true rfl, Nat.le_of_ble_eq_true rfl⟩ ⟨show _ ≤ 747832 by omega, show _ ≤ 6858752 by omega⟩ rfl hl.1 rfl (Nat.le_of_ble_eq_true rfl) dL_law_281) hI (fun H locs hI => ?_)
  rw [← wB] at hI
  refine lv_icmp_eq (tgt := 618) hx hb dL_law_284 (by decide) (fun _ => ?_) (fun cc => absurd rfl cc)
  have hN := INV_at a1 a2 hV
  rw [hP] at hN
  have hN := LI_same hLI hN
  refine W.widen (k := cells + 2) (n := slots + 9) (by omega) (by omega) ?_
  exact hk ad H locs _ _ _ hN hI hl

set_option maxHeartbeats 2000000 in
set_option maxRecDepth 100000 in
theorem arm_is {p : Program} {l : Launch} {e : Env} {s : State} {m : MethodId} {below : List Frame} {meth : Method} {c : Code} {b L : Nat} {xs : Nat → Int32} {D : tw_G} {i j cells slots : Nat} {Z : State → Prop} {ad : Nat → Nat} {H : Heap} {locs : List Loc} {ls : Array Slot} {σ : Sg} {h : Int32} {Q : Nat → Int32} (S : CallFix p m c cL_law 4 s #[Value.ref b] tw_ws RL) (hK : tw_K D s) (hX : va_X b L xs s s.heap) (hbl : b < s.heap.size) (hL : L ≤ 3072) (hi : i + 6 ≤ L) (hc : cells + 2 ≤ 747832) (hs : slots + 9 ≤ 6858752) (hj : j ≤ 512) (hLI : LI j σ h Q) (hI : tw_I D (fun q : Nat => s.heap.size ≤ q) ad (wX (wM w00 σ) σ h Q) s.heap H locs) (hl : lv_has ls 4 [(0, .ref b), (1, .ref (ad 0)), (2, .ref (ad 1000)), (3, .int (nI i))])  (hk : ∀ (ad : Nat → Nat) (H : Heap) (locs : List Loc) (σ : Sg) (h : Int32) (Q : Nat → Int32), LI (j + 1) σ h Q → tw_I D (fun q : Nat => s.heap.size ≤ q) ad (wX (wM w00 σ) σ h Q) s.heap H locs → lv_has ls 4 [(0, .ref b), (1, .ref (ad 0)), (2, .ref (ad 1000)), (3, .int (nI i))] → W p l e room_1 s m #[Value.ref b] below meth c H locs (cells + 2) (slots + 9) Z (F0 m 618 ls [])) : W p l e room_1 s m #[Value.ref b] below meth c H locs cells slots Z (F0 m 289 ls []) := by
  have hx := S.1
  have hb := S.2.1
  have hbA : ¬ (fun q : Nat => s.heap.size ≤ q) b := Nat.not_le.mpr hbl
  have hV := hLI.1
  obtain ⟨a1, q1⟩ : ∃ y : Int32, xs (nI (i + 1)).toNatClampNeg = y := ⟨_, rfl⟩
  obtain ⟨a2, q2⟩ : ∃ y : Int32, xs (nI (i + 2)).toNatClampNeg = y := ⟨_, rfl⟩
  refine lv_aload_n hx hb dL_law_289 rfl (lv_at hl 1 rfl) ?_
  refine lv_aload_n hx hb dL_law_290 rfl (lv_at hl 0 rfl) ?_
  refine lv_iload_n hx hb dL_law_291 rfl (lv_at hl 3 rfl) ?_
  refine lv_iconst (v := 1) hx hb dL_law_292 (by decide) ?_
  refine lv_iadd hx hb dL_law_293 ?_
  refine lv_eqi (v := (nI (i + 1))) (nA (a := i) (b := 1) (c := i + 1) (by omega)) ?_
  refine va_sld hx hb hX hbl hbA hI.2.2.1 (vp_in_nI (show i + 1 < L by omega) (by omega)) dL_law_294 ?_
  refine lv_eqi (v := a1) q1 ?_
  refine lv_aload_n hx hb dL_law_295 rfl (lv_at hl 0 rfl) ?_
  refine lv_iload_n hx hb dL_law_296 rfl (lv_at hl 3 rfl) ?_
  refine lv_iconst (v := 2) hx hb dL_law_297 (by decide) ?_
  refine lv_iadd hx hb dL_law_298 ?_
  refine lv_eqi (v := (nI (i + 2))) (nA (a := i) (b := 2) (c := i + 2) (by omega)) ?_
  refine va_sld hx hb hX hbl hbA hI.2.2.1 (vp_in_nI (show i + 2 < L by omega) (by omega)) dL_law_299 ?_
  refine lv_eqi (v := a2) q2 ?_
  obtain ⟨P, hP⟩ : ∃ y : Int32 × Sg, isM σ a1 a2 = y := ⟨_, rfl⟩
  have cX := c_X6_is l D ad (wM w00 σ) σ h Q H.size a1 a2 hV.1 hV.2.1
  rw [hP] at cX
  refine tw_calli (tw_rV (t := 0) (As := [.int a1, .int a2]) (rest := []) S hK hI kL_35 cX wX_0 rfl rfl ⟨Nat.le_of_ble_eq_true rfl, Nat.le_of_ble_eq_true rfl⟩ ⟨show _ ≤ 747832 by omega, show _ ≤ 6858752 by omega⟩ rfl hl.1 rfl (Nat.le_of_ble_eq_true rfl) dL_law_300) hI (fun H locs hI => ?_)
  refine lv_aload_n hx hb dL_law_303 rfl (lv_at hl 2 rfl) ?_
  refine lv_aload_n hx hb dL_law_304 rfl (lv_at hl 0 rfl) ?_
  refine lv_iload_n hx hb dL_law_305 rfl (lv_at hl 3 rfl) ?_
  refine lv_iconst (v := 1) hx hb dL_law_306 (by decide) ?_
  refine lv_iadd hx hb dL_law_307 ?_
  refine lv_eqi (v := (nI (i + 1))) (nA (a := i) (b := 1) (c := i + 1) (by omega)) ?_
  refine va_sld hx hb hX hbl hbA hI.2.2.1 (vp_in_nI (show i + 1 < L by omega) (by omega)) dL_law_308 ?_
  refine lv_eqi (v := a1) q1 ?_
  refine lv_aload_n hx hb dL_law_309 rfl (lv_at hl 0 rfl) ?_
  refine lv_iload_n hx hb dL_law_310 rfl (lv_at hl 3 rfl) ?_
  refine lv_iconst (v := 2) hx hb dL_law_311 (by decide) ?_
  refine lv_iadd hx hb dL_law_312 ?_
  refine lv_eqi (v := (nI (i + 2))) (nA (a := i) (b := 2) (c := i + 2) (by omega)) ?_
  refine va_sld hx hb hX hbl hbA hI.2.2.1 (vp_in_nI (show i + 2 < L by omega) (by omega)) dL_law_313 ?_
  refine lv_eqi (v := a2) q2 ?_
  rw [wB] at hI
  have cM := c_X7_is l D ad (wX w00 P.2 h Q) σ H.size a1 a2 hV.1
  rw [hP] at cM
  refine tw_calli (tw_rV (t := 1000) (As := [.int a1, .int a2]) (rest := [.int P.1]) S hK hI kL_38 cM (fs := mRoot σ) rfl rfl rfl ⟨Nat.le_of_ble_eq_true rfl, Nat.le_of_ble_eq_true rfl⟩ ⟨show _ ≤ 747832 by omega, show _ ≤ 6858752 by omega⟩ rfl hl.1 rfl (Nat.le_of_ble_eq_true rfl) dL_law_314) hI (fun H locs hI => ?_)
  rw [← wB] at hI
  refine lv_icmp_eq (tgt := 618) hx hb dL_law_317 (by decide) (fun _ => ?_) (fun cc => absurd rfl cc)
  have hN := INV_is a1 a2 hV
  rw [hP] at hN
  have hN := LI_same hLI hN
  refine W.widen (k := cells + 2) (n := slots + 9) (by omega) (by omega) ?_
  exact hk ad H locs _ _ _ hN hI hl

set_option maxHeartbeats 2000000 in
set_option maxRecDepth 100000 in
theorem arm_stamps {p : Program} {l : Launch} {e : Env} {s : State} {m : MethodId} {below : List Frame} {meth : Method} {c : Code} {b L : Nat} {xs : Nat → Int32} {D : tw_G} {i j cells slots : Nat} {Z : State → Prop} {ad : Nat → Nat} {H : Heap} {locs : List Loc} {ls : Array Slot} {σ : Sg} {h : Int32} {Q : Nat → Int32} (S : CallFix p m c cL_law 4 s #[Value.ref b] tw_ws RL) (hK : tw_K D s) (hX : va_X b L xs s s.heap) (hbl : b < s.heap.size) (hL : L ≤ 3072) (hi : i + 6 ≤ L) (hc : cells + 2 ≤ 747832) (hs : slots + 9 ≤ 6858752) (hj : j ≤ 512) (hLI : LI j σ h Q) (hI : tw_I D (fun q : Nat => s.heap.size ≤ q) ad (wX (wM w00 σ) σ h Q) s.heap H locs) (hl : lv_has ls 4 [(0, .ref b), (1, .ref (ad 0)), (2, .ref (ad 1000)), (3, .int (nI i))])  (hk : ∀ (ad : Nat → Nat) (H : Heap) (locs : List Loc) (σ : Sg) (h : Int32) (Q : Nat → Int32), LI (j + 1) σ h Q → tw_I D (fun q : Nat => s.heap.size ≤ q) ad (wX (wM w00 σ) σ h Q) s.heap H locs → lv_has ls 4 [(0, .ref b), (1, .ref (ad 0)), (2, .ref (ad 1000)), (3, .int (nI i))] → W p l e room_1 s m #[Value.ref b] below meth c H locs (cells + 2) (slots + 9) Z (F0 m 618 ls [])) : W p l e room_1 s m #[Value.ref b] below meth c H locs cells slots Z (F0 m 322 ls []) := by
  have hx := S.1
  have hb := S.2.1
  have hbA : ¬ (fun q : Nat => s.heap.size ≤ q) b := Nat.not_le.mpr hbl
  have hV := hLI.1
  obtain ⟨a1, q1⟩ : ∃ y : Int32, xs (nI (i + 1)).toNatClampNeg = y := ⟨_, rfl⟩
  refine lv_aload_n hx hb dL_law_322 rfl (lv_at hl 1 rfl) ?_
  refine lv_aload_n hx hb dL_law_323 rfl (lv_at hl 0 rfl) ?_
  refine lv_iload_n hx hb dL_law_324 rfl (lv_at hl 3 rfl) ?_
  refine lv_iconst (v := 1) hx hb dL_law_325 (by decide) ?_
  refine lv_iadd hx hb dL_law_326 ?_
  refine lv_eqi (v := (nI (i + 1))) (nA (a := i) (b := 1) (c := i + 1) (by omega)) ?_
  refine va_sld hx hb hX hbl hbA hI.2.2.1 (vp_in_nI (show i + 1 < L by omega) (by omega)) dL_law_327 ?_
  refine lv_eqi (v := a1) q1 ?_
  obtain ⟨P, hP⟩ : ∃ y : Int32 × Sg, stampsM σ a1 = y := ⟨_, rfl⟩
  have cX := c_X6_stamps l D ad (wM w00 σ) σ h Q H.size a1 hV.1
  rw [hP] at cX
  refine tw_calli (tw_rV (t := 0) (As := [.int a1]) (rest := []) S hK hI kL_39 cX wX_0 rfl rfl ⟨Nat.le_of_ble_eq_true rfl, Nat.le_of_ble_eq_true rfl⟩ ⟨show _ ≤ 747832 by omega, show _ ≤ 6858752 by omega⟩ rfl hl.1 rfl (Nat.le_of_ble_eq_true rfl) dL_law_328) hI (fun H locs hI => ?_)
  refine lv_aload_n hx hb dL_law_331 rfl (lv_at hl 2 rfl) ?_
  refine lv_aload_n hx hb dL_law_332 rfl (lv_at hl 0 rfl) ?_
  refine lv_iload_n hx hb dL_law_333 rfl (lv_at hl 3 rfl) ?_
  refine lv_iconst (v := 1) hx hb dL_law_334 (by decide) ?_
  refine lv_iadd hx hb dL_law_335 ?_
  refine lv_eqi (v := (nI (i + 1))) (nA (a := i) (b := 1) (c := i + 1) (by omega)) ?_
  refine va_sld hx hb hX hbl hbA hI.2.2.1 (vp_in_nI (show i + 1 < L by omega) (by omega)) dL_law_336 ?_
  refine lv_eqi (v := a1) q1 ?_
  rw [wB] at hI
  have cM := c_X7_stamps l D ad (wX w00 P.2 h Q) σ H.size a1 hV.1
  rw [hP] at cM
  refine tw_calli (tw_rV (t := 1000) (As := [.int a1]) (rest := [.int P.1]) S hK hI kL_43 cM (fs := mRoot σ) rfl rfl rfl ⟨Nat.le_of_ble_eq_true rfl, Nat.le_of_ble_eq_true rfl⟩ ⟨show _ ≤ 747832 by omega, show _ ≤ 6858752 by omega⟩ rfl hl.1 rfl (Nat.le_of_ble_eq_true rfl) dL_law_337) hI (fun H locs hI => ?_)
  rw [← wB] at hI
  refine lv_icmp_eq (tgt := 618) hx hb dL_law_340 (by decide) (fun _ => ?_) (fun cc => absurd rfl cc)
  have hN := INV_stamps a1 hV
  rw [hP] at hN
  have hN := LI_same hLI hN
  refine W.widen (k := cells + 2) (n := slots + 9) (by omega) (by omega) ?_
  exact hk ad H locs _ _ _ hN hI hl

set_option maxHeartbeats 2000000 in
set_option maxRecDepth 100000 in
theorem arm_told {p : Program} {l : Launch} {e : Env} {s : State} {m : MethodId} {below : List Frame} {meth : Method} {c : Code} {b L : Nat} {xs : Nat → Int32} {D : tw_G} {i j cells slots : Nat} {Z : State → Prop} {ad : Nat → Nat} {H : Heap} {locs : List Loc} {ls : Array Slot} {σ : Sg} {h : Int32} {Q : Nat → Int32} (S : CallFix p m c cL_law 4 s #[Value.ref b] tw_ws RL) (hK : tw_K D s) (hX : va_X b L xs s s.heap) (hbl : b < s.heap.size) (hL : L ≤ 3072) (hi : i + 6 ≤ L) (hc : cells + 2 ≤ 747832) (hs : slots + 9 ≤ 6858752) (hj : j ≤ 512) (hLI : LI j σ h Q) (hI : tw_I D (fun q : Nat => s.heap.size ≤ q) ad (wX (wM w00 σ) σ h Q) s.heap H locs) (hl : lv_has ls 4 [(0, .ref b), (1, .ref (ad 0)), (2, .ref (ad 1000)), (3, .int (nI i))])  (hk : ∀ (ad : Nat → Nat) (H : Heap) (locs : List Loc) (σ : Sg) (h : Int32) (Q : Nat → Int32), LI (j + 1) σ h Q → tw_I D (fun q : Nat => s.heap.size ≤ q) ad (wX (wM w00 σ) σ h Q) s.heap H locs → lv_has ls 4 [(0, .ref b), (1, .ref (ad 0)), (2, .ref (ad 1000)), (3, .int (nI i))] → W p l e room_1 s m #[Value.ref b] below meth c H locs (cells + 2) (slots + 9) Z (F0 m 618 ls [])) : W p l e room_1 s m #[Value.ref b] below meth c H locs cells slots Z (F0 m 539 ls []) := by
  have hx := S.1
  have hb := S.2.1
  have hbA : ¬ (fun q : Nat => s.heap.size ≤ q) b := Nat.not_le.mpr hbl
  have hV := hLI.1
  obtain ⟨a1, q1⟩ : ∃ y : Int32, xs (nI (i + 1)).toNatClampNeg = y := ⟨_, rfl⟩
  obtain ⟨a2, q2⟩ : ∃ y : Int32, xs (nI (i + 2)).toNatClampNeg = y := ⟨_, rfl⟩
  obtain ⟨a3, q3⟩ : ∃ y : Int32, xs (nI (i + 3)).toNatClampNeg = y := ⟨_, rfl⟩
  refine lv_aload_n hx hb dL_law_539 rfl (lv_at hl 1 rfl) ?_
  refine lv_aload_n hx hb dL_law_540 rfl (lv_at hl 0 rfl) ?_
  refine lv_iload_n hx hb dL_law_541 rfl (lv_at hl 3 rfl) ?_
  refine lv_iconst (v := 1) hx hb dL_law_542 (by decide) ?_
  refine lv_iadd hx hb dL_law_543 ?_
  refine lv_eqi (v := (nI (i + 1))) (nA (a := i) (b := 1) (c := i + 1) (by omega)) ?_
  refine va_sld hx hb hX hbl hbA hI.2.2.1 (vp_in_nI (show i + 1 < L by omega) (by omega)) dL_law_544 ?_
  refine lv_eqi (v := a1) q1 ?_
  refine lv_aload_n hx hb dL_law_545 rfl (lv_at hl 0 rfl) ?_
  refine lv_iload_n hx hb dL_law_546 rfl (lv_at hl 3 rfl) ?_
  refine lv_iconst (v := 2) hx hb dL_law_547 (by decide) ?_
  refine lv_iadd hx hb dL_law_548 ?_
  refine lv_eqi (v := (nI (i + 2))) (nA (a := i) (b := 2) (c := i + 2) (by omega)) ?_
  refine va_sld hx hb hX hbl hbA hI.2.2.1 (vp_in_nI (show i + 2 < L by omega) (by omega)) dL_law_549 ?_
  refine lv_eqi (v := a2) q2 ?_
  refine lv_aload_n hx hb dL_law_550 rfl (lv_at hl 0 rfl) ?_
  refine lv_iload_n hx hb dL_law_551 rfl (lv_at hl 3 rfl) ?_
  refine lv_iconst (v := 3) hx hb dL_law_552 (by decide) ?_
  refine lv_iadd hx hb dL_law_553 ?_
  refine lv_eqi (v := (nI (i + 3))) (nA (a := i) (b := 3) (c := i + 3) (by omega)) ?_
  refine va_sld hx hb hX hbl hbA hI.2.2.1 (vp_in_nI (show i + 3 < L by omega) (by omega)) dL_law_554 ?_
  refine lv_eqi (v := a3) q3 ?_
  obtain ⟨v, hP⟩ : ∃ y : Int32, toldM σ a1 a2 a3 = y := ⟨_, rfl⟩
  have cX := c_X6_told l D ad (wM w00 σ) σ h Q H.size a1 a2 a3 hV.1 hV.2.2.2.1
  rw [hP] at cX
  refine tw_calli (tw_rV (t := 0) (As := [.int a1, .int a2, .int a3]) (rest := []) S hK hI kL_63 cX wX_0 rfl rfl ⟨Nat.le_of_ble_eq_true rfl, Nat.le_of_ble_eq_true rfl⟩ ⟨show _ ≤ 747832 by omega, show _ ≤ 6858752 by omega⟩ rfl hl.1 rfl (Nat.le_of_ble_eq_true rfl) dL_law_555) hI (fun H locs hI => ?_)
  refine lv_aload_n hx hb dL_law_558 rfl (lv_at hl 2 rfl) ?_
  refine lv_aload_n hx hb dL_law_559 rfl (lv_at hl 0 rfl) ?_
  refine lv_iload_n hx hb dL_law_560 rfl (lv_at hl 3 rfl) ?_
  refine lv_iconst (v := 1) hx hb dL_law_561 (by decide) ?_
  refine lv_iadd hx hb dL_law_562 ?_
  refine lv_eqi (v := (nI (i + 1))) (nA (a := i) (b := 1) (c := i + 1) (by omega)) ?_
  refine va_sld hx hb hX hbl hbA hI.2.2.1 (vp_in_nI (show i + 1 < L by omega) (by omega)) dL_law_563 ?_
  refine lv_eqi (v := a1) q1 ?_
  refine lv_aload_n hx hb dL_law_564 rfl (lv_at hl 0 rfl) ?_
  refine lv_iload_n hx hb dL_law_565 rfl (lv_at hl 3 rfl) ?_
  refine lv_iconst (v := 2) hx hb dL_law_566 (by decide) ?_
  refine lv_iadd hx hb dL_law_567 ?_
  refine lv_eqi (v := (nI (i + 2))) (nA (a := i) (b := 2) (c := i + 2) (by omega)) ?_
  refine va_sld hx hb hX hbl hbA hI.2.2.1 (vp_in_nI (show i + 2 < L by omega) (by omega)) dL_law_568 ?_
  refine lv_eqi (v := a2) q2 ?_
  refine lv_aload_n hx hb dL_law_569 rfl (lv_at hl 0 rfl) ?_
  refine lv_iload_n hx hb dL_law_570 rfl (lv_at hl 3 rfl) ?_
  refine lv_iconst (v := 3) hx hb dL_law_571 (by decide) ?_
  refine lv_iadd hx hb dL_law_572 ?_
  refine lv_eqi (v := (nI (i + 3))) (nA (a := i) (b := 3) (c := i + 3) (by omega)) ?_
  refine va_sld hx hb hX hbl hbA hI.2.2.1 (vp_in_nI (show i + 3 < L by omega) (by omega)) dL_law_573 ?_
  refine lv_eqi (v := a3) q3 ?_
  rw [wB] at hI
  have cM := c_X7_told l D ad (wX w00 σ h Q) σ H.size a1 a2 a3 hV.1
  rw [hP] at cM
  refine tw_calli (tw_rV (t := 1000) (As := [.int a1, .int a2, .int a3]) (rest := [.int v]) S hK hI kL_66 cM (fs := mRoot σ) rfl rfl rfl ⟨Nat.le_of_ble_eq_true rfl, Nat.le_of_ble_eq_true rfl⟩ ⟨show _ ≤ 747832 by omega, show _ ≤ 6858752 by omega⟩ rfl hl.1 rfl (Nat.le_of_ble_eq_true rfl) dL_law_574) hI (fun H locs hI => ?_)
  rw [← wB] at hI
  refine lv_icmp_eq (tgt := 618) hx hb dL_law_577 (by decide) (fun _ => ?_) (fun cc => absurd rfl cc)
  have hN := LI_same hLI hV
  refine W.widen (k := cells + 2) (n := slots + 9) (by omega) (by omega) ?_
  exact hk ad H locs _ _ _ hN hI hl

set_option maxHeartbeats 2000000 in
set_option maxRecDepth 100000 in
theorem arm_count {p : Program} {l : Launch} {e : Env} {s : State} {m : MethodId} {below : List Frame} {meth : Method} {c : Code} {b L : Nat} {xs : Nat → Int32} {D : tw_G} {i j cells slots : Nat} {Z : State → Prop} {ad : Nat → Nat} {H : Heap} {locs : List Loc} {ls : Array Slot} {σ : Sg} {h : Int32} {Q : Nat → Int32} (S : CallFix p m c cL_law 4 s #[Value.ref b] tw_ws RL) (hK : tw_K D s) (hX : va_X b L xs s s.heap) (hbl : b < s.heap.size) (hL : L ≤ 3072) (hi : i + 6 ≤ L) (hc : cells + 2 ≤ 747832) (hs : slots + 9 ≤ 6858752) (hj : j ≤ 512) (hLI : LI j σ h Q) (hI : tw_I D (fun q : Nat => s.heap.size ≤ q) ad (wX (wM w00 σ) σ h Q) s.heap H locs) (hl : lv_has ls 4 [(0, .ref b), (1, .ref (ad 0)), (2, .ref (ad 1000)), (3, .int (nI i))])  (hk : ∀ (ad : Nat → Nat) (H : Heap) (locs : List Loc) (σ : Sg) (h : Int32) (Q : Nat → Int32), LI (j + 1) σ h Q → tw_I D (fun q : Nat => s.heap.size ≤ q) ad (wX (wM w00 σ) σ h Q) s.heap H locs → lv_has ls 4 [(0, .ref b), (1, .ref (ad 0)), (2, .ref (ad 1000)), (3, .int (nI i))] → W p l e room_1 s m #[Value.ref b] below meth c H locs (cells + 2) (slots + 9) Z (F0 m 618 ls [])) : W p l e room_1 s m #[Value.ref b] below meth c H locs cells slots Z (F0 m 582 ls []) := by
  have hx := S.1
  have hb := S.2.1
  have hbA : ¬ (fun q : Nat => s.heap.size ≤ q) b := Nat.not_le.mpr hbl
  have hV := hLI.1
  obtain ⟨a1, q1⟩ : ∃ y : Int32, xs (nI (i + 1)).toNatClampNeg = y := ⟨_, rfl⟩
  refine lv_aload_n hx hb dL_law_582 rfl (lv_at hl 1 rfl) ?_
  refine lv_aload_n hx hb dL_law_583 rfl (lv_at hl 0 rfl) ?_
  refine lv_iload_n hx hb dL_law_584 rfl (lv_at hl 3 rfl) ?_
  refine lv_iconst (v := 1) hx hb dL_law_585 (by decide) ?_
  refine lv_iadd hx hb dL_law_586 ?_
  refine lv_eqi (v := (nI (i + 1))) (nA (a := i) (b := 1) (c := i + 1) (by omega)) ?_
  refine va_sld hx hb hX hbl hbA hI.2.2.1 (vp_in_nI (show i + 1 < L by omega) (by omega)) dL_law_587 ?_
  refine lv_eqi (v := a1) q1 ?_
  obtain ⟨v, hP⟩ : ∃ y : Int32, countM σ a1 = y := ⟨_, rfl⟩
  have cX := c_X6_count l D ad (wM w00 σ) σ h Q H.size a1 
  rw [hP] at cX
  refine tw_calli (tw_rV (t := 0) (As := [.int a1]) (rest := []) S hK hI kL_67 cX wX_0 rfl rfl ⟨Nat.le_of_ble_eq_true rfl, Nat.le_of_ble_eq_true rfl⟩ ⟨show _ ≤ 747832 by omega, show _ ≤ 6858752 by omega⟩ rfl hl.1 rfl (Nat.le_of_ble_eq_true rfl) dL_law_588) hI (fun H locs hI => ?_)
  refine lv_aload_n hx hb dL_law_591 rfl (lv_at hl 2 rfl) ?_
  refine lv_aload_n hx hb dL_law_592 rfl (lv_at hl 0 rfl) ?_
  refine lv_iload_n hx hb dL_law_593 rfl (lv_at hl 3 rfl) ?_
  refine lv_iconst (v := 1) hx hb dL_law_594 (by decide) ?_
  refine lv_iadd hx hb dL_law_595 ?_
  refine lv_eqi (v := (nI (i + 1))) (nA (a := i) (b := 1) (c := i + 1) (by omega)) ?_
  refine va_sld hx hb hX hbl hbA hI.2.2.1 (vp_in_nI (show i + 1 < L by omega) (by omega)) dL_law_596 ?_
  refine lv_eqi (v := a1) q1 ?_
  rw [wB] at hI
  have cM := c_X7_count l D ad (wX w00 σ h Q) σ H.size a1 
  rw [hP] at cM
  refine tw_calli (tw_rV (t := 1000) (As := [.int a1]) (rest := [.int v]) S hK hI kL_70 cM (fs := mRoot σ) rfl rfl rfl ⟨Nat.le_of_ble_eq_true rfl, Nat.le_of_ble_eq_true rfl⟩ ⟨show _ ≤ 747832 by omega, show _ ≤ 6858752 by omega⟩ rfl hl.1 rfl (Nat.le_of_ble_eq_true rfl) dL_law_597) hI (fun H locs hI => ?_)
  rw [← wB] at hI
  refine lv_icmp_eq (tgt := 618) hx hb dL_law_600 (by decide) (fun _ => ?_) (fun cc => absurd rfl cc)
  have hN := LI_same hLI hV
  refine W.widen (k := cells + 2) (n := slots + 9) (by omega) (by omega) ?_
  exact hk ad H locs _ _ _ hN hI hl

set_option maxHeartbeats 2000000 in
set_option maxRecDepth 100000 in
theorem arm_out {p : Program} {l : Launch} {e : Env} {s : State} {m : MethodId} {below : List Frame} {meth : Method} {c : Code} {b L : Nat} {xs : Nat → Int32} {D : tw_G} {i j cells slots : Nat} {Z : State → Prop} {ad : Nat → Nat} {H : Heap} {locs : List Loc} {ls : Array Slot} {σ : Sg} {h : Int32} {Q : Nat → Int32} (S : CallFix p m c cL_law 4 s #[Value.ref b] tw_ws RL) (hK : tw_K D s) (hX : va_X b L xs s s.heap) (hbl : b < s.heap.size) (hL : L ≤ 3072) (hi : i + 6 ≤ L) (hc : cells + 2 ≤ 747832) (hs : slots + 9 ≤ 6858752) (hj : j ≤ 512) (hLI : LI j σ h Q) (hI : tw_I D (fun q : Nat => s.heap.size ≤ q) ad (wX (wM w00 σ) σ h Q) s.heap H locs) (hl : lv_has ls 4 [(0, .ref b), (1, .ref (ad 0)), (2, .ref (ad 1000)), (3, .int (nI i))])  (hk : ∀ (ad : Nat → Nat) (H : Heap) (locs : List Loc) (σ : Sg) (h : Int32) (Q : Nat → Int32), LI (j + 1) σ h Q → tw_I D (fun q : Nat => s.heap.size ≤ q) ad (wX (wM w00 σ) σ h Q) s.heap H locs → lv_has ls 4 [(0, .ref b), (1, .ref (ad 0)), (2, .ref (ad 1000)), (3, .int (nI i))] → W p l e room_1 s m #[Value.ref b] below meth c H locs (cells + 2) (slots + 9) Z (F0 m 618 ls [])) : W p l e room_1 s m #[Value.ref b] below meth c H locs cells slots Z (F0 m 526 ls []) := by
  have hx := S.1
  have hb := S.2.1
  have hbA : ¬ (fun q : Nat => s.heap.size ≤ q) b := Nat.not_le.mpr hbl
  have hV := hLI.1
  refine lv_aload_n hx hb dL_law_526 rfl (lv_at hl 1 rfl) ?_
  obtain ⟨v, hP⟩ : ∃ y : Int32, σ.1 20 0 = y := ⟨_, rfl⟩
  have cX := c_X6_out l D ad (wM w00 σ) σ h Q H.size
  rw [hP] at cX
  refine tw_calli (tw_rV (t := 0) (As := []) (rest := []) S hK hI kL_58 cX wX_0 rfl rfl ⟨Nat.le_of_ble_eq_true rfl, Nat.le_of_ble_eq_true rfl⟩ ⟨show _ ≤ 747832 by omega, show _ ≤ 6858752 by omega⟩ rfl hl.1 rfl (Nat.le_of_ble_eq_true rfl) dL_law_527) hI (fun H locs hI => ?_)
  refine lv_aload_n hx hb dL_law_530 rfl (lv_at hl 2 rfl) ?_
  rw [wB] at hI
  have cM := c_X7_out l D ad (wX w00 σ h Q) σ H.size
  rw [hP] at cM
  refine tw_calli (tw_rV (t := 1000) (As := []) (rest := [.int v]) S hK hI kL_62 cM (fs := mRoot σ) rfl rfl rfl ⟨Nat.le_of_ble_eq_true rfl, Nat.le_of_ble_eq_true rfl⟩ ⟨show _ ≤ 747832 by omega, show _ ≤ 6858752 by omega⟩ rfl hl.1 rfl (Nat.le_of_ble_eq_true rfl) dL_law_531) hI (fun H locs hI => ?_)
  rw [← wB] at hI
  refine lv_icmp_eq (tgt := 618) hx hb dL_law_534 (by decide) (fun _ => ?_) (fun cc => absurd rfl cc)
  have hN := LI_same hLI hV
  refine W.widen (k := cells + 2) (n := slots + 9) (by omega) (by omega) ?_
  exact hk ad H locs _ _ _ hN hI hl

set_option maxHeartbeats 2000000 in
set_option maxRecDepth 100000 in
theorem arm_refused {p : Program} {l : Launch} {e : Env} {s : State} {m : MethodId} {below : List Frame} {meth : Method} {c : Code} {b L : Nat} {xs : Nat → Int32} {D : tw_G} {i j cells slots : Nat} {Z : State → Prop} {ad : Nat → Nat} {H : Heap} {locs : List Loc} {ls : Array Slot} {σ : Sg} {h : Int32} {Q : Nat → Int32} (S : CallFix p m c cL_law 4 s #[Value.ref b] tw_ws RL) (hK : tw_K D s) (hX : va_X b L xs s s.heap) (hbl : b < s.heap.size) (hL : L ≤ 3072) (hi : i + 6 ≤ L) (hc : cells + 2 ≤ 747832) (hs : slots + 9 ≤ 6858752) (hj : j ≤ 512) (hLI : LI j σ h Q) (hI : tw_I D (fun q : Nat => s.heap.size ≤ q) ad (wX (wM w00 σ) σ h Q) s.heap H locs) (hl : lv_has ls 4 [(0, .ref b), (1, .ref (ad 0)), (2, .ref (ad 1000)), (3, .int (nI i))])  (hk : ∀ (ad : Nat → Nat) (H : Heap) (locs : List Loc) (σ : Sg) (h : Int32) (Q : Nat → Int32), LI (j + 1) σ h Q → tw_I D (fun q : Nat => s.heap.size ≤ q) ad (wX (wM w00 σ) σ h Q) s.heap H locs → lv_has ls 4 [(0, .ref b), (1, .ref (ad 0)), (2, .ref (ad 1000)), (3, .int (nI i))] → W p l e room_1 s m #[Value.ref b] below meth c H locs (cells + 2) (slots + 9) Z (F0 m 618 ls [])) : W p l e room_1 s m #[Value.ref b] below meth c H locs cells slots Z (F0 m 605 ls []) := by
  have hx := S.1
  have hb := S.2.1
  have hbA : ¬ (fun q : Nat => s.heap.size ≤ q) b := Nat.not_le.mpr hbl
  have hV := hLI.1
  refine lv_aload_n hx hb dL_law_605 rfl (lv_at hl 1 rfl) ?_
  obtain ⟨v, hP⟩ : ∃ y : Int32, σ.1 15 0 = y := ⟨_, rfl⟩
  have cX := c_X6_refused l D ad (wM w00 σ) σ h Q H.size
  rw [hP] at cX
  refine tw_calli (tw_rV (t := 0) (As := []) (rest := []) S hK hI kL_71 cX wX_0 rfl rfl ⟨Nat.le_of_ble_eq_true rfl, Nat.le_of_ble_eq_true rfl⟩ ⟨show _ ≤ 747832 by omega, show _ ≤ 6858752 by omega⟩ rfl hl.1 rfl (Nat.le_of_ble_eq_true rfl) dL_law_606) hI (fun H locs hI => ?_)
  refine lv_aload_n hx hb dL_law_609 rfl (lv_at hl 2 rfl) ?_
  rw [wB] at hI
  have cM := c_X7_refused l D ad (wX w00 σ h Q) σ H.size
  rw [hP] at cM
  refine tw_calli (tw_rV (t := 1000) (As := []) (rest := [.int v]) S hK hI kL_74 cM (fs := mRoot σ) rfl rfl rfl ⟨Nat.le_of_ble_eq_true rfl, Nat.le_of_ble_eq_true rfl⟩ ⟨show _ ≤ 747832 by omega, show _ ≤ 6858752 by omega⟩ rfl hl.1 rfl (Nat.le_of_ble_eq_true rfl) dL_law_610) hI (fun H locs hI => ?_)
  rw [← wB] at hI
  refine lv_icmp_eq (tgt := 618) hx hb dL_law_613 (by decide) (fun _ => ?_) (fun cc => absurd rfl cc)
  have hN := LI_same hLI hV
  refine W.widen (k := cells + 2) (n := slots + 9) (by omega) (by omega) ?_
  exact hk ad H locs _ _ _ hN hI hl

set_option maxHeartbeats 2000000 in
set_option maxRecDepth 100000 in
theorem arm_make {p : Program} {l : Launch} {e : Env} {s : State} {m : MethodId} {below : List Frame} {meth : Method} {c : Code} {b L : Nat} {xs : Nat → Int32} {D : tw_G} {i j cells slots : Nat} {Z : State → Prop} {ad : Nat → Nat} {H : Heap} {locs : List Loc} {ls : Array Slot} {σ : Sg} {h : Int32} {Q : Nat → Int32} (S : CallFix p m c cL_law 4 s #[Value.ref b] tw_ws RL) (hK : tw_K D s) (hX : va_X b L xs s s.heap) (hbl : b < s.heap.size) (hL : L ≤ 3072) (hi : i + 6 ≤ L) (hc : cells + 2 ≤ 747832) (hs : slots + 9 ≤ 6858752) (hj : j ≤ 512) (hLI : LI j σ h Q) (hI : tw_I D (fun q : Nat => s.heap.size ≤ q) ad (wX (wM w00 σ) σ h Q) s.heap H locs) (hl : lv_has ls 4 [(0, .ref b), (1, .ref (ad 0)), (2, .ref (ad 1000)), (3, .int (nI i))])  (hk : ∀ (ad : Nat → Nat) (H : Heap) (locs : List Loc) (σ : Sg) (h : Int32) (Q : Nat → Int32), LI (j + 1) σ h Q → tw_I D (fun q : Nat => s.heap.size ≤ q) ad (wX (wM w00 σ) σ h Q) s.heap H locs → lv_has ls 4 [(0, .ref b), (1, .ref (ad 0)), (2, .ref (ad 1000)), (3, .int (nI i))] → W p l e room_1 s m #[Value.ref b] below meth c H locs (cells + 2) (slots + 9) Z (F0 m 618 ls [])) : W p l e room_1 s m #[Value.ref b] below meth c H locs cells slots Z (F0 m 104 ls []) := by
  have hx := S.1
  have hb := S.2.1
  have hbA : ¬ (fun q : Nat => s.heap.size ≤ q) b := Nat.not_le.mpr hbl
  have hV := hLI.1
  obtain ⟨a1, q1⟩ : ∃ y : Int32, xs (nI (i + 1)).toNatClampNeg = y := ⟨_, rfl⟩
  obtain ⟨a2, q2⟩ : ∃ y : Int32, xs (nI (i + 2)).toNatClampNeg = y := ⟨_, rfl⟩
  refine lv_aload_n hx hb dL_law_104 rfl (lv_at hl 1 rfl) ?_
  refine lv_aload_n hx hb dL_law_105 rfl (lv_at hl 0 rfl) ?_
  refine lv_iload_n hx hb dL_law_106 rfl (lv_at hl 3 rfl) ?_
  refine lv_iconst (v := 1) hx hb dL_law_107 (by decide) ?_
  refine lv_iadd hx hb dL_law_108 ?_
  refine lv_eqi (v := (nI (i + 1))) (nA (a := i) (b := 1) (c := i + 1) (by omega)) ?_
  refine va_sld hx hb hX hbl hbA hI.2.2.1 (vp_in_nI (show i + 1 < L by omega) (by omega)) dL_law_109 ?_
  refine lv_eqi (v := a1) q1 ?_
  refine lv_aload_n hx hb dL_law_110 rfl (lv_at hl 0 rfl) ?_
  refine lv_iload_n hx hb dL_law_111 rfl (lv_at hl 3 rfl) ?_
  refine lv_iconst (v := 2) hx hb dL_law_112 (by decide) ?_
  refine lv_iadd hx hb dL_law_113 ?_
  refine lv_eqi (v := (nI (i + 2))) (nA (a := i) (b := 2) (c := i + 2) (by omega)) ?_
  refine va_sld hx hb hX hbl hbA hI.2.2.1 (vp_in_nI (show i + 2 < L by omega) (by omega)) dL_law_114 ?_
  refine lv_eqi (v := a2) q2 ?_
  obtain ⟨P, hP⟩ : ∃ y : Int32 × Sg, makeM σ (nS σ) a1 a2 = y := ⟨_, rfl⟩
  have cX := c_X6_make l D ad (wM w00 σ) σ h Q H.size a1 a2 _ hV b_okM
  rw [hP] at cX
  refine tw_callN (tw_rV (t := 0) (As := [.int a1, .int a2]) (rest := []) S hK hI kL_13 cX wX_0 rfl rfl ⟨Nat.le_of_ble_eq_true rfl, Nat.le_of_ble_eq_true rfl⟩ ⟨show _ ≤ 747832 by omega, show _ ≤ 6858752 by omega⟩ rfl hl.1 rfl (Nat.le_of_ble_eq_true rfl) dL_law_115) hI (fun ad H locs had hI => ?_)
  refine W_stk (st' := [.int P.1]) rfl ?_
  have hl : lv_has ls 4 [(0, .ref b), (1, .ref (ad 0)), (2, .ref (ad 1000)), (3, .int (nI i))] := by rw [had 0 _ wX_0, had 1000 (.inr (6, mRoot σ)) rfl]; exact hl
  refine lv_aload_n hx hb dL_law_118 rfl (lv_at hl 2 rfl) ?_
  refine lv_aload_n hx hb dL_law_119 rfl (lv_at hl 0 rfl) ?_
  refine lv_iload_n hx hb dL_law_120 rfl (lv_at hl 3 rfl) ?_
  refine lv_iconst (v := 1) hx hb dL_law_121 (by decide) ?_
  refine lv_iadd hx hb dL_law_122 ?_
  refine lv_eqi (v := (nI (i + 1))) (nA (a := i) (b := 1) (c := i + 1) (by omega)) ?_
  refine va_sld hx hb hX hbl hbA hI.2.2.1 (vp_in_nI (show i + 1 < L by omega) (by omega)) dL_law_123 ?_
  refine lv_eqi (v := a1) q1 ?_
  refine lv_aload_n hx hb dL_law_124 rfl (lv_at hl 0 rfl) ?_
  refine lv_iload_n hx hb dL_law_125 rfl (lv_at hl 3 rfl) ?_
  refine lv_iconst (v := 2) hx hb dL_law_126 (by decide) ?_
  refine lv_iadd hx hb dL_law_127 ?_
  refine lv_eqi (v := (nI (i + 2))) (nA (a := i) (b := 2) (c := i + 2) (by omega)) ?_
  refine va_sld hx hb hX hbl hbA hI.2.2.1 (vp_in_nI (show i + 2 < L by omega) (by omega)) dL_law_128 ?_
  refine lv_eqi (v := a2) q2 ?_
  rw [wB] at hI
  have cM := c_X7_make l D ad (wX w00 P.2 h Q) σ H.size (nS σ) a1 a2 (okN hV.1).1 (okN hV.1).2
  rw [hP] at cM
  refine tw_calli (tw_rV (t := 1000) (As := [.int a1, .int a2]) (rest := [.int P.1]) S hK hI kL_17 cM (fs := mRoot σ) rfl rfl rfl ⟨Nat.le_of_ble_eq_true rfl, Nat.le_of_ble_eq_true rfl⟩ ⟨show _ ≤ 747832 by omega, show _ ≤ 6858752 by omega⟩ rfl hl.1 rfl (Nat.le_of_ble_eq_true rfl) dL_law_129) hI (fun H locs hI => ?_)
  rw [← wB] at hI
  refine lv_icmp_eq (tgt := 618) hx hb dL_law_132 (by decide) (fun _ => ?_) (fun cc => absurd rfl cc)
  have hN := INV_make a1 a2 hV
  rw [hP] at hN
  have hN := LI_same hLI hN
  refine W.widen (k := cells + 2) (n := slots + 9) (by omega) (by omega) ?_
  exact hk ad H locs _ _ _ hN hI hl

set_option maxHeartbeats 2000000 in
set_option maxRecDepth 100000 in
theorem arm_change {p : Program} {l : Launch} {e : Env} {s : State} {m : MethodId} {below : List Frame} {meth : Method} {c : Code} {b L : Nat} {xs : Nat → Int32} {D : tw_G} {i j cells slots : Nat} {Z : State → Prop} {ad : Nat → Nat} {H : Heap} {locs : List Loc} {ls : Array Slot} {σ : Sg} {h : Int32} {Q : Nat → Int32} (S : CallFix p m c cL_law 4 s #[Value.ref b] tw_ws RL) (hK : tw_K D s) (hX : va_X b L xs s s.heap) (hbl : b < s.heap.size) (hL : L ≤ 3072) (hi : i + 6 ≤ L) (hc : cells + 2 ≤ 747832) (hs : slots + 9 ≤ 6858752) (hj : j ≤ 512) (hLI : LI j σ h Q) (hI : tw_I D (fun q : Nat => s.heap.size ≤ q) ad (wX (wM w00 σ) σ h Q) s.heap H locs) (hl : lv_has ls 4 [(0, .ref b), (1, .ref (ad 0)), (2, .ref (ad 1000)), (3, .int (nI i))])  (hk : ∀ (ad : Nat → Nat) (H : Heap) (locs : List Loc) (σ : Sg) (h : Int32) (Q : Nat → Int32), LI (j + 1) σ h Q → tw_I D (fun q : Nat => s.heap.size ≤ q) ad (wX (wM w00 σ) σ h Q) s.heap H locs → lv_has ls 4 [(0, .ref b), (1, .ref (ad 0)), (2, .ref (ad 1000)), (3, .int (nI i))] → W p l e room_1 s m #[Value.ref b] below meth c H locs (cells + 2) (slots + 9) Z (F0 m 618 ls [])) : W p l e room_1 s m #[Value.ref b] below meth c H locs cells slots Z (F0 m 414 ls []) := by
  have hx := S.1
  have hb := S.2.1
  have hbA : ¬ (fun q : Nat => s.heap.size ≤ q) b := Nat.not_le.mpr hbl
  have hV := hLI.1
  obtain ⟨a1, q1⟩ : ∃ y : Int32, xs (nI (i + 1)).toNatClampNeg = y := ⟨_, rfl⟩
  obtain ⟨a2, q2⟩ : ∃ y : Int32, xs (nI (i + 2)).toNatClampNeg = y := ⟨_, rfl⟩
  obtain ⟨a3, q3⟩ : ∃ y : Int32, xs (nI (i + 3)).toNatClampNeg = y := ⟨_, rfl⟩
  obtain ⟨a4, q4⟩ : ∃ y : Int32, xs (nI (i + 4)).toNatClampNeg = y := ⟨_, rfl⟩
  obtain ⟨a5, q5⟩ : ∃ y : Int32, xs (nI (i + 5)).toNatClampNeg = y := ⟨_, rfl⟩
  refine lv_aload_n hx hb dL_law_414 rfl (lv_at hl 1 rfl) ?_
  refine lv_aload_n hx hb dL_law_415 rfl (lv_at hl 0 rfl) ?_
  refine lv_iload_n hx hb dL_law_416 rfl (lv_at hl 3 rfl) ?_
  refine lv_iconst (v := 1) hx hb dL_law_417 (by decide) ?_
  refine lv_iadd hx hb dL_law_418 ?_
  refine lv_eqi (v := (nI (i + 1))) (nA (a := i) (b := 1) (c := i + 1) (by omega)) ?_
  refine va_sld hx hb hX hbl hbA hI.2.2.1 (vp_in_nI (show i + 1 < L by omega) (by omega)) dL_law_419 ?_
  refine lv_eqi (v := a1) q1 ?_
  refine lv_aload_n hx hb dL_law_420 rfl (lv_at hl 0 rfl) ?_
  refine lv_iload_n hx hb dL_law_421 rfl (lv_at hl 3 rfl) ?_
  refine lv_iconst (v := 2) hx hb dL_law_422 (by decide) ?_
  refine lv_iadd hx hb dL_law_423 ?_
  refine lv_eqi (v := (nI (i + 2))) (nA (a := i) (b := 2) (c := i + 2) (by omega)) ?_
  refine va_sld hx hb hX hbl hbA hI.2.2.1 (vp_in_nI (show i + 2 < L by omega) (by omega)) dL_law_424 ?_
  refine lv_eqi (v := a2) q2 ?_
  refine lv_aload_n hx hb dL_law_425 rfl (lv_at hl 0 rfl) ?_
  refine lv_iload_n hx hb dL_law_426 rfl (lv_at hl 3 rfl) ?_
  refine lv_iconst (v := 3) hx hb dL_law_427 (by decide) ?_
  refine lv_iadd hx hb dL_law_428 ?_
  refine lv_eqi (v := (nI (i + 3))) (nA (a := i) (b := 3) (c := i + 3) (by omega)) ?_
  refine va_sld hx hb hX hbl hbA hI.2.2.1 (vp_in_nI (show i + 3 < L by omega) (by omega)) dL_law_429 ?_
  refine lv_eqi (v := a3) q3 ?_
  refine lv_aload_n hx hb dL_law_430 rfl (lv_at hl 0 rfl) ?_
  refine lv_iload_n hx hb dL_law_431 rfl (lv_at hl 3 rfl) ?_
  refine lv_iconst (v := 4) hx hb dL_law_432 (by decide) ?_
  refine lv_iadd hx hb dL_law_433 ?_
  refine lv_eqi (v := (nI (i + 4))) (nA (a := i) (b := 4) (c := i + 4) (by omega)) ?_
  refine va_sld hx hb hX hbl hbA hI.2.2.1 (vp_in_nI (show i + 4 < L by omega) (by omega)) dL_law_434 ?_
  refine lv_eqi (v := a4) q4 ?_
  refine lv_aload_n hx hb dL_law_435 rfl (lv_at hl 0 rfl) ?_
  refine lv_iload_n hx hb dL_law_436 rfl (lv_at hl 3 rfl) ?_
  refine lv_iconst (v := 5) hx hb dL_law_437 (by decide) ?_
  refine lv_iadd hx hb dL_law_438 ?_
  refine lv_eqi (v := (nI (i + 5))) (nA (a := i) (b := 5) (c := i + 5) (by omega)) ?_
  refine va_sld hx hb hX hbl hbA hI.2.2.1 (vp_in_nI (show i + 5 < L by omega) (by omega)) dL_law_439 ?_
  refine lv_eqi (v := a5) q5 ?_
  refine lv_if_eq (tgt := 447) hx hb dL_law_440 (by decide) (fun c1 => ?_) (fun c1 => ?_)
  · refine lv_iconst (v := 0) hx hb dL_law_447 (by decide) ?_
    have hN := INV_change a1 a2 a3 a4 0 hV (by decide)
    obtain ⟨P, hP⟩ : ∃ y : Int32 × Sg, changeM σ a1 a2 a3 a4 0 = y := ⟨_, rfl⟩
    have cX := c_X6_change l D ad (wM w00 σ) σ h Q H.size a1 a2 a3 a4 0 hV.1 (by decide)
    rw [hP] at cX
    refine tw_calli (tw_rV (t := 0) (As := [.int a1, .int a2, .int a3, .int a4, .int 0]) (rest := []) S hK hI kL_49 cX wX_0 rfl rfl ⟨Nat.le_of_ble_eq_true rfl, Nat.le_of_ble_eq_true rfl⟩ ⟨show _ ≤ 747832 by omega, show _ ≤ 6858752 by omega⟩ rfl hl.1 rfl (Nat.le_of_ble_eq_true rfl) dL_law_448) hI (fun H locs hI => ?_)
    refine lv_aload_n hx hb dL_law_451 rfl (lv_at hl 2 rfl) ?_
    refine lv_aload_n hx hb dL_law_452 rfl (lv_at hl 0 rfl) ?_
    refine lv_iload_n hx hb dL_law_453 rfl (lv_at hl 3 rfl) ?_
    refine lv_iconst (v := 1) hx hb dL_law_454 (by decide) ?_
    refine lv_iadd hx hb dL_law_455 ?_
    refine lv_eqi (v := (nI (i + 1))) (nA (a := i) (b := 1) (c := i + 1) (by omega)) ?_
    refine va_sld hx hb hX hbl hbA hI.2.2.1 (vp_in_nI (show i + 1 < L by omega) (by omega)) dL_law_456 ?_
    refine lv_eqi (v := a1) q1 ?_
    refine lv_aload_n hx hb dL_law_457 rfl (lv_at hl 0 rfl) ?_
    refine lv_iload_n hx hb dL_law_458 rfl (lv_at hl 3 rfl) ?_
    refine lv_iconst (v := 2) hx hb dL_law_459 (by decide) ?_
    refine lv_iadd hx hb dL_law_460 ?_
    refine lv_eqi (v := (nI (i + 2))) (nA (a := i) (b := 2) (c := i + 2) (by omega)) ?_
    refine va_sld hx hb hX hbl hbA hI.2.2.1 (vp_in_nI (show i + 2 < L by omega) (by omega)) dL_law_461 ?_
    refine lv_eqi (v := a2) q2 ?_
    refine lv_aload_n hx hb dL_law_462 rfl (lv_at hl 0 rfl) ?_
    refine lv_iload_n hx hb dL_law_463 rfl (lv_at hl 3 rfl) ?_
    refine lv_iconst (v := 3) hx hb dL_law_464 (by decide) ?_
    refine lv_iadd hx hb dL_law_465 ?_
    refine lv_eqi (v := (nI (i + 3))) (nA (a := i) (b := 3) (c := i + 3) (by omega)) ?_
    refine va_sld hx hb hX hbl hbA hI.2.2.1 (vp_in_nI (show i + 3 < L by omega) (by omega)) dL_law_466 ?_
    refine lv_eqi (v := a3) q3 ?_
    refine lv_aload_n hx hb dL_law_467 rfl (lv_at hl 0 rfl) ?_
    refine lv_iload_n hx hb dL_law_468 rfl (lv_at hl 3 rfl) ?_
    refine lv_iconst (v := 4) hx hb dL_law_469 (by decide) ?_
    refine lv_iadd hx hb dL_law_470 ?_
    refine lv_eqi (v := (nI (i + 4))) (nA (a := i) (b := 4) (c := i + 4) (by omega)) ?_
    refine va_sld hx hb hX hbl hbA hI.2.2.1 (vp_in_nI (show i + 4 < L by omega) (by omega)) dL_law_471 ?_
    refine lv_eqi (v := a4) q4 ?_
    refine lv_aload_n hx hb dL_law_472 rfl (lv_at hl 0 rfl) ?_
    refine lv_iload_n hx hb dL_law_473 rfl (lv_at hl 3 rfl) ?_
    refine lv_iconst (v := 5) hx hb dL_law_474 (by decide) ?_
    refine lv_iadd hx hb dL_law_475 ?_
    refine lv_eqi (v := (nI (i + 5))) (nA (a := i) (b := 5) (c := i + 5) (by omega)) ?_
    refine va_sld hx hb hX hbl hbA hI.2.2.1 (vp_in_nI (show i + 5 < L by omega) (by omega)) dL_law_476 ?_
    refine lv_eqi (v := a5) q5 ?_
    refine lv_if_eq (tgt := 484) hx hb dL_law_477 (by decide) (fun c2 => ?_) (fun c2 => ?_)
    · refine lv_iconst (v := 0) hx hb dL_law_484 (by decide) ?_
      rw [wB] at hI
      have cM := c_X7_change l D ad (wX w00 P.2 h Q) σ H.size a1 a2 a3 a4 0 hV.1 rfl
      rw [hP] at cM
      refine tw_calli (tw_rV (t := 1000) (As := [.int a1, .int a2, .int a3, .int a4, .int 0]) (rest := [.int P.1]) S hK hI kL_53 cM (fs := mRoot σ) rfl rfl rfl ⟨Nat.le_of_ble_eq_true rfl, Nat.le_of_ble_eq_true rfl⟩ ⟨show _ ≤ 747832 by omega, show _ ≤ 6858752 by omega⟩ rfl hl.1 rfl (Nat.le_of_ble_eq_true rfl) dL_law_485) hI (fun H locs hI => ?_)
      rw [← wB] at hI
      refine lv_icmp_eq (tgt := 618) hx hb dL_law_488 (by decide) (fun _ => ?_) (fun cc => absurd rfl cc)
      rw [hP] at hN
      have hN := LI_same hLI hN
      refine W.widen (k := cells + 2) (n := slots + 9) (by omega) (by omega) ?_
      exact hk ad H locs _ _ _ hN hI hl
    · exact absurd c1 c2
  · refine lv_iconst (v := 1) hx hb dL_law_443 (by decide) ?_
    refine lv_goto (tgt := 448) hx hb dL_law_444 (by decide) ?_
    have hN := INV_change a1 a2 a3 a4 1 hV (by decide)
    obtain ⟨P, hP⟩ : ∃ y : Int32 × Sg, changeM σ a1 a2 a3 a4 1 = y := ⟨_, rfl⟩
    have cX := c_X6_change l D ad (wM w00 σ) σ h Q H.size a1 a2 a3 a4 1 hV.1 (by decide)
    rw [hP] at cX
    refine tw_calli (tw_rV (t := 0) (As := [.int a1, .int a2, .int a3, .int a4, .int 1]) (rest := []) S hK hI kL_49 cX wX_0 rfl rfl ⟨Nat.le_of_ble_eq_true rfl, Nat.le_of_ble_eq_true rfl⟩ ⟨show _ ≤ 747832 by omega, show _ ≤ 6858752 by omega⟩ rfl hl.1 rfl (Nat.le_of_ble_eq_true rfl) dL_law_448) hI (fun H locs hI => ?_)
    refine lv_aload_n hx hb dL_law_451 rfl (lv_at hl 2 rfl) ?_
    refine lv_aload_n hx hb dL_law_452 rfl (lv_at hl 0 rfl) ?_
    refine lv_iload_n hx hb dL_law_453 rfl (lv_at hl 3 rfl) ?_
    refine lv_iconst (v := 1) hx hb dL_law_454 (by decide) ?_
    refine lv_iadd hx hb dL_law_455 ?_
    refine lv_eqi (v := (nI (i + 1))) (nA (a := i) (b := 1) (c := i + 1) (by omega)) ?_
    refine va_sld hx hb hX hbl hbA hI.2.2.1 (vp_in_nI (show i + 1 < L by omega) (by omega)) dL_law_456 ?_
    refine lv_eqi (v := a1) q1 ?_
    refine lv_aload_n hx hb dL_law_457 rfl (lv_at hl 0 rfl) ?_
    refine lv_iload_n hx hb dL_law_458 rfl (lv_at hl 3 rfl) ?_
    refine lv_iconst (v := 2) hx hb dL_law_459 (by decide) ?_
    refine lv_iadd hx hb dL_law_460 ?_
    refine lv_eqi (v := (nI (i + 2))) (nA (a := i) (b := 2) (c := i + 2) (by omega)) ?_
    refine va_sld hx hb hX hbl hbA hI.2.2.1 (vp_in_nI (show i + 2 < L by omega) (by omega)) dL_law_461 ?_
    refine lv_eqi (v := a2) q2 ?_
    refine lv_aload_n hx hb dL_law_462 rfl (lv_at hl 0 rfl) ?_
    refine lv_iload_n hx hb dL_law_463 rfl (lv_at hl 3 rfl) ?_
    refine lv_iconst (v := 3) hx hb dL_law_464 (by decide) ?_
    refine lv_iadd hx hb dL_law_465 ?_
    refine lv_eqi (v := (nI (i + 3))) (nA (a := i) (b := 3) (c := i + 3) (by omega)) ?_
    refine va_sld hx hb hX hbl hbA hI.2.2.1 (vp_in_nI (show i + 3 < L by omega) (by omega)) dL_law_466 ?_
    refine lv_eqi (v := a3) q3 ?_
    refine lv_aload_n hx hb dL_law_467 rfl (lv_at hl 0 rfl) ?_
    refine lv_iload_n hx hb dL_law_468 rfl (lv_at hl 3 rfl) ?_
    refine lv_iconst (v := 4) hx hb dL_law_469 (by decide) ?_
    refine lv_iadd hx hb dL_law_470 ?_
    refine lv_eqi (v := (nI (i + 4))) (nA (a := i) (b := 4) (c := i + 4) (by omega)) ?_
    refine va_sld hx hb hX hbl hbA hI.2.2.1 (vp_in_nI (show i + 4 < L by omega) (by omega)) dL_law_471 ?_
    refine lv_eqi (v := a4) q4 ?_
    refine lv_aload_n hx hb dL_law_472 rfl (lv_at hl 0 rfl) ?_
    refine lv_iload_n hx hb dL_law_473 rfl (lv_at hl 3 rfl) ?_
    refine lv_iconst (v := 5) hx hb dL_law_474 (by decide) ?_
    refine lv_iadd hx hb dL_law_475 ?_
    refine lv_eqi (v := (nI (i + 5))) (nA (a := i) (b := 5) (c := i + 5) (by omega)) ?_
    refine va_sld hx hb hX hbl hbA hI.2.2.1 (vp_in_nI (show i + 5 < L by omega) (by omega)) dL_law_476 ?_
    refine lv_eqi (v := a5) q5 ?_
    refine lv_if_eq (tgt := 484) hx hb dL_law_477 (by decide) (fun c3 => ?_) (fun c3 => ?_)
    · exact absurd c3 c1
    · refine lv_iconst (v := 1) hx hb dL_law_480 (by decide) ?_
      refine lv_goto (tgt := 485) hx hb dL_law_481 (by decide) ?_
      rw [wB] at hI
      have cM := c_X7_change l D ad (wX w00 P.2 h Q) σ H.size a1 a2 a3 a4 1 hV.1 rfl
      rw [hP] at cM
      refine tw_calli (tw_rV (t := 1000) (As := [.int a1, .int a2, .int a3, .int a4, .int 1]) (rest := [.int P.1]) S hK hI kL_53 cM (fs := mRoot σ) rfl rfl rfl ⟨Nat.le_of_ble_eq_true rfl, Nat.le_of_ble_eq_true rfl⟩ ⟨show _ ≤ 747832 by omega, show _ ≤ 6858752 by omega⟩ rfl hl.1 rfl (Nat.le_of_ble_eq_true rfl) dL_law_485) hI (fun H locs hI => ?_)
      rw [← wB] at hI
      refine lv_icmp_eq (tgt := 618) hx hb dL_law_488 (by decide) (fun _ => ?_) (fun cc => absurd rfl cc)
      rw [hP] at hN
      have hN := LI_same hLI hN
      refine W.widen (k := cells + 2) (n := slots + 9) (by omega) (by omega) ?_
      exact hk ad H locs _ _ _ hN hI hl

set_option maxHeartbeats 2000000 in
set_option maxRecDepth 100000 in
theorem arm_desk {p : Program} {l : Launch} {e : Env} {s : State} {m : MethodId} {below : List Frame} {meth : Method} {c : Code} {b L : Nat} {xs : Nat → Int32} {D : tw_G} {i j cells slots : Nat} {Z : State → Prop} {ad : Nat → Nat} {H : Heap} {locs : List Loc} {ls : Array Slot} {σ : Sg} {h : Int32} {Q : Nat → Int32} (S : CallFix p m c cL_law 4 s #[Value.ref b] tw_ws RL) (hK : tw_K D s) (hX : va_X b L xs s s.heap) (hbl : b < s.heap.size) (hL : L ≤ 3072) (hi : i + 6 ≤ L) (hc : cells + 2 ≤ 747832) (hs : slots + 9 ≤ 6858752) (hj : j ≤ 512) (hLI : LI j σ h Q) (hI : tw_I D (fun q : Nat => s.heap.size ≤ q) ad (wX (wM w00 σ) σ h Q) s.heap H locs) (hl : lv_has ls 4 [(0, .ref b), (1, .ref (ad 0)), (2, .ref (ad 1000)), (3, .int (nI i))])  (hk : ∀ (ad : Nat → Nat) (H : Heap) (locs : List Loc) (σ : Sg) (h : Int32) (Q : Nat → Int32), LI (j + 1) σ h Q → tw_I D (fun q : Nat => s.heap.size ≤ q) ad (wX (wM w00 σ) σ h Q) s.heap H locs → lv_has ls 4 [(0, .ref b), (1, .ref (ad 0)), (2, .ref (ad 1000)), (3, .int (nI i))] → W p l e room_1 s m #[Value.ref b] below meth c H locs (cells + 2) (slots + 9) Z (F0 m 618 ls [])) : W p l e room_1 s m #[Value.ref b] below meth c H locs cells slots Z (F0 m 345 ls []) := by
  have hx := S.1
  have hb := S.2.1
  have hbA : ¬ (fun q : Nat => s.heap.size ≤ q) b := Nat.not_le.mpr hbl
  have hV := hLI.1
  obtain ⟨a1, q1⟩ : ∃ y : Int32, xs (nI (i + 1)).toNatClampNeg = y := ⟨_, rfl⟩
  obtain ⟨a2, q2⟩ : ∃ y : Int32, xs (nI (i + 2)).toNatClampNeg = y := ⟨_, rfl⟩
  obtain ⟨a3, q3⟩ : ∃ y : Int32, xs (nI (i + 3)).toNatClampNeg = y := ⟨_, rfl⟩
  obtain ⟨a4, q4⟩ : ∃ y : Int32, xs (nI (i + 4)).toNatClampNeg = y := ⟨_, rfl⟩
  refine lv_aload_n hx hb dL_law_345 rfl (lv_at hl 1 rfl) ?_
  refine lv_aload_n hx hb dL_law_346 rfl (lv_at hl 0 rfl) ?_
  refine lv_iload_n hx hb dL_law_347 rfl (lv_at hl 3 rfl) ?_
  refine lv_iconst (v := 1) hx hb dL_law_348 (by decide) ?_
  refine lv_iadd hx hb dL_law_349 ?_
  refine lv_eqi (v := (nI (i + 1))) (nA (a := i) (b := 1) (c := i + 1) (by omega)) ?_
  refine va_sld hx hb hX hbl hbA hI.2.2.1 (vp_in_nI (show i + 1 < L by omega) (by omega)) dL_law_350 ?_
  refine lv_eqi (v := a1) q1 ?_
  refine lv_aload_n hx hb dL_law_351 rfl (lv_at hl 0 rfl) ?_
  refine lv_iload_n hx hb dL_law_352 rfl (lv_at hl 3 rfl) ?_
  refine lv_iconst (v := 2) hx hb dL_law_353 (by decide) ?_
  refine lv_iadd hx hb dL_law_354 ?_
  refine lv_eqi (v := (nI (i + 2))) (nA (a := i) (b := 2) (c := i + 2) (by omega)) ?_
  refine va_sld hx hb hX hbl hbA hI.2.2.1 (vp_in_nI (show i + 2 < L by omega) (by omega)) dL_law_355 ?_
  refine lv_eqi (v := a2) q2 ?_
  refine lv_aload_n hx hb dL_law_356 rfl (lv_at hl 0 rfl) ?_
  refine lv_iload_n hx hb dL_law_357 rfl (lv_at hl 3 rfl) ?_
  refine lv_iconst (v := 3) hx hb dL_law_358 (by decide) ?_
  refine lv_iadd hx hb dL_law_359 ?_
  refine lv_eqi (v := (nI (i + 3))) (nA (a := i) (b := 3) (c := i + 3) (by omega)) ?_
  refine va_sld hx hb hX hbl hbA hI.2.2.1 (vp_in_nI (show i + 3 < L by omega) (by omega)) dL_law_360 ?_
  refine lv_eqi (v := a3) q3 ?_
  refine lv_aload_n hx hb dL_law_361 rfl (lv_at hl 0 rfl) ?_
  refine lv_iload_n hx hb dL_law_362 rfl (lv_at hl 3 rfl) ?_
  refine lv_iconst (v := 4) hx hb dL_law_363 (by decide) ?_
  refine lv_iadd hx hb dL_law_364 ?_
  refine lv_eqi (v := (nI (i + 4))) (nA (a := i) (b := 4) (c := i + 4) (by omega)) ?_
  refine va_sld hx hb hX hbl hbA hI.2.2.1 (vp_in_nI (show i + 4 < L by omega) (by omega)) dL_law_365 ?_
  refine lv_eqi (v := a4) q4 ?_
  refine lv_if_eq (tgt := 373) hx hb dL_law_366 (by decide) (fun c1 => ?_) (fun c1 => ?_)
  · refine lv_iconst (v := 0) hx hb dL_law_373 (by decide) ?_
    obtain ⟨hN, Q', hQ, cD⟩ := c_X6_desk l D σ h Q a1 a2 a3 0 _ hV (by decide)
    obtain ⟨P, hP⟩ : ∃ y : Int32 × Sg, deskM σ a1 a2 a3 0 = y := ⟨_, rfl⟩
    have cX := cD ad (wM w00 σ) H.size b_okM
    rw [hP] at cX
    refine tw_callN (tw_rV (t := 0) (As := [.int a1, .int a2, .int a3, .int 0]) (rest := []) S hK hI kL_44 cX wX_0 rfl rfl ⟨Nat.le_of_ble_eq_true rfl, Nat.le_of_ble_eq_true rfl⟩ ⟨show _ ≤ 747832 by omega, show _ ≤ 6858752 by omega⟩ rfl hl.1 rfl (Nat.le_of_ble_eq_true rfl) dL_law_374) hI (fun ad H locs had hI => ?_)
    refine W_stk (st' := [.int P.1]) rfl ?_
    have hl : lv_has ls 4 [(0, .ref b), (1, .ref (ad 0)), (2, .ref (ad 1000)), (3, .int (nI i))] := by rw [had 0 _ wX_0, had 1000 (.inr (6, mRoot σ)) rfl]; exact hl
    refine lv_aload_n hx hb dL_law_377 rfl (lv_at hl 2 rfl) ?_
    refine lv_aload_n hx hb dL_law_378 rfl (lv_at hl 0 rfl) ?_
    refine lv_iload_n hx hb dL_law_379 rfl (lv_at hl 3 rfl) ?_
    refine lv_iconst (v := 1) hx hb dL_law_380 (by decide) ?_
    refine lv_iadd hx hb dL_law_381 ?_
    refine lv_eqi (v := (nI (i + 1))) (nA (a := i) (b := 1) (c := i + 1) (by omega)) ?_
    refine va_sld hx hb hX hbl hbA hI.2.2.1 (vp_in_nI (show i + 1 < L by omega) (by omega)) dL_law_382 ?_
    refine lv_eqi (v := a1) q1 ?_
    refine lv_aload_n hx hb dL_law_383 rfl (lv_at hl 0 rfl) ?_
    refine lv_iload_n hx hb dL_law_384 rfl (lv_at hl 3 rfl) ?_
    refine lv_iconst (v := 2) hx hb dL_law_385 (by decide) ?_
    refine lv_iadd hx hb dL_law_386 ?_
    refine lv_eqi (v := (nI (i + 2))) (nA (a := i) (b := 2) (c := i + 2) (by omega)) ?_
    refine va_sld hx hb hX hbl hbA hI.2.2.1 (vp_in_nI (show i + 2 < L by omega) (by omega)) dL_law_387 ?_
    refine lv_eqi (v := a2) q2 ?_
    refine lv_aload_n hx hb dL_law_388 rfl (lv_at hl 0 rfl) ?_
    refine lv_iload_n hx hb dL_law_389 rfl (lv_at hl 3 rfl) ?_
    refine lv_iconst (v := 3) hx hb dL_law_390 (by decide) ?_
    refine lv_iadd hx hb dL_law_391 ?_
    refine lv_eqi (v := (nI (i + 3))) (nA (a := i) (b := 3) (c := i + 3) (by omega)) ?_
    refine va_sld hx hb hX hbl hbA hI.2.2.1 (vp_in_nI (show i + 3 < L by omega) (by omega)) dL_law_392 ?_
    refine lv_eqi (v := a3) q3 ?_
    refine lv_aload_n hx hb dL_law_393 rfl (lv_at hl 0 rfl) ?_
    refine lv_iload_n hx hb dL_law_394 rfl (lv_at hl 3 rfl) ?_
    refine lv_iconst (v := 4) hx hb dL_law_395 (by decide) ?_
    refine lv_iadd hx hb dL_law_396 ?_
    refine lv_eqi (v := (nI (i + 4))) (nA (a := i) (b := 4) (c := i + 4) (by omega)) ?_
    refine va_sld hx hb hX hbl hbA hI.2.2.1 (vp_in_nI (show i + 4 < L by omega) (by omega)) dL_law_397 ?_
    refine lv_eqi (v := a4) q4 ?_
    refine lv_if_eq (tgt := 405) hx hb dL_law_398 (by decide) (fun c2 => ?_) (fun c2 => ?_)
    · refine lv_iconst (v := 0) hx hb dL_law_405 (by decide) ?_
      rw [wB] at hI
      have cM := c_X7_desk l D ad (wX w00 P.2 h Q') σ H.size a1 a2 a3 0 hV.1 rfl
      rw [hP] at cM
      refine tw_calli (tw_rV (t := 1000) (As := [.int a1, .int a2, .int a3, .int 0]) (rest := [.int P.1]) S hK hI kL_48 cM (fs := mRoot σ) rfl rfl rfl ⟨Nat.le_of_ble_eq_true rfl, Nat.le_of_ble_eq_true rfl⟩ ⟨show _ ≤ 747832 by omega, show _ ≤ 6858752 by omega⟩ rfl hl.1 rfl (Nat.le_of_ble_eq_true rfl) dL_law_406) hI (fun H locs hI => ?_)
      rw [← wB] at hI
      refine lv_icmp_eq (tgt := 618) hx hb dL_law_409 (by decide) (fun _ => ?_) (fun cc => absurd rfl cc)
      rw [hP] at hN
      have hN := LI_up hLI hN hQ
      refine W.widen (k := cells + 2) (n := slots + 9) (by omega) (by omega) ?_
      exact hk ad H locs _ _ _ hN hI hl
    · exact absurd c1 c2
  · refine lv_iconst (v := 1) hx hb dL_law_369 (by decide) ?_
    refine lv_goto (tgt := 374) hx hb dL_law_370 (by decide) ?_
    obtain ⟨hN, Q', hQ, cD⟩ := c_X6_desk l D σ h Q a1 a2 a3 1 _ hV (by decide)
    obtain ⟨P, hP⟩ : ∃ y : Int32 × Sg, deskM σ a1 a2 a3 1 = y := ⟨_, rfl⟩
    have cX := cD ad (wM w00 σ) H.size b_okM
    rw [hP] at cX
    refine tw_callN (tw_rV (t := 0) (As := [.int a1, .int a2, .int a3, .int 1]) (rest := []) S hK hI kL_44 cX wX_0 rfl rfl ⟨Nat.le_of_ble_eq_true rfl, Nat.le_of_ble_eq_true rfl⟩ ⟨show _ ≤ 747832 by omega, show _ ≤ 6858752 by omega⟩ rfl hl.1 rfl (Nat.le_of_ble_eq_true rfl) dL_law_374) hI (fun ad H locs had hI => ?_)
    refine W_stk (st' := [.int P.1]) rfl ?_
    have hl : lv_has ls 4 [(0, .ref b), (1, .ref (ad 0)), (2, .ref (ad 1000)), (3, .int (nI i))] := by rw [had 0 _ wX_0, had 1000 (.inr (6, mRoot σ)) rfl]; exact hl
    refine lv_aload_n hx hb dL_law_377 rfl (lv_at hl 2 rfl) ?_
    refine lv_aload_n hx hb dL_law_378 rfl (lv_at hl 0 rfl) ?_
    refine lv_iload_n hx hb dL_law_379 rfl (lv_at hl 3 rfl) ?_
    refine lv_iconst (v := 1) hx hb dL_law_380 (by decide) ?_
    refine lv_iadd hx hb dL_law_381 ?_
    refine lv_eqi (v := (nI (i + 1))) (nA (a := i) (b := 1) (c := i + 1) (by omega)) ?_
    refine va_sld hx hb hX hbl hbA hI.2.2.1 (vp_in_nI (show i + 1 < L by omega) (by omega)) dL_law_382 ?_
    refine lv_eqi (v := a1) q1 ?_
    refine lv_aload_n hx hb dL_law_383 rfl (lv_at hl 0 rfl) ?_
    refine lv_iload_n hx hb dL_law_384 rfl (lv_at hl 3 rfl) ?_
    refine lv_iconst (v := 2) hx hb dL_law_385 (by decide) ?_
    refine lv_iadd hx hb dL_law_386 ?_
    refine lv_eqi (v := (nI (i + 2))) (nA (a := i) (b := 2) (c := i + 2) (by omega)) ?_
    refine va_sld hx hb hX hbl hbA hI.2.2.1 (vp_in_nI (show i + 2 < L by omega) (by omega)) dL_law_387 ?_
    refine lv_eqi (v := a2) q2 ?_
    refine lv_aload_n hx hb dL_law_388 rfl (lv_at hl 0 rfl) ?_
    refine lv_iload_n hx hb dL_law_389 rfl (lv_at hl 3 rfl) ?_
    refine lv_iconst (v := 3) hx hb dL_law_390 (by decide) ?_
    refine lv_iadd hx hb dL_law_391 ?_
    refine lv_eqi (v := (nI (i + 3))) (nA (a := i) (b := 3) (c := i + 3) (by omega)) ?_
    refine va_sld hx hb hX hbl hbA hI.2.2.1 (vp_in_nI (show i + 3 < L by omega) (by omega)) dL_law_392 ?_
    refine lv_eqi (v := a3) q3 ?_
    refine lv_aload_n hx hb dL_law_393 rfl (lv_at hl 0 rfl) ?_
    refine lv_iload_n hx hb dL_law_394 rfl (lv_at hl 3 rfl) ?_
    refine lv_iconst (v := 4) hx hb dL_law_395 (by decide) ?_
    refine lv_iadd hx hb dL_law_396 ?_
    refine lv_eqi (v := (nI (i + 4))) (nA (a := i) (b := 4) (c := i + 4) (by omega)) ?_
    refine va_sld hx hb hX hbl hbA hI.2.2.1 (vp_in_nI (show i + 4 < L by omega) (by omega)) dL_law_397 ?_
    refine lv_eqi (v := a4) q4 ?_
    refine lv_if_eq (tgt := 405) hx hb dL_law_398 (by decide) (fun c3 => ?_) (fun c3 => ?_)
    · exact absurd c3 c1
    · refine lv_iconst (v := 1) hx hb dL_law_401 (by decide) ?_
      refine lv_goto (tgt := 406) hx hb dL_law_402 (by decide) ?_
      rw [wB] at hI
      have cM := c_X7_desk l D ad (wX w00 P.2 h Q') σ H.size a1 a2 a3 1 hV.1 rfl
      rw [hP] at cM
      refine tw_calli (tw_rV (t := 1000) (As := [.int a1, .int a2, .int a3, .int 1]) (rest := [.int P.1]) S hK hI kL_48 cM (fs := mRoot σ) rfl rfl rfl ⟨Nat.le_of_ble_eq_true rfl, Nat.le_of_ble_eq_true rfl⟩ ⟨show _ ≤ 747832 by omega, show _ ≤ 6858752 by omega⟩ rfl hl.1 rfl (Nat.le_of_ble_eq_true rfl) dL_law_406) hI (fun H locs hI => ?_)
      rw [← wB] at hI
      refine lv_icmp_eq (tgt := 618) hx hb dL_law_409 (by decide) (fun _ => ?_) (fun cc => absurd rfl cc)
      rw [hP] at hN
      have hN := LI_up hLI hN hQ
      refine W.widen (k := cells + 2) (n := slots + 9) (by omega) (by omega) ?_
      exact hk ad H locs _ _ _ hN hI hl

set_option maxHeartbeats 2000000 in
set_option maxRecDepth 100000 in
theorem arm_hand_no {p : Program} {l : Launch} {e : Env} {s : State} {m : MethodId} {below : List Frame} {meth : Method} {c : Code} {b L : Nat} {xs : Nat → Int32} {D : tw_G} {i j cells slots : Nat} {Z : State → Prop} {ad : Nat → Nat} {H : Heap} {locs : List Loc} {ls : Array Slot} {σ : Sg} {h : Int32} {Q : Nat → Int32} (S : CallFix p m c cL_law 4 s #[Value.ref b] tw_ws RL) (hK : tw_K D s) (hX : va_X b L xs s s.heap) (hbl : b < s.heap.size) (hL : L ≤ 3072) (hi : i + 6 ≤ L) (hc : cells + 2 ≤ 747832) (hs : slots + 9 ≤ 6858752) (hj : j ≤ 512) (hLI : LI j σ h Q) (hI : tw_I D (fun q : Nat => s.heap.size ≤ q) ad (wX (wM w00 σ) σ h Q) s.heap H locs) (hl : lv_has ls 4 [(0, .ref b), (1, .ref (ad 0)), (2, .ref (ad 1000)), (3, .int (nI i))]) (v : Int32) (hcX : ∀ (ad : Nat → Nat) (b : tw_W) (sz : Nat), Met l yX6_hand (tw_w yX6_hand cX6_hand 4 (some .int)) (tw_R 36 0 0) (tw_Pc D ad (wX b σ h Q) sz [.ref (ad 0), .int (xs (nI (i + 1)).toNatClampNeg), .int (xs (nI (i + 2)).toNatClampNeg)]) (tw_Q D ad (wX b (refuseM σ (-2)) h Q) (tw_A ad (wX b σ h Q) sz) (some (.int v))) 0 0 (tw_A ad (wX b σ h Q) sz)) (hcM : ∀ (ad : Nat → Nat) (b : tw_W) (sz : Nat), Met l yX7_hand (tw_w yX7_hand cX7_hand 4 (some .int)) (tw_R 7 0 0) (tw_Pc D ad (wM b σ) sz [.ref (ad 1000), .int (xs (nI (i + 1)).toNatClampNeg), .int (xs (nI (i + 2)).toNatClampNeg)]) (tw_Q D ad (wM b (refuseM σ (-2))) (tw_A ad (wM b σ) sz) (some (.int v))) 0 0 (tw_A ad (wM b σ) sz)) (hk : ∀ (ad : Nat → Nat) (H : Heap) (locs : List Loc) (σ : Sg) (h : Int32) (Q : Nat → Int32), LI (j + 1) σ h Q → tw_I D (fun q : Nat => s.heap.size ≤ q) ad (wX (wM w00 σ) σ h Q) s.heap H locs → lv_has ls 4 [(0, .ref b), (1, .ref (ad 0)), (2, .ref (ad 1000)), (3, .int (nI i))] → W p l e room_1 s m #[Value.ref b] below meth c H locs (cells + 2) (slots + 9) Z (F0 m 618 ls [])) : W p l e room_1 s m #[Value.ref b] below meth c H locs cells slots Z (F0 m 493 ls []) := by
  have hx := S.1
  have hb := S.2.1
  have hbA : ¬ (fun q : Nat => s.heap.size ≤ q) b := Nat.not_le.mpr hbl
  have hV := hLI.1
  obtain ⟨a1, q1⟩ : ∃ y : Int32, xs (nI (i + 1)).toNatClampNeg = y := ⟨_, rfl⟩
  obtain ⟨a2, q2⟩ : ∃ y : Int32, xs (nI (i + 2)).toNatClampNeg = y := ⟨_, rfl⟩
  rw [q1, q2] at hcX hcM
  refine lv_aload_n hx hb dL_law_493 rfl (lv_at hl 1 rfl) ?_
  refine lv_aload_n hx hb dL_law_494 rfl (lv_at hl 0 rfl) ?_
  refine lv_iload_n hx hb dL_law_495 rfl (lv_at hl 3 rfl) ?_
  refine lv_iconst (v := 1) hx hb dL_law_496 (by decide) ?_
  refine lv_iadd hx hb dL_law_497 ?_
  refine lv_eqi (v := (nI (i + 1))) (nA (a := i) (b := 1) (c := i + 1) (by omega)) ?_
  refine va_sld hx hb hX hbl hbA hI.2.2.1 (vp_in_nI (show i + 1 < L by omega) (by omega)) dL_law_498 ?_
  refine lv_eqi (v := a1) q1 ?_
  refine lv_aload_n hx hb dL_law_499 rfl (lv_at hl 0 rfl) ?_
  refine lv_iload_n hx hb dL_law_500 rfl (lv_at hl 3 rfl) ?_
  refine lv_iconst (v := 2) hx hb dL_law_501 (by decide) ?_
  refine lv_iadd hx hb dL_law_502 ?_
  refine lv_eqi (v := (nI (i + 2))) (nA (a := i) (b := 2) (c := i + 2) (by omega)) ?_
  refine va_sld hx hb hX hbl hbA hI.2.2.1 (vp_in_nI (show i + 2 < L by omega) (by omega)) dL_law_503 ?_
  refine lv_eqi (v := a2) q2 ?_
  have cX := hcX ad (wM w00 σ) H.size
  refine tw_calli (tw_rV (t := 0) (As := [.int a1, .int a2]) (rest := []) S hK hI kL_54 cX wX_0 rfl rfl ⟨Nat.le_of_ble_eq_true rfl, Nat.le_of_ble_eq_true rfl⟩ ⟨show _ ≤ 747832 by omega, show _ ≤ 6858752 by omega⟩ rfl hl.1 rfl (Nat.le_of_ble_eq_true rfl) dL_law_504) hI (fun H locs hI => ?_)
  refine lv_aload_n hx hb dL_law_507 rfl (lv_at hl 2 rfl) ?_
  refine lv_aload_n hx hb dL_law_508 rfl (lv_at hl 0 rfl) ?_
  refine lv_iload_n hx hb dL_law_509 rfl (lv_at hl 3 rfl) ?_
  refine lv_iconst (v := 1) hx hb dL_law_510 (by decide) ?_
  refine lv_iadd hx hb dL_law_511 ?_
  refine lv_eqi (v := (nI (i + 1))) (nA (a := i) (b := 1) (c := i + 1) (by omega)) ?_
  refine va_sld hx hb hX hbl hbA hI.2.2.1 (vp_in_nI (show i + 1 < L by omega) (by omega)) dL_law_512 ?_
  refine lv_eqi (v := a1) q1 ?_
  refine lv_aload_n hx hb dL_law_513 rfl (lv_at hl 0 rfl) ?_
  refine lv_iload_n hx hb dL_law_514 rfl (lv_at hl 3 rfl) ?_
  refine lv_iconst (v := 2) hx hb dL_law_515 (by decide) ?_
  refine lv_iadd hx hb dL_law_516 ?_
  refine lv_eqi (v := (nI (i + 2))) (nA (a := i) (b := 2) (c := i + 2) (by omega)) ?_
  refine va_sld hx hb hX hbl hbA hI.2.2.1 (vp_in_nI (show i + 2 < L by omega) (by omega)) dL_law_517 ?_
  refine lv_eqi (v := a2) q2 ?_
  rw [wB] at hI
  have cM := hcM ad (wX w00 (refuseM σ (-2)) h Q) H.size
  refine tw_calli (tw_rV (t := 1000) (As := [.int a1, .int a2]) (rest := [.int v]) S hK hI kL_57 cM (fs := mRoot σ) rfl rfl rfl ⟨Nat.le_of_ble_eq_true rfl, Nat.le_of_ble_eq_true rfl⟩ ⟨show _ ≤ 747832 by omega, show _ ≤ 6858752 by omega⟩ rfl hl.1 rfl (Nat.le_of_ble_eq_true rfl) dL_law_518) hI (fun H locs hI => ?_)
  rw [← wB] at hI
  refine lv_icmp_eq (tgt := 618) hx hb dL_law_521 (by decide) (fun _ => ?_) (fun cc => absurd rfl cc)
  have hN := LI_same hLI (INV_ref (-2) hV)
  refine W.widen (k := cells + 2) (n := slots + 9) (by omega) (by omega) ?_
  exact hk ad H locs _ _ _ hN hI hl

set_option maxHeartbeats 2000000 in
set_option maxRecDepth 100000 in
theorem arm_hand_ok {p : Program} {l : Launch} {e : Env} {s : State} {m : MethodId} {below : List Frame} {meth : Method} {c : Code} {b L : Nat} {xs : Nat → Int32} {D : tw_G} {i j cells slots : Nat} {Z : State → Prop} {ad : Nat → Nat} {H : Heap} {locs : List Loc} {ls : Array Slot} {σ : Sg} {h : Int32} {Q : Nat → Int32} (S : CallFix p m c cL_law 4 s #[Value.ref b] tw_ws RL) (hK : tw_K D s) (hX : va_X b L xs s s.heap) (hbl : b < s.heap.size) (hL : L ≤ 3072) (hi : i + 6 ≤ L) (hc : cells + 2 ≤ 747832) (hs : slots + 9 ≤ 6858752) (hj : j ≤ 512) (hLI : LI j σ h Q) (hI : tw_I D (fun q : Nat => s.heap.size ≤ q) ad (wX (wM w00 σ) σ h Q) s.heap H locs) (hl : lv_has ls 4 [(0, .ref b), (1, .ref (ad 0)), (2, .ref (ad 1000)), (3, .int (nI i))]) (k r : Nat) (hk0 : k < nS σ) (h6 : k < 60) (hr8 : r < 8) (ek : xs (nI (i + 1)).toNatClampNeg = nI k) (er : xs (nI (i + 2)).toNatClampNeg = nI r) (hk : ∀ (ad : Nat → Nat) (H : Heap) (locs : List Loc) (σ : Sg) (h : Int32) (Q : Nat → Int32), LI (j + 1) σ h Q → tw_I D (fun q : Nat => s.heap.size ≤ q) ad (wX (wM w00 σ) σ h Q) s.heap H locs → lv_has ls 4 [(0, .ref b), (1, .ref (ad 0)), (2, .ref (ad 1000)), (3, .int (nI i))] → W p l e room_1 s m #[Value.ref b] below meth c H locs (cells + 2) (slots + 9) Z (F0 m 618 ls [])) : W p l e room_1 s m #[Value.ref b] below meth c H locs cells slots Z (F0 m 493 ls []) := by
  have hx := S.1
  have hb := S.2.1
  have hbA : ¬ (fun q : Nat => s.heap.size ≤ q) b := Nat.not_le.mpr hbl
  have hV := hLI.1
  obtain ⟨a1, q1⟩ : ∃ y : Int32, xs (nI (i + 1)).toNatClampNeg = y := ⟨_, rfl⟩
  obtain ⟨a2, q2⟩ : ∃ y : Int32, xs (nI (i + 2)).toNatClampNeg = y := ⟨_, rfl⟩
  rw [ek] at q1
  rw [er] at q2
  subst q1
  subst q2
  refine lv_aload_n hx hb dL_law_493 rfl (lv_at hl 1 rfl) ?_
  refine lv_aload_n hx hb dL_law_494 rfl (lv_at hl 0 rfl) ?_
  refine lv_iload_n hx hb dL_law_495 rfl (lv_at hl 3 rfl) ?_
  refine lv_iconst (v := 1) hx hb dL_law_496 (by decide) ?_
  refine lv_iadd hx hb dL_law_497 ?_
  refine lv_eqi (v := (nI (i + 1))) (nA (a := i) (b := 1) (c := i + 1) (by omega)) ?_
  refine va_sld hx hb hX hbl hbA hI.2.2.1 (vp_in_nI (show i + 1 < L by omega) (by omega)) dL_law_498 ?_
  refine lv_eqi (v := nI k) ek ?_
  refine lv_aload_n hx hb dL_law_499 rfl (lv_at hl 0 rfl) ?_
  refine lv_iload_n hx hb dL_law_500 rfl (lv_at hl 3 rfl) ?_
  refine lv_iconst (v := 2) hx hb dL_law_501 (by decide) ?_
  refine lv_iadd hx hb dL_law_502 ?_
  refine lv_eqi (v := (nI (i + 2))) (nA (a := i) (b := 2) (c := i + 2) (by omega)) ?_
  refine va_sld hx hb hX hbl hbA hI.2.2.1 (vp_in_nI (show i + 2 < L by omega) (by omega)) dL_law_503 ?_
  refine lv_eqi (v := nI r) er ?_
  obtain ⟨P, hP⟩ : ∃ y : Int32 × Sg, handOK σ k r = y := ⟨_, rfl⟩
  have cX := c_X6_hand_ok l D ad (wM w00 σ) σ h Q H.size k r _ hV (by omega) (fun d _ => LI_ask hLI hj d) hk0 h6 hr8
  rw [hP] at cX
  refine tw_calli (tw_rV (t := 0) (As := [.int (nI k), .int (nI r)]) (rest := []) S hK hI kL_54 cX wX_0 rfl rfl ⟨Nat.le_of_ble_eq_true rfl, Nat.le_of_ble_eq_true rfl⟩ ⟨show _ ≤ 747832 by omega, show _ ≤ 6858752 by omega⟩ rfl hl.1 rfl (Nat.le_of_ble_eq_true rfl) dL_law_504) hI (fun H locs hI => ?_)
  refine lv_aload_n hx hb dL_law_507 rfl (lv_at hl 2 rfl) ?_
  refine lv_aload_n hx hb dL_law_508 rfl (lv_at hl 0 rfl) ?_
  refine lv_iload_n hx hb dL_law_509 rfl (lv_at hl 3 rfl) ?_
  refine lv_iconst (v := 1) hx hb dL_law_510 (by decide) ?_
  refine lv_iadd hx hb dL_law_511 ?_
  refine lv_eqi (v := (nI (i + 1))) (nA (a := i) (b := 1) (c := i + 1) (by omega)) ?_
  refine va_sld hx hb hX hbl hbA hI.2.2.1 (vp_in_nI (show i + 1 < L by omega) (by omega)) dL_law_512 ?_
  refine lv_eqi (v := nI k) ek ?_
  refine lv_aload_n hx hb dL_law_513 rfl (lv_at hl 0 rfl) ?_
  refine lv_iload_n hx hb dL_law_514 rfl (lv_at hl 3 rfl) ?_
  refine lv_iconst (v := 2) hx hb dL_law_515 (by decide) ?_
  refine lv_iadd hx hb dL_law_516 ?_
  refine lv_eqi (v := (nI (i + 2))) (nA (a := i) (b := 2) (c := i + 2) (by omega)) ?_
  refine va_sld hx hb hX hbl hbA hI.2.2.1 (vp_in_nI (show i + 2 < L by omega) (by omega)) dL_law_517 ?_
  refine lv_eqi (v := nI r) er ?_
  rw [wB] at hI
  have cM := c_X7_hand_ok l D ad (wX w00 P.2 (h + 1) (xAsk σ h Q)) σ H.size k r _ hV (by omega) hk0 h6 hr8
  rw [hP] at cM
  refine tw_callE (wf := fun F1 => wM (wX w00 P.2 (h + 1) (xAsk σ h Q)) (gj P.2 F1)) (tw_rV (t := 1000) (As := [.int (nI k), .int (nI r)]) (rest := [.int P.1]) S hK hI kL_57 cM (fs := mRoot σ) rfl rfl rfl ⟨Nat.le_of_ble_eq_true rfl, Nat.le_of_ble_eq_true rfl⟩ ⟨show _ ≤ 747832 by omega, show _ ≤ 6858752 by omega⟩ rfl hl.1 rfl (Nat.le_of_ble_eq_true rfl) dL_law_518) hI (fun F1 H locs hI => ?_)
  rw [← wB, ← wX_gj (F := F1)] at hI
  refine lv_icmp_eq (tgt := 618) hx hb dL_law_521 (by decide) (fun _ => ?_) (fun cc => absurd rfl cc)
  have hN := LI_hand hLI hj hk0 hr8
  rw [hP] at hN
  have hN := LI_gj (F := F1) hN
  refine W.widen (k := cells + 2) (n := slots + 9) (by omega) (by omega) ?_
  exact hk ad H locs _ _ _ hN hI hl

theorem arm_hand {p : Program} {l : Launch} {e : Env} {s : State} {m : MethodId} {below : List Frame} {meth : Method} {c : Code} {b L : Nat} {xs : Nat → Int32} {D : tw_G} {i j cells slots : Nat} {Z : State → Prop} {ad : Nat → Nat} {H : Heap} {locs : List Loc} {ls : Array Slot} {σ : Sg} {h : Int32} {Q : Nat → Int32} (S : CallFix p m c cL_law 4 s #[Value.ref b] tw_ws RL) (hK : tw_K D s) (hX : va_X b L xs s s.heap) (hbl : b < s.heap.size) (hL : L ≤ 3072) (hi : i + 6 ≤ L) (hc : cells + 2 ≤ 747832) (hs : slots + 9 ≤ 6858752) (hj : j ≤ 512) (hLI : LI j σ h Q) (hI : tw_I D (fun q : Nat => s.heap.size ≤ q) ad (wX (wM w00 σ) σ h Q) s.heap H locs) (hl : lv_has ls 4 [(0, .ref b), (1, .ref (ad 0)), (2, .ref (ad 1000)), (3, .int (nI i))]) (hk : ∀ (ad : Nat → Nat) (H : Heap) (locs : List Loc) (σ : Sg) (h : Int32) (Q : Nat → Int32), LI (j + 1) σ h Q → tw_I D (fun q : Nat => s.heap.size ≤ q) ad (wX (wM w00 σ) σ h Q) s.heap H locs → lv_has ls 4 [(0, .ref b), (1, .ref (ad 0)), (2, .ref (ad 1000)), (3, .int (nI i))] → W p l e room_1 s m #[Value.ref b] below meth c H locs (cells + 2) (slots + 9) Z (F0 m 618 ls [])) : W p l e room_1 s m #[Value.ref b] below meth c H locs cells slots Z (F0 m 493 ls []) := by
  have hV := hLI.1
  rcases item_or σ (xs (nI (i + 1)).toNatClampNeg) (okN hV.1).1 with hv | ⟨k, hn, h6, ek⟩
  · exact arm_hand_no S hK hX hbl hL hi hc hs hj hLI hI hl (-2) (fun ad b sz => c_X6_hand_none l D ad b σ h Q sz _ _ hV.1 hv) (fun ad b sz => c_X7_hand_none l D ad b σ sz _ _ hV.1 hv) hk
  · rcases room_or (xs (nI (i + 2)).toNatClampNeg) with hv | ⟨r, hr8, er⟩
    · exact arm_hand_no S hK hX hbl hL hi hc hs hj hLI hI hl (-2) (fun ad b sz => by rw [ek]; exact c_X6_hand_noroom l D ad b σ h Q sz k _ hV.1 hn h6 hv) (fun ad b sz => by rw [ek]; exact c_X7_hand_noroom l D ad b σ sz k _ hV.1 hn hv) hk
    · exact arm_hand_ok S hK hX hbl hL hi hc hs hj hLI hI hl k r hn h6 hr8 ek er hk
