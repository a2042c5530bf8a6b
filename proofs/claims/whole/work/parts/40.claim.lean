/-! THE CLAIM OUT OF ONE WALK OF THE LAW'S BODY. Your part is whole_start (and what it stands on); all else here is the same for every law, but numbers. -/
def R_law : String := "MailRoomsLaw"
def lw_P (b : Addr) (xs : List Int32) (args : Array Value) (s : State) : Prop := args = #[.ref b] ∧ s.IntsAt b xs ∧ xs.length ≤ 3072 ∧ (Jvm.Cond.and given_1 narrow_1).before args s = true
def lw_Q (_ : Array Value) (s : State) (o : Outcome) (t : State) : Prop := o = .returned (some (.int 1)) ∧ Framed s o t [] 747832 6858752
def lw_Z (below : List Frame) (a : Array Value) (s : State) : State → Prop := fun t => ∃ o, t.status = .running ∧ Ended t below o ∧ lw_Q a s o t
/-- the law's own end, with 1 on the stack, nothing written that was there before, its room as the claim has it -/
theorem lw_ret {p : Program} {l : Launch} {e : Env} {s : State} {m : MethodId} {below : List Frame} {meth : Method} {c : Code} {b : Nat} (hx : p.tables.exec = Jvm.exec) (hb : c.code = code) (hr : meth.sig.returnType = ret) (hlocks : meth.locks = false) {pc : Nat} {H : Heap} {ls : Array Slot} (hdg : decode code pc = .ok (.ireturn, 1)) : W p l e room_1 s m #[Value.ref b] below meth c H [] 747832 6858752 (lw_Z below #[Value.ref b] s) (F0 m pc ls [.int 1]) := by
  intro T hT X
  obtain ⟨fs, hret, hrun, hended, hW, hframe⟩ := X.leave (v := some (.int 1)) (hlocks := hlocks) (fun h => by rw [hr] at h; cases h)
  have hmeth' : T.vm.method? m = some meth := X.method'
  refine ⟨T.setFrames fs, ?_, .returned (some (.int 1)), hrun, hended, rfl, ⟨_, rfl⟩, hW, hframe⟩
  jvm_step X.here [X.here.top, hx, hb, hdg, hmeth', hr, ret, narrow_b1]
  (try refine ⟨rfl, ?_⟩); (try refine ⟨rfl, ?_⟩)
  first | (intro acts; rw [hret _ acts rfl rfl rfl]) | rw [hret _ _ rfl rfl rfl]
  exact Steps.refl _
/-- what holds at the law's entry: the machine, the code, the tables' words (any of lw_tbl by 'hts w (by decide +kernel)'), the script of L ints xs at the cell b, what the Statement gives of the start (any of its parts by flat_of_before) -/
def lw_At (p : Program) (s : State) (m : MethodId) (meth : Method) (c : Code) (b L : Nat) (xs : Nat → Int32) : Prop :=
  p.tables.exec = Jvm.exec ∧ c.code = code ∧ meth.sig.returnType = ret ∧ c.maxLocals = 4 ∧ s.vm.findClass R_law = some m.cls ∧ (∀ w ∈ lw_tbl, w.before #[Value.ref b] s = true) ∧ va_X b L xs s s.heap ∧ b < s.heap.size ∧ meth.locks = false ∧ (Jvm.Cond.and given_1 narrow_1).before #[Value.ref b] s = true

theorem tw_start {s : State} {b : Nat} (hts : ∀ w ∈ lw_tbl, w.before #[Value.ref b] s = true) (hgv : (Jvm.Cond.and given_1 narrow_1).before #[Value.ref b] s = true) : ∃ D : tw_G, tw_K D s := by
  have ht2 : ∀ w ∈ tw_ws, w.before #[Value.ref b] s = true := fun w hw => hts w (List.mem_filter.mp hw).1
  have hq := flat_of_before _ hgv
  obtain ⟨c0, i0, k0⟩ := u_known (C := RX0) (T := TX0) (N := 9) (n := 9) ht2 iT0 (hts (.instantiable RX0 9) (by decide +kernel))
  obtain ⟨c1, i1, k1⟩ := u_known (C := RX2) (T := TX2) (N := 3) (n := 3) ht2 iT2 (hts (.instantiable RX2 3) (by decide +kernel))
  obtain ⟨c2, i2, k2⟩ := u_known (C := RX3) (T := TX3) (N := 3) (n := 3) ht2 iT3 (hts (.instantiable RX3 3) (by decide +kernel))
  obtain ⟨c3, i3, k3⟩ := u_known (C := RX4) (T := TX4) (N := 2) (n := 2) ht2 iT4 (hts (.instantiable RX4 2) (by decide +kernel))
  obtain ⟨c4, i4, k4⟩ := u_known (C := RX5) (T := TX5) (N := 3) (n := 3) ht2 iT5 (hts (.instantiable RX5 3) (by decide +kernel))
  obtain ⟨c5, i5, k5⟩ := u_known (C := RX6) (T := TX6) (N := 11) (n := 11) ht2 iT6 (hts (.instantiable RX6 11) (by decide +kernel))
  obtain ⟨c6, i6, k6⟩ := u_known (C := RX7) (T := TX7) (N := 27) (n := 27) ht2 iT7 (hts (.instantiable RX7 27) (by decide +kernel))
  obtain ⟨cI, kI, mI, fI, gI, hI⟩ := Cond.arrayClass_spec (hts (.arrayClass .int) (by decide +kernel))
  obtain ⟨cJ, kJ, mJ, fJ, gJ, hJ⟩ := Cond.arrayClass_spec (hts (.arrayClass .long) (by decide +kernel))
  obtain ⟨cZ, kZ, mZ, fZ, gZ, hZ⟩ := Cond.arrayClass_spec (hts (.arrayClass .boolean) (by decide +kernel))
  obtain ⟨mD, cD, kD, fD, -, gD, hD, nD⟩ := Cond.arrayOver_spec (hts (.arrayOver (.object RX0)) (by decide +kernel))
  obtain ⟨mE, cE, kE, fE, -, gE, hE, nE⟩ := Cond.arrayOver_spec (hts (.arrayOver (.object RX1)) (by decide +kernel))
  obtain ⟨mR, cR, kR, fR, -, gR, hR, nR⟩ := Cond.arrayOver_spec (hts (.arrayOver (.object RX4)) (by decide +kernel))
  refine ⟨((fun k => if k = 0 then c0 else if k = 1 then c1 else if k = 2 then c2 else if k = 3 then c3 else if k = 4 then c4 else if k = 5 then c5 else c6, fun k => if k = 0 then i0 else if k = 1 then i1 else if k = 2 then i2 else if k = 3 then i3 else if k = 4 then i4 else if k = 5 then i5 else i6), fun k => if k = 0 then cI else if k = 1 then cJ else if k = 2 then cZ else if k = 3 then cD else if k = 4 then cE else cR), ⟨?_, ?_⟩, ?_, ?_⟩
  · intro k q hq
    match k, hq with
    | 0, hq => cases hq; exact k0
    | 1, hq => cases hq; exact k1
    | 2, hq => cases hq; exact k2
    | 3, hq => cases hq; exact k3
    | 4, hq => cases hq; exact k4
    | 5, hq => cases hq; exact k5
    | 6, hq => cases hq; exact k6
    | k + 7, hq => simp [vwCl] at hq
  · intro k q hq
    match k, hq with
    | 0, hq => cases hq; exact ⟨fun n z => ⟨fun k h => (by cases h), kI, gI, mI, hI⟩, fI⟩
    | 1, hq => cases hq; exact ⟨fun n z => ⟨fun k h => (by cases h), kJ, gJ, mJ, hJ⟩, fJ⟩
    | 2, hq => cases hq; exact ⟨fun n z => ⟨fun k h => (by cases h), kZ, gZ, mZ, hZ⟩, fZ⟩
    | 3, hq => cases hq; exact ⟨fun n z => ⟨fun k h => (by cases h), kD, gD, mD, hD⟩, kD, mD, gD, hD, fD, nD⟩
    | 4, hq => cases hq; exact ⟨fun n z => ⟨fun k h => (by cases h), kE, gE, mE, hE⟩, kE, mE, gE, hE, fE, nE⟩
    | 5, hq => cases hq; exact ⟨fun n z => ⟨fun k h => (by cases h), kR, gR, mR, hR⟩, kR, mR, gR, hR, fR, nR⟩
    | k + 6, hq => simp [tw_tys] at hq
  · intro w hw
    have hm := List.mem_filter.mp hw
    have h1 := hts w hm.1
    have h2 := hm.2
    cases w with
    | fieldLinkNest => exact va_Nw.of rfl h1
    | methodLinkNest => exact va_Nw.of rfl h1
    | castable => exact va_Nw.of rfl h1
    | declares => exact va_Nw.of rfl h1
    | arrayOver ty =>
      cases ty with
      | object C => exact va_AO.of h1
      | _ => cases h2
    | _ => cases h2
  · intro q hm
    unfold tw_ncs at hm
    simp only [List.mem_cons, List.not_mem_nil, or_false] at hm
    rcases hm with rfl | rfl | rfl | rfl | rfl | rfl
    · exact va_Nc.of (hq (.not (.castable RX3 RX2)) (by decide +kernel))
    · exact va_Nc.of (hq (.not (.castable RX5 RX2)) (by decide +kernel))
    · exact va_Nc.of (hq (.not (.castable RX3 RX5)) (by decide +kernel))
    · exact va_Nc.of (hq (.not (.castable RX2 RX5)) (by decide +kernel))
    · exact va_Nc.of (hq (.not (.castable RX2 RX3)) (by decide +kernel))
    · exact va_Nc.of (hq (.not (.castable RX5 RX3)) (by decide +kernel))

set_option maxHeartbeats 4000000 in
set_option maxRecDepth 100000 in
theorem law_loop {p : Program} {l : Launch} {e : Env} {s : State} {m : MethodId} {below : List Frame} {meth : Method} {c : Code} {b L : Nat} {xs : Nat → Int32} {D : tw_G} (hL : L ≤ 3072) (C0 : lw_At p s m meth c b L xs) (hK : tw_K D s) :
    ∀ (n i j : Nat), i ≤ L → L + 6 ≤ i + 6 * n → i = 6 * j → ∀ (ad : Nat → Nat) (H : Heap) (locs : List Loc) (σ : Sg) (h : Int32) (Q : Nat → Int32) (ls : Array Slot), LI j σ h Q → tw_I D (fun q : Nat => s.heap.size ≤ q) ad (wX (wM w00 σ) σ h Q) s.heap H locs → lv_has ls 4 [(0, .ref b), (1, .ref (ad 0)), (2, .ref (ad 1000)), (3, .int (nI i))] → W p l e room_1 s m #[Value.ref b] below meth c H locs (38 + 2 * j) (846 + 9 * j) (lw_Z below #[Value.ref b] s) (F0 m 18 ls []) := by
  obtain ⟨hx, hb, hr, hml, hown, hts, hX, hbl, hlocks, hgv⟩ := C0
  have hbA : ¬ (fun q : Nat => s.heap.size ≤ q) b := Nat.not_le.mpr hbl
  have S : CallFix p m c cL_law 4 s #[Value.ref b] tw_ws RL := ⟨hx, hb, hml, hown, fun w hw => hts w (List.mem_filter.mp hw).1⟩
  intro n
  induction n with
  | zero =>
    intro i j h1 h2
    exact absurd h2 (by omega)
  | succ n ih =>
    intro i j hiL hn hij ad H locs σ h Q ls hLI hI hl
    have hj : j ≤ 512 := by omega
    refine lv_iload_n hx hb dL_law_18 rfl (lv_at hl 3 rfl) ?_
    refine lv_aload_n hx hb dL_law_19 rfl (lv_at hl 0 rfl) ?_
    refine va_slen hx hb hX hbl hbA hI.2.2.1 dL_law_20 ?_
    refine lv_bipush (v := 6) hx hb dL_law_21 (by decide) ?_
    refine lv_isub hx hb dL_law_23 ?_
    refine lv_topi (fun y ey => ?_)
    have hy : y.toInt = (L : Int) - 6 := by
      rw [ey, Int32.toInt_sub, show (6 : Int32).toInt = 6 by decide, show (Int32.ofNat L).toInt = (L : Int) from nI_toInt (by omega)]
      exact Int.bmod_eq_of_le (by omega) (by omega)
    have hii : (nI i).toInt = (i : Int) := nI_toInt (by omega)
    refine lv_icmp_gt (tgt := 624) hx hb dL_law_24 (by decide) (fun c1 => ?_) (fun c1 => ?_)
    · refine lv_iconst (v := 1) hx hb dL_law_624 (by decide) ?_
      refine va_forget (fun q hq => hI.2.2.1.2.2 q hq) ?_
      refine W.widen (k := 747832) (n := 6858752) (by omega) (by omega) ?_
      exact lw_ret hx hb hr hlocks dL_law_625
    · have hi : i + 6 ≤ L := by
        rw [Int32.lt_iff_toInt_lt] at c1
        omega
      have hk : ∀ (ad : Nat → Nat) (H : Heap) (locs : List Loc) (σ : Sg) (h : Int32) (Q : Nat → Int32), LI (j + 1) σ h Q → tw_I D (fun q : Nat => s.heap.size ≤ q) ad (wX (wM w00 σ) σ h Q) s.heap H locs → lv_has ls 4 [(0, .ref b), (1, .ref (ad 0)), (2, .ref (ad 1000)), (3, .int (nI i))] → W p l e room_1 s m #[Value.ref b] below meth c H locs (38 + 2 * j + 2) (846 + 9 * j + 9) (lw_Z below #[Value.ref b] s) (F0 m 618 ls []) := by
        intro ad H locs σ h Q hLI hI hl
        refine lv_iinc (v := nI (i + 6)) (lv' := [(3, .int (nI (i + 6))), (0, .ref b), (1, .ref (ad 0)), (2, .ref (ad 1000))]) hx hb dL_law_618 hl (k := 3) rfl (nA (a := i) (b := 6) (c := i + 6) rfl) (by decide) rfl (fun ls hl => ?_)
        refine lv_goto (tgt := 18) hx hb dL_law_621 (by decide) ?_
        exact ih (i + 6) (j + 1) hi (by omega) (by omega) ad H locs σ h Q ls hLI hI (lv_sub hl [1, 2, 3, 0] rfl)
      refine lv_aload_n hx hb dL_law_27 rfl (lv_at hl 0 rfl) ?_
      refine lv_iload_n hx hb dL_law_28 rfl (lv_at hl 3 rfl) ?_
      refine va_sld hx hb hX hbl hbA hI.2.2.1 (vp_in_nI (show i < L by omega) (by omega)) dL_law_29 ?_
      refine lv_bipush (v := 15) hx hb dL_law_30 (by decide) ?_
      refine lv_iand hx hb dL_law_32 ?_
      refine lv_topi (fun k ek => ?_)
      clear ek
      have hc : 38 + 2 * j + 2 ≤ 747832 := by omega
      have hs : 846 + 9 * j + 9 ≤ 6858752 := by omega
      rcases tsw_0_13 k with hd | hd | hd | hd | hd | hd | hd | hd | hd | hd | hd | hd | hd | hd | ⟨hd, -⟩
      · refine lv_tableIn (off := 71) (tgt := 104) hx hb dL_law_33 (by rw [hd]; decide) (by rw [hd]; decide) (by rw [hd]; decide) (by decide) ?_
        exact arm_make S hK hX hbl hL hi hc hs hj hLI hI hl hk
      · refine lv_tableIn (off := 104) (tgt := 137) hx hb dL_law_33 (by rw [hd]; decide) (by rw [hd]; decide) (by rw [hd]; decide) (by decide) ?_
        exact arm_put S hK hX hbl hL hi hc hs hj hLI hI hl hk
      · refine lv_tableIn (off := 147) (tgt := 180) hx hb dL_law_33 (by rw [hd]; decide) (by rw [hd]; decide) (by rw [hd]; decide) (by decide) ?_
        exact arm_get S hK hX hbl hL hi hc hs hj hLI hI hl hk
      · refine lv_tableIn (off := 180) (tgt := 213) hx hb dL_law_33 (by rw [hd]; decide) (by rw [hd]; decide) (by rw [hd]; decide) (by decide) ?_
        exact arm_lay S hK hX hbl hL hi hc hs hj hLI hI hl hk
      · refine lv_tableIn (off := 223) (tgt := 256) hx hb dL_law_33 (by rw [hd]; decide) (by rw [hd]; decide) (by rw [hd]; decide) (by decide) ?_
        exact arm_at S hK hX hbl hL hi hc hs hj hLI hI hl hk
      · refine lv_tableIn (off := 256) (tgt := 289) hx hb dL_law_33 (by rw [hd]; decide) (by rw [hd]; decide) (by rw [hd]; decide) (by decide) ?_
        exact arm_is S hK hX hbl hL hi hc hs hj hLI hI hl hk
      · refine lv_tableIn (off := 289) (tgt := 322) hx hb dL_law_33 (by rw [hd]; decide) (by rw [hd]; decide) (by rw [hd]; decide) (by decide) ?_
        exact arm_stamps S hK hX hbl hL hi hc hs hj hLI hI hl hk
      · refine lv_tableIn (off := 312) (tgt := 345) hx hb dL_law_33 (by rw [hd]; decide) (by rw [hd]; decide) (by rw [hd]; decide) (by decide) ?_
        exact arm_desk S hK hX hbl hL hi hc hs hj hLI hI hl hk
      · refine lv_tableIn (off := 381) (tgt := 414) hx hb dL_law_33 (by rw [hd]; decide) (by rw [hd]; decide) (by rw [hd]; decide) (by decide) ?_
        exact arm_change S hK hX hbl hL hi hc hs hj hLI hI hl hk
      · refine lv_tableIn (off := 460) (tgt := 493) hx hb dL_law_33 (by rw [hd]; decide) (by rw [hd]; decide) (by rw [hd]; decide) (by decide) ?_
        exact arm_hand S hK hX hbl hL hi hc hs hj hLI hI hl hk
      · refine lv_tableIn (off := 493) (tgt := 526) hx hb dL_law_33 (by rw [hd]; decide) (by rw [hd]; decide) (by rw [hd]; decide) (by decide) ?_
        exact arm_out S hK hX hbl hL hi hc hs hj hLI hI hl hk
      · refine lv_tableIn (off := 506) (tgt := 539) hx hb dL_law_33 (by rw [hd]; decide) (by rw [hd]; decide) (by rw [hd]; decide) (by decide) ?_
        exact arm_told S hK hX hbl hL hi hc hs hj hLI hI hl hk
      · refine lv_tableIn (off := 549) (tgt := 582) hx hb dL_law_33 (by rw [hd]; decide) (by rw [hd]; decide) (by rw [hd]; decide) (by decide) ?_
        exact arm_count S hK hX hbl hL hi hc hs hj hLI hI hl hk
      · refine lv_tableIn (off := 572) (tgt := 605) hx hb dL_law_33 (by rw [hd]; decide) (by rw [hd]; decide) (by rw [hd]; decide) (by decide) ?_
        exact arm_refused S hK hX hbl hL hi hc hs hj hLI hI hl hk
      · refine lv_tableOut (tgt := 618) hx hb dL_law_33 hd (by decide) ?_
        refine W.widen (k := 38 + 2 * j + 2) (n := 846 + 9 * j + 9) (by omega) (by omega) ?_
        exact hk ad H locs σ h Q (LI_same hLI hLI.1) hI hl

theorem wx_27 {k : Nat} (τ : Nat) : ∀ v : Value, v ∈ ([.int 0, .null, .null, .null, .null, .null, .null, .null, .null, .null, .null, .null, .null, .null, .null, .int 0, .int 0, .int 0, .int 0, .int 0, .int 0, .null, .null, .null, .null, .int 0, .int 0] : List Value) → v ≠ .ref τ := by
  intro v hv e
  subst e
  simp at hv
theorem wX_hi {σ : Sg} {B τ : Nat} {h : Int32} {Q : Nat → Int32} (hV : INV σ B) (hτ : 1000 ≤ τ) : tw_cl τ (wX w00 σ h Q) := by
  intro t e he
  have hn6 := (okN hV.1).1
  unfold wX w00 at he
  by_cases c0 : 1000 ≤ t
  · rw [if_pos c0] at he; cases he
  rw [if_neg c0] at he
  by_cases c1 : t = 0
  · rw [if_pos c1] at he
    cases he
    refine nr_o (fun v hv => ?_)
    unfold xRoot at hv
    simp only [List.mem_cons, List.not_mem_nil, or_false] at hv
    rcases hv with rfl | rfl | rfl | rfl | rfl | rfl | rfl | rfl | rfl | rfl | rfl <;> intro e <;> first | (cases e; omega) | (injection e with e; omega) | cases e
  rw [if_neg c1] at he
  by_cases c2 : t = 1
  · rw [if_pos c2] at he
    cases he
    refine nr_q (fun j => ?_)
    by_cases hj : j < nS σ
    · rw [if_pos hj]; intro e; injection e with e; omega
    · rw [if_neg hj]; intro e; cases e
  rw [if_neg c2] at he
  by_cases c3 : t = 2
  · rw [if_pos c3] at he
    cases he
    refine nr_q (fun j => ?_)
    by_cases hj : j < 8
    · rw [if_pos hj]; intro e; injection e with e; omega
    · rw [if_neg hj]; intro e; cases e
  rw [if_neg c3] at he
  by_cases c4 : 10 ≤ t ∧ t < 18
  · rw [if_pos c4] at he
    cases he
    refine nr_o (fun v hv => ?_)
    simp only [List.mem_cons, List.not_mem_nil, or_false] at hv
    rcases hv with rfl | rfl <;> intro e
    · injection e with e
      have e2 : 20 + (t - 10) = τ := e
      omega
    · cases e
  rw [if_neg c4] at he
  by_cases c5 : 20 ≤ t ∧ t < 28
  · rw [if_pos c5] at he
    cases he
    refine nr_q (fun j => ?_)
    have := (okD hV.1 (show t - 20 < 8 by omega)).1
    by_cases hj : j < dcS σ (t - 20)
    · rw [if_pos hj]; intro e; injection e with e; omega
    · rw [if_neg hj]; intro e; cases e
  rw [if_neg c5] at he
  by_cases c6 : 30 ≤ t ∧ t < 62 ∧ (t - 30) % 4 < dcS σ ((t - 30) / 4)
  · rw [if_pos c6] at he
    cases he
    have hH := hV.2.2.2.1 ((t - 30) / 4) ((t - 30) % 4) (by omega) c6.2.2
    rw [show 4 * ((t - 30) / 4) + (t - 30) % 4 = t - 30 by omega] at hH
    have r1 : ∀ x : Int32, (x = -1 ∨ ∃ q : Nat, q < nS σ ∧ x = nI q) → va_rf (tI (dec x)) ≠ .ref τ := by
      intro x hx
      refine rf_ne (σ := σ) (fun q eq => ?_)
      rcases hx with rfl | ⟨q', hq', rfl⟩
      · rw [dec_m1] at eq; cases eq
      · rw [dec_nI (by omega)] at eq; cases eq; omega
    refine nr_o (fun v hv => ?_)
    unfold xDesk at hv
    simp only [List.mem_cons, List.not_mem_nil, or_false] at hv
    rcases hv with rfl | rfl | rfl | rfl | rfl | rfl | rfl | rfl | rfl
    · intro e; cases e
    · intro e; cases e
    · intro e; cases e
    · intro e; cases e
    · intro e; cases e
    · exact r1 _ hH.1
    · intro e; cases e
    · exact r1 _ hH.2.1
    · intro e; cases e
  rw [if_neg c6] at he
  by_cases c7 : 100 ≤ t ∧ t < 160 ∧ t - 100 < nS σ
  · rw [if_pos c7] at he
    cases he
    unfold xItem
    by_cases cN : isNumK (σ.1 1 (t - 100)) = true
    · rw [if_pos cN]
      refine nr_o (fun v hv => ?_)
      simp only [List.mem_cons, List.not_mem_nil, or_false] at hv
      rcases hv with rfl | rfl | rfl <;> intro e
      · cases e
      · cases e
      · injection e with e
        have e3 : 200 + (t - 100) = τ := e
        omega
    · rw [if_neg cN]
      by_cases cO : isOneK (σ.1 1 (t - 100)) = true
      · rw [if_pos cO]
        refine nr_o (fun v hv => ?_)
        simp only [List.mem_cons, List.not_mem_nil, or_false] at hv
        rcases hv with rfl | rfl | rfl <;> intro e <;> cases e
      · rw [if_neg cO]
        refine nr_o (fun v hv => ?_)
        simp only [List.mem_cons, List.not_mem_nil, or_false] at hv
        rcases hv with rfl | rfl | rfl <;> intro e
        · cases e
        · cases e
        · injection e with e
          have e3 : 200 + (t - 100) = τ := e
          omega
  rw [if_neg c7] at he
  by_cases c8 : 200 ≤ t ∧ t < 260 ∧ t - 200 < nS σ
  · rw [if_pos c8] at he
    unfold xArr at he
    by_cases cN : isNumK (σ.1 1 (t - 200)) = true
    · rw [if_pos cN] at he
      cases he
      exact nr_l
    · rw [if_neg cN] at he
      by_cases cO : isOneK (σ.1 1 (t - 200)) = true
      · rw [if_pos cO] at he; cases he
      · rw [if_neg cO] at he
        cases he
        refine nr_q (fun j => ?_)
        have hT := thF2 (eq_false_of_ne_true cN) (eq_false_of_ne_true cO)
        by_cases hj : j < 3
        · rw [if_pos hj]
          by_cases hs : j < szS σ (t - 200)
          · rcases cell_or hV.1 hV.2.2.1 c8.2.2 (eq_false_of_ne_true cN) hs with ⟨-, e2⟩ | ⟨q, hq, -, -, e2⟩
            · rw [e2]; intro e; cases e
            · rw [e2]; intro e; injection e with e
              have e3 : 100 + q = τ := e
              omega
          · rw [hV.2.2.2.2.2.2.2.2.2 (t - 200) c8.2.2 (by rw [hT]; decide) j hj (by omega), decL_m1]
            intro e; cases e
        · rw [if_neg hj]; intro e; cases e
  rw [if_neg c8] at he
  cases he
theorem wX_none {σ : Sg} {τ : Nat} {h : Int32} {Q : Nat → Int32} (hτ : 1000 ≤ τ) : wX w00 σ h Q τ = none := by
  unfold wX
  rw [if_pos hτ]
  rfl
theorem wM_first {σ : Sg} {h : Int32} {Q : Nat → Int32} {e : tw_T} : wM (va_up (wX w00 σ h Q) 1000 (some e)) σ = wX (wM w00 σ) σ h Q := by
  rw [wB]
  funext t
  unfold wM
  by_cases c : 1000 ≤ t
  · rw [if_pos c, if_pos c]
  · rw [if_neg c, if_neg c, va_up_ne _ _ (by omega)]
set_option maxHeartbeats 4000000 in
set_option maxRecDepth 100000 in
/-- THE LAW, from its entry -/
theorem whole_start {p : Program} {e : Env} {s : State} {m : MethodId} {below : List Frame} {meth : Method} {c : Code} (l : Launch) {b L : Nat} {xs : Nat → Int32} (hL : L ≤ 3072) (C0 : lw_At p s m meth c b L xs) : W p l e room_1 s m #[Value.ref b] below meth c s.heap [] 0 0 (lw_Z below #[Value.ref b] s) (entryFrame m ([Value.ref b] : List Value).toArray 4) := by
  obtain ⟨hx, hb, hr, hml, hown, hts, hX, hbl, hlocks, hgv⟩ := id C0
  have S : CallFix p m c cL_law 4 s #[Value.ref b] tw_ws RL := ⟨hx, hb, hml, hown, fun w hw => hts w (List.mem_filter.mp hw).1⟩
  obtain ⟨D, hK⟩ := tw_start hts hgv
  have hl := lv_entry ([.ref b]) (n := 4) (Nat.le_of_ble_eq_true rfl)
  rw [lg_entry_eq]
  generalize (lg_sl ([.ref b]) ++ List.replicate (4 - (lg_sl ([.ref b])).length) Slot.unset).toArray = ls at hl ⊢
  have hl : lv_has ls 4 [(0, .ref b)] := hl
  obtain ⟨ad, -⟩ : ∃ ad : Nat → Nat, True := ⟨fun _ => 0, trivial⟩
  have hI : tw_I D (fun q : Nat => s.heap.size ≤ q) ad w00 s.heap s.heap [] := ⟨⟨fun t e h => (by cases h), fun t t' e e' h => (by cases h)⟩, fun t e h => (by cases h), va_S.rf, fun q h => h⟩
  refine tw_new S hK hI iT6 tyX6 tyX6_ok (tw_mem (by decide +kernel) rfl) (tw_mem (by decide +kernel) rfl) (tw_mem (by decide +kernel) rfl) (ci := 5) rfl (fs := [.null, .null, .int 0, .int 0, .int 0, .int 0, .int 0, .int 0, .int 0, .int 0, .int 0]) (fun j hj => by rcases (show j = 0 ∨ j = 1 ∨ j = 2 ∨ j = 3 ∨ j = 4 ∨ j = 5 ∨ j = 6 ∨ j = 7 ∨ j = 8 ∨ j = 9 ∨ j = 10 by omega) with rfl | rfl | rfl | rfl | rfl | rfl | rfl | rfl | rfl | rfl | rfl <;> rfl) (fun _ => rfl) (0) rfl (fun t' e' h => by cases h) (Nat.le_of_ble_eq_true rfl) (Nat.le_of_ble_eq_true rfl) dL_law_0 (fun ad H had hI => ?_)
  refine lv_dup hx hb dL_law_3 rfl ?_
  refine tw_callN (tw_rI (t := 0) (As := []) (rest := [.ref (ad 0)]) S hK hI kL_9 (c_X6_init l D ad _ _ (va_up_self _ _ _) (fun t ht => (va_up_ne _ _ (by omega)).trans rfl)) ⟨Nat.le_of_ble_eq_true rfl, Nat.le_of_ble_eq_true rfl⟩ ⟨Nat.le_of_ble_eq_true rfl, Nat.le_of_ble_eq_true rfl⟩ rfl hl.1 rfl (Nat.le_of_ble_eq_true rfl) dL_law_4) hI (fun ad H locs had hI => ?_)
  refine W_stk (st' := [.ref (ad 0)]) (by rw [had 0 _ (va_up_self _ _ _)]; rfl) ?_
  refine lv_astore_n (lv' := [(1, .ref (ad 0)), (0, .ref b)]) hx hb dL_law_7 rfl hl (by decide) rfl (fun ls hl => ?_)
  refine tw_new S hK hI iT7 tyX7 tyX7_ok (tw_mem (by decide +kernel) rfl) (tw_mem (by decide +kernel) rfl) (tw_mem (by decide +kernel) rfl) (ci := 6) rfl (fs := [.int 0, .null, .null, .null, .null, .null, .null, .null, .null, .null, .null, .null, .null, .null, .null, .int 0, .int 0, .int 0, .int 0, .int 0, .int 0, .null, .null, .null, .null, .int 0, .int 0]) (fun j hj => by rcases (show j = 0 ∨ j = 1 ∨ j = 2 ∨ j = 3 ∨ j = 4 ∨ j = 5 ∨ j = 6 ∨ j = 7 ∨ j = 8 ∨ j = 9 ∨ j = 10 ∨ j = 11 ∨ j = 12 ∨ j = 13 ∨ j = 14 ∨ j = 15 ∨ j = 16 ∨ j = 17 ∨ j = 18 ∨ j = 19 ∨ j = 20 ∨ j = 21 ∨ j = 22 ∨ j = 23 ∨ j = 24 ∨ j = 25 ∨ j = 26 by omega) with rfl | rfl | rfl | rfl | rfl | rfl | rfl | rfl | rfl | rfl | rfl | rfl | rfl | rfl | rfl | rfl | rfl | rfl | rfl | rfl | rfl | rfl | rfl | rfl | rfl | rfl | rfl <;> rfl) (fun _ => rfl) (1000) (wX_none (Nat.le_refl _)) (wX_hi INV_00 (Nat.le_refl _)) (Nat.le_of_ble_eq_true rfl) (Nat.le_of_ble_eq_true rfl) dL_law_8 (fun ad H had hI => ?_)
  have hl : lv_has ls 4 [(1, .ref (ad 0)), (0, .ref b)] := by rw [had 0 (by decide)]; exact hl
  refine lv_dup hx hb dL_law_11 rfl ?_
  refine tw_callN (tw_rI (t := 1000) (As := []) (rest := [.ref (ad 1000)]) S hK hI kL_12 (c_X7_init l D ad _ _ (va_up_self _ _ _) (fun t ht => (va_up_ne _ _ (by omega)).trans (wX_none (by omega))) (fun t ht => cl_up (wX_hi INV_00 (by omega)) (nr_o (wx_27 (k := 0) t)))) ⟨Nat.le_of_ble_eq_true rfl, Nat.le_of_ble_eq_true rfl⟩ ⟨Nat.le_of_ble_eq_true rfl, Nat.le_of_ble_eq_true rfl⟩ rfl hl.1 rfl (Nat.le_of_ble_eq_true rfl) dL_law_12) hI (fun ad H locs had hI => ?_)
  refine W_stk (st' := [.ref (ad 1000)]) (by rw [had 1000 _ (va_up_self _ _ _)]; rfl) ?_
  have hl : lv_has ls 4 [(1, .ref (ad 0)), (0, .ref b)] := by rw [had 0 _ ((va_up_ne _ _ (by decide)).trans wX_0)]; exact hl
  refine lv_astore_n (lv' := [(2, .ref (ad 1000)), (1, .ref (ad 0)), (0, .ref b)]) hx hb dL_law_15 rfl hl (by decide) rfl (fun ls hl => ?_)
  refine lv_iconst (v := 0) hx hb dL_law_16 (by decide) ?_
  refine lv_istore_n (lv' := [(3, .int 0), (2, .ref (ad 1000)), (1, .ref (ad 0)), (0, .ref b)]) hx hb dL_law_17 rfl hl (by decide) rfl (fun ls hl => ?_)
  rw [wM_first] at hI
  refine W.widen (k := 38 + 2 * 0) (n := 846 + 9 * 0) (Nat.le_of_ble_eq_true rfl) (Nat.le_of_ble_eq_true rfl) ?_
  exact law_loop hL C0 hK (L + 1) 0 0 (Nat.zero_le L) (by omega) rfl ad H locs s00 0 (fun _ => 0) ls ⟨INV_00, 0, Nat.le_refl 0, rfl, fun _ => ⟨0, Nat.le_refl 0, rfl⟩⟩ hI (lv_sub hl [3, 2, 1, 0] rfl)

-- ===== YOUR PART ENDS =====
set_option maxHeartbeats 4000000 in
theorem lw_walk (l : Launch) (b : Addr) (xs : List Int32) : MetFree l x (headSpec (Jvm.Cond.code x code maxLocals ret :: tables_1) room_1) (lw_P b xs) (fun _ _ _ _ _ => True) lw_Q := by
  refine MetFree.of_bodyS (code := code) (maxLocals := maxLocals) (ret := ret) (by decide) ?_ ?_
  · intro args s m h hn
    obtain ⟨meth, c, h1, h2, h3, h4, h5, h6, -, -⟩ := Cond.code_spec hn (atoms_spec (ws := Jvm.Cond.code x code maxLocals ret :: tables_1) h _ List.mem_cons_self)
    exact ⟨meth, c, h1, h2, h3, h4, h5, h6⟩
  · intro p e s m args below meth c s₁ B hml0 hP _
    obtain ⟨rfl, hx, hbd, hgv⟩ := hP
    obtain ⟨scr, harrAt, hlist, hof, hsmall⟩ := hx
    obtain ⟨hcb, hkn, -, -⟩ := State.arrayAt?_spec harrAt
    have hown : s.vm.findClass R_law = some m.cls := findClass_of_methodNamed B.named
    have hts0 : ∀ c ∈ (Jvm.Cond.code x code maxLocals ret :: tables_1), c.before #[Value.ref b] s = true := atoms_spec (ws := Jvm.Cond.code x code maxLocals ret :: tables_1) B.pre
    have hts : ∀ w ∈ lw_tbl, w.before #[Value.ref b] s = true := k2_hts_sels lw_privs (fun w hw => hts0 w (List.mem_cons_of_mem _ hw)) lw_privs_ok
    have hml : c.maxLocals = 4 := B.maxLocals_eq (hts0 _ List.mem_cons_self)
    have X₀ : Stand p l e room_1 s m #[Value.ref b] below meth c s₁ [] 0 0 := Stand.of_body B
    have hh0 : s₁.heap = s.heap := by rw [B.state]; rfl
    have hsz : scr.slots.size = xs.length := by rw [← Array.length_toList, hlist, List.length_map]
    have hval : ∀ j : Nat, j < xs.length → scr.slots[j]? = some (.int (xs.getD j 0)) := fun j hj => by
      rw [← Array.getElem?_toList, hlist]
      simp [hj]
    have hbl : b < s.heap.size := (Array.getElem?_eq_some_iff.mp hcb).1
    have hX : va_X b xs.length (fun j => xs.getD j 0) s s.heap := ⟨scr, hcb, hof, hkn, hsz, hval⟩
    have K : W p l e room_1 s m #[Value.ref b] below meth c s₁.heap [] 0 0 (lw_Z below #[Value.ref b] s) (entryFrame m ([Value.ref b] : List Value).toArray 4) := by
      rw [hh0]
      exact whole_start l hbd ⟨B.exec, B.bytes, B.returns, hml, hown, hts, hX, hbl, B.notSynchronized, hgv⟩
    obtain ⟨t, a1, o, b1, b2, b3⟩ := K s₁ rfl X₀
    exact ⟨t, o, a1, b1, b2, b3⟩
theorem lw_pre_spec {args : Array Value} {s : State} (h : (Jvm.Cond.and given_1 narrow_1).before args s = true) (hr : rest_1_c.before args s = true) : ∃ (b : Addr) (xs : List Int32), lw_P b xs args s := by
  have hs := flat_of_before _ h
  have hq := flat_of_before _ hr
  have hc : (Cond.count 1).before args s = true := hs _ (by decide +kernel)
  have harr : (Cond.arrayOf (.arg 0) .int).before args s = true := hs _ (by decide +kernel)
  have hle : (Cond.le (.length (.arg 0)) (.int 3072)).before args s = true := hs _ (by decide +kernel)
  have hlen : (Cond.isInt (.length (.arg 0))).before args s = true := hq _ (by decide +kernel)
  have hall : (Cond.all (.arg 0) (.isInt (.elem (.arg 0) (.index 0)))).before args s = true := hq _ (by decide +kernel)
  obtain ⟨b, xs, hb, hx⟩ := State.ints_of_pre rfl harr hlen hall
  have hsm : xs.length < 2 ^ 31 := hx.choose_spec.2.2.2
  have hev : (Term.length (.arg 0)).eval args s none [] s = some (.int xs.length.toInt32) := hx.length_eval hb
  have hv := Cond.le_ints hev (show (Term.int 3072).eval args s none [] s = some (.int 3072) from rfl)
  have hd : xs.length.toInt32 ≤ 3072 := by
    simpa [Cond.before, Cond.holds, hv] using hle
  have hN : xs.length ≤ 3072 := (Int32.ofNat_le_ofNat hsm (by decide)).mp (show Int32.ofNat xs.length ≤ Int32.ofNat 3072 from hd)
  exact ⟨b, xs, Cond.one_arg hc (show args[0]? = some (.ref b) from hb), hx, hN, h⟩
theorem lw_comes (l : Launch) : Comes l x (Jvm.Cond.code x code maxLocals ret :: tables_1) room_1 (fun tb e args s => Calls_1 tb e args s ∧ rest_1 tb e args s ∧ Pre_1 tb e args s)
    (fun _ _ args s o t => lw_Q args s o t) := by
  intro p e ha hc hk s m args below hf hfit hheap happ hpre
  obtain ⟨b, xs, hP⟩ := lw_pre_spec hpre.2.2 hpre.2.1
  obtain ⟨k, o, h1, h2, h3, hQ⟩ := lw_walk l b xs p e ha hc hk s m args below hf ((Spec.applies_iff_loose hf).mp happ).1 hP trivial
  exact ⟨k, o, h1, h2, h3, hQ⟩
theorem lw_frame {s t : State} {o : Outcome} {args : Array Value} (h : Framed s o t [] 747832 6858752) :
    Framed s o t (fieldLocs frame_1_writes args s ++ arrayLocs frame_1_arrays args s ++ staticLocs frame_1_statics s) 747832 6858752 := h
theorem lw_limb (L : Cond) (hL : ∀ (args : Array Value) (s t : State), L.after args s (.returned (some (.int 1))) t = true) :
    ArmFor flags0 classFile x code maxLocals ret World_1 tables_1 room_1 Calls_1 rest_1 Pre_1
      (fun tb e a s o t => postC L tb e a s o t ∧ Framed s o t (fieldLocs frame_1_writes a s ++ arrayLocs frame_1_arrays a s ++ staticLocs frame_1_statics s) 747832 6858752) := by
  intro l _ _ _ p e ha hc hk s m args below hf hfit hheap happ hpre
  obtain ⟨k, o, h1, h2, h3, rfl, hF⟩ := lw_comes l p e ha hc hk s m args below hf hfit hheap happ hpre
  exact ⟨k, _, h1, h2, h3, hL args s _, lw_frame hF⟩
theorem i_vc : Claimed_1_1 ∧ Claimed_1_2 := ⟨lw_limb limb_1_1 (fun args s t => by simp [limb_1_1, Cond.after, Cond.holds, Cond.value]), lw_limb limb_1_2 (fun args s t => Cond.after_iff.mpr (by
  first | (rw [show limb_1_2 = Cond.eq .result (.int 1) from rfl, Cond.eq_ints (x := 1) (y := 1) rfl rfl]; simp; done) | (simp [limb_1_2, Cond.value, Term.eval]; done)))⟩
