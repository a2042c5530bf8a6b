/-! the reference: split, one turn of hand's loop -/
def begF (F : Nat → Nat → Int32) (t r : Int32) : Nat → Nat → Int32 := fI (fI (fI (fI (fI F 21 (ix (F 25 0)) t) 22 (ix (F 25 0)) r) 23 (ix (F 25 0)) 0) 24 (ix (F 25 0)) (-1)) 25 0 (F 25 0 + 1)
theorem gr_begin {σ : Sg} {F : Nat → Nat → Int32} {t r : Int32} : beginM (gr σ F) t r = gr σ (begF F t r) := by
  unfold beginM
  rw [gr_fI _ _ rfl, gr_fI _ _ rfl, gr_fI _ _ rfl, gr_fI _ _ rfl, gr_fI _ _ rfl]
  rfl
theorem nI_neq {a b : Nat} (h : a < b) (hb : b < 2 ^ 31) : ¬ nI a = nI b := fun e => by
  have := nI_lt h hb
  rw [e] at this
  exact Int32.lt_irrefl this

set_option maxHeartbeats 2000000 in
set_option maxRecDepth 100000 in
theorem lb_X7_split {p : Program} {l : Launch} {e : Env} {s : State} {m : MethodId} {av : Array Value} {below : List Frame} {meth : Method} {c : Code} {H : Heap} {locs : List Loc} {Z : State → Prop} {σ : Sg} {F : Nat → Nat → Int32} {ls : Array Slot} {D : tw_G} {A : Nat → Prop} {ad : Nat → Nat} {b : tw_W} {dp t z i : Nat} (S : CallFix p m c cX7_split 4 s av tw_ws RX7) (hK : tw_K D s) (hI : tw_I D A ad (wM b (gr σ F)) s.heap H locs) (hl : lv_has ls 4 [(3, .int (nI i)), (2, .int (nI t)), (0, .ref (ad 1000)), (1, .int (nI dp))]) (h6 : t < 60) (hz3 : z ≤ 3) (ez : σ.1 2 t = nI z) (hi : i < z) (hc : σ.2 (3 * t + i) = -1) (kk : ∀ ls1 : Array Slot, lv_has ls1 4 [(3, .int (nI (i + 1))), (2, .int (nI t)), (0, .ref (ad 1000)), (1, .int (nI dp))] → W p l e (tw_R 3 0 0) s m av below meth c H locs 0 0 Z (F0 m 14 ls1 [])) : W p l e (tw_R 3 0 0) s m av below meth c H locs 0 0 Z (F0 m 14 ls []) := by
  have hx := S.1
  have hb := S.2.1
  refine lv_iload_n hx hb dX7_split_14 rfl (lv_at hl 0 rfl) ?_
  refine lv_aload_n hx hb dX7_split_15 rfl (lv_at hl 2 rfl) ?_
  refine gm_13 S hK hI dX7_split_16 ?_
  refine lv_iload_n hx hb dX7_split_19 rfl (lv_at hl 1 rfl) ?_
  refine ln_2 (j := t) S hK hI (by omega) dX7_split_20 ?_
  refine lv_eqi (v := (nI z)) (ez) ?_
  refine lv_icmp_ge (tgt := 47) hx hb dX7_split_21 (by decide) (fun c1 => ?_) (fun c1 => ?_)
  · exact absurd c1 (nI_ge hi (by omega))
  · refine lv_aload_n hx hb dX7_split_24 rfl (lv_at hl 2 rfl) ?_
    refine gm_19 S hK hI dX7_split_25 ?_
    refine lv_iconst (v := 3) hx hb dX7_split_28 (by decide) ?_
    refine lv_iload_n hx hb dX7_split_29 rfl (lv_at hl 1 rfl) ?_
    refine lv_imul hx hb dX7_split_30 ?_
    refine lv_eqi (v := (nI (3 * t))) (nM (a := 3) (b := t) (c := 3 * t) (by omega)) ?_
    refine lv_iload_n hx hb dX7_split_31 rfl (lv_at hl 0 rfl) ?_
    refine lv_iadd hx hb dX7_split_32 ?_
    refine lv_eqi (v := (nI (3 * t + i))) (nA (a := 3 * t) (b := i) (c := 3 * t + i) (by omega)) ?_
    refine ln_4 (j := 3 * t + i) S hK hI (by omega) dX7_split_33 ?_
    refine lv_eql (v := (-1)) (hc) ?_
    refine lv_ldc2 (own := RX7) (v := (-1)) hx hb S.2.2.2.1 (S.2.2.2.2 _ (tw_mem (by decide +kernel) rfl)) dX7_split_34 ?_
    refine W.lcmp hx hb dX7_split_37 ?_
    refine lv_eqi (v := 0) (by decide) ?_
    refine lv_if_ne (tgt := 47) hx hb dX7_split_38 (by decide) (fun c2 => ?_) (fun c2 => ?_)
    · exact absurd c2 (by decide)
    · refine lv_iinc (v := nI (i + 1)) (lv' := [(3, .int (nI (i + 1))), (2, .int (nI t)), (0, .ref (ad 1000)), (1, .int (nI dp))]) hx hb dX7_split_41 hl (k := 0) rfl (nA (a := i) (b := 1) (c := i + 1) (by omega)) (by decide) rfl (fun ls hl => ?_)
      refine lv_goto (tgt := 14) hx hb dX7_split_44 (by decide) ?_
      exact kk _ (lv_sub hl [0, 1, 2, 3] rfl)

theorem ll_X7_split {p : Program} {l : Launch} {e : Env} {s : State} {m : MethodId} {av : Array Value} {below : List Frame} {meth : Method} {c : Code} {H : Heap} {locs : List Loc} {Z : State → Prop} {σ : Sg} {F : Nat → Nat → Int32} {D : tw_G} {A : Nat → Prop} {ad : Nat → Nat} {b : tw_W} {dp t z : Nat} (S : CallFix p m c cX7_split 4 s av tw_ws RX7) (hK : tw_K D s) (hI : tw_I D A ad (wM b (gr σ F)) s.heap H locs) (h6 : t < 60) (hz3 : z ≤ 3) (ez : σ.1 2 t = nI z) : ∀ (y i : Nat) (ls : Array Slot), i + y ≤ z → (∀ i' : Nat, i ≤ i' → i' < i + y → σ.2 (3 * t + i') = -1) → lv_has ls 4 [(3, .int (nI i)), (2, .int (nI t)), (0, .ref (ad 1000)), (1, .int (nI dp))] → (∀ ls1 : Array Slot, lv_has ls1 4 [(3, .int (nI (i + y))), (2, .int (nI t)), (0, .ref (ad 1000)), (1, .int (nI dp))] → W p l e (tw_R 3 0 0) s m av below meth c H locs 0 0 Z (F0 m 14 ls1 [])) → W p l e (tw_R 3 0 0) s m av below meth c H locs 0 0 Z (F0 m 14 ls [])
  | 0, i, ls, _, _, hl, kk => kk ls hl
  | y + 1, i, ls, e, hc, hl, kk => lb_X7_split S hK hI hl h6 hz3 ez (by omega) (hc i (Nat.le_refl _) (by omega)) (fun ls1 hl1 => ll_X7_split S hK hI h6 hz3 ez y (i + 1) ls1 (by omega) (fun i' h1 h2 => hc i' (by omega) (by omega)) hl1 (fun ls2 hl2 => kk ls2 (by rw [show i + (y + 1) = i + 1 + y by omega]; exact hl2)))
set_option maxHeartbeats 2000000 in
set_option maxRecDepth 100000 in
theorem c_X7_split_end (l : Launch) (D : tw_G) (ad : Nat → Nat) (b : tw_W) (σ : Sg) (F : Nat → Nat → Int32) (sz : Nat) (dp r a t z i y : Nat) (hdp : dp < 8) (h6 : t < 60) (hz3 : z ≤ 3) (ez : σ.1 2 t = nI z) (hd : F 25 0 = nI (dp + 1)) (hw : F 21 dp = nI t) (hm : F 22 dp = nI r) (ha : F 23 dp = nI a) (hp : F 24 dp = nI i) (ha4 : a < 4) (ey : i + y = z) (hnil : ∀ i' : Nat, i ≤ i' → i' < i + y → σ.2 (3 * t + i') = -1) : Met l yX7_split (tw_w yX7_split cX7_split 4 none) (tw_R 3 0 0) (tw_Pc D ad (wM b (gr σ F)) sz [.ref (ad 1000), .int (nI dp)]) (tw_Q D ad (wM b (gr (σ) (fI (fI F 24 dp (-1)) 23 dp (nI (a + 1))))) (tw_A ad (wM b (gr σ F)) sz) none) 0 0 (tw_A ad (wM b (gr σ F)) sz) := by
  refine tw_met (by decide) rfl (by simp [lg_sl, Value.category]) (fun p e s m below meth c ls S hK hr hlocks hnm hsz hI hl => ?_)
  have hx := S.1
  have hb := S.2.1
  have hl : lv_has ls 4 [(0, .ref (ad 1000)), (1, .int (nI dp))] := hl
  refine lv_aload_n hx hb dX7_split_0 rfl (lv_at hl 0 rfl) ?_
  refine gm_58 S hK hI dX7_split_1 ?_
  refine lv_iload_n hx hb dX7_split_4 rfl (lv_at hl 1 rfl) ?_
  refine ln_21 (j := dp) S hK hI (by omega) dX7_split_5 ?_
  refine lv_eqi (v := (nI t)) (hw) ?_
  refine lv_istore_n (lv' := [(2, .int (nI t)), (0, .ref (ad 1000)), (1, .int (nI dp))]) hx hb dX7_split_6 rfl hl (by decide) rfl (fun ls hl => ?_)
  refine lv_aload_n hx hb dX7_split_7 rfl (lv_at hl 1 rfl) ?_
  refine gm_67 S hK hI dX7_split_8 ?_
  refine lv_iload_n hx hb dX7_split_11 rfl (lv_at hl 2 rfl) ?_
  refine ln_24 (j := dp) S hK hI (by omega) dX7_split_12 ?_
  refine lv_eqi (v := (nI i)) (hp) ?_
  refine lv_istore_n (lv' := [(3, .int (nI i)), (2, .int (nI t)), (0, .ref (ad 1000)), (1, .int (nI dp))]) hx hb dX7_split_13 rfl hl (by decide) rfl (fun ls hl => ?_)
  refine ll_X7_split S hK hI h6 hz3 ez y i _ (by omega) hnil (lv_sub hl [0, 1, 2, 3] rfl) (fun ls hl => ?_)
  rw [ey] at hl
  refine lv_iload_n hx hb dX7_split_14 rfl (lv_at hl 0 rfl) ?_
  refine lv_aload_n hx hb dX7_split_15 rfl (lv_at hl 2 rfl) ?_
  refine gm_13 S hK hI dX7_split_16 ?_
  refine lv_iload_n hx hb dX7_split_19 rfl (lv_at hl 1 rfl) ?_
  refine ln_2 (j := t) S hK hI (by omega) dX7_split_20 ?_
  refine lv_eqi (v := (nI z)) (ez) ?_
  refine lv_icmp_ge (tgt := 47) hx hb dX7_split_21 (by decide) (fun c1 => ?_) (fun c1 => ?_)
  · refine lv_iload_n hx hb dX7_split_47 rfl (lv_at hl 0 rfl) ?_
    refine lv_aload_n hx hb dX7_split_48 rfl (lv_at hl 2 rfl) ?_
    refine gm_13 S hK hI dX7_split_49 ?_
    refine lv_iload_n hx hb dX7_split_52 rfl (lv_at hl 1 rfl) ?_
    refine ln_2 (j := t) S hK hI (by omega) dX7_split_53 ?_
    refine lv_eqi (v := (nI z)) (ez) ?_
    refine lv_icmp_ge (tgt := 92) hx hb dX7_split_54 (by decide) (fun c2 => ?_) (fun c2 => ?_)
    · refine lv_aload_n hx hb dX7_split_92 rfl (lv_at hl 2 rfl) ?_
      refine gm_67 S hK hI dX7_split_93 ?_
      refine lv_iload_n hx hb dX7_split_96 rfl (lv_at hl 3 rfl) ?_
      refine lv_iconst (v := (-1)) hx hb dX7_split_97 (by decide) ?_
      refine sn_24 (j := dp) S hK hI (by omega) dX7_split_98 (fun H locs hI => ?_)
      refine lv_aload_n hx hb dX7_split_99 rfl (lv_at hl 2 rfl) ?_
      refine gm_64 S hK hI dX7_split_100 ?_
      refine lv_iload_n hx hb dX7_split_103 rfl (lv_at hl 3 rfl) ?_
      refine lv_dup2_11 hx hb dX7_split_104 rfl rfl ?_
      refine ln_23 (j := dp) S hK hI (by omega) dX7_split_105 ?_
      refine lv_eqi (v := (nI a)) (ha) ?_
      refine lv_iconst (v := 1) hx hb dX7_split_106 (by decide) ?_
      refine lv_iadd hx hb dX7_split_107 ?_
      refine lv_eqi (v := (nI (a + 1))) (nA (a := a) (b := 1) (c := a + 1) (by omega)) ?_
      refine sn_23 (j := dp) S hK hI (by omega) dX7_split_108 (fun H locs hI => ?_)
      rw [gr_fI _ _ rfl, gr_fI _ _ rfl] at hI
      exact tw_vret S hr hlocks hI dX7_split_109
    · exact absurd (nI_le (Nat.le_refl z) (by omega)) c2
  · exact absurd (nI_le (Nat.le_refl z) (by omega)) c1

set_option maxHeartbeats 2000000 in
set_option maxRecDepth 100000 in
theorem c_X7_split_q (l : Launch) (D : tw_G) (ad : Nat → Nat) (b : tw_W) (σ : Sg) (F : Nat → Nat → Int32) (sz : Nat) (dp r a t z i y q : Nat) (hdp : dp < 8) (h6 : t < 60) (hz3 : z ≤ 3) (ez : σ.1 2 t = nI z) (hd : F 25 0 = nI (dp + 1)) (hw : F 21 dp = nI t) (hm : F 22 dp = nI r) (ha : F 23 dp = nI a) (hp : F 24 dp = nI i) (hr8 : r < 8) (hjz : i + y < z) (hq6 : q < 60) (hnil : ∀ i' : Nat, i ≤ i' → i' < i + y → σ.2 (3 * t + i') = -1) (hc : σ.2 (3 * t + i + y) = lN q) : Met l yX7_split (tw_w yX7_split cX7_split 4 none) (tw_R 3 0 0) (tw_Pc D ad (wM b (gr σ F)) sz [.ref (ad 1000), .int (nI dp)]) (tw_Q D ad (wM b (gr (σ) (begF (fI F 24 dp (nI (i + y + 1))) (nI q) (nI (r + 1))))) (tw_A ad (wM b (gr σ F)) sz) none) 0 0 (tw_A ad (wM b (gr σ F)) sz) := by
  refine tw_met (by decide) rfl (by simp [lg_sl, Value.category]) (fun p e s m below meth c ls S hK hr hlocks hnm hsz hI hl => ?_)
  have hx := S.1
  have hb := S.2.1
  have hl : lv_has ls 4 [(0, .ref (ad 1000)), (1, .int (nI dp))] := hl
  refine lv_aload_n hx hb dX7_split_0 rfl (lv_at hl 0 rfl) ?_
  refine gm_58 S hK hI dX7_split_1 ?_
  refine lv_iload_n hx hb dX7_split_4 rfl (lv_at hl 1 rfl) ?_
  refine ln_21 (j := dp) S hK hI (by omega) dX7_split_5 ?_
  refine lv_eqi (v := (nI t)) (hw) ?_
  refine lv_istore_n (lv' := [(2, .int (nI t)), (0, .ref (ad 1000)), (1, .int (nI dp))]) hx hb dX7_split_6 rfl hl (by decide) rfl (fun ls hl => ?_)
  refine lv_aload_n hx hb dX7_split_7 rfl (lv_at hl 1 rfl) ?_
  refine gm_67 S hK hI dX7_split_8 ?_
  refine lv_iload_n hx hb dX7_split_11 rfl (lv_at hl 2 rfl) ?_
  refine ln_24 (j := dp) S hK hI (by omega) dX7_split_12 ?_
  refine lv_eqi (v := (nI i)) (hp) ?_
  refine lv_istore_n (lv' := [(3, .int (nI i)), (2, .int (nI t)), (0, .ref (ad 1000)), (1, .int (nI dp))]) hx hb dX7_split_13 rfl hl (by decide) rfl (fun ls hl => ?_)
  refine ll_X7_split S hK hI h6 hz3 ez y i _ (by omega) hnil (lv_sub hl [0, 1, 2, 3] rfl) (fun ls hl => ?_)
  refine lv_iload_n hx hb dX7_split_14 rfl (lv_at hl 0 rfl) ?_
  refine lv_aload_n hx hb dX7_split_15 rfl (lv_at hl 2 rfl) ?_
  refine gm_13 S hK hI dX7_split_16 ?_
  refine lv_iload_n hx hb dX7_split_19 rfl (lv_at hl 1 rfl) ?_
  refine ln_2 (j := t) S hK hI (by omega) dX7_split_20 ?_
  refine lv_eqi (v := (nI z)) (ez) ?_
  refine lv_icmp_ge (tgt := 47) hx hb dX7_split_21 (by decide) (fun c1 => ?_) (fun c1 => ?_)
  · exact absurd c1 (nI_ge (a := i + y) (b := z) hjz (by omega))
  · refine lv_aload_n hx hb dX7_split_24 rfl (lv_at hl 2 rfl) ?_
    refine gm_19 S hK hI dX7_split_25 ?_
    refine lv_iconst (v := 3) hx hb dX7_split_28 (by decide) ?_
    refine lv_iload_n hx hb dX7_split_29 rfl (lv_at hl 1 rfl) ?_
    refine lv_imul hx hb dX7_split_30 ?_
    refine lv_eqi (v := (nI (3 * t))) (nM (a := 3) (b := t) (c := 3 * t) (by omega)) ?_
    refine lv_iload_n hx hb dX7_split_31 rfl (lv_at hl 0 rfl) ?_
    refine lv_iadd hx hb dX7_split_32 ?_
    refine lv_eqi (v := (nI (3 * t + i + y))) (nA (a := 3 * t) (b := i + y) (c := 3 * t + i + y) (by omega)) ?_
    refine ln_4 (j := 3 * t + i + y) S hK hI (by omega) dX7_split_33 ?_
    refine lv_eql (v := (lN q)) (hc) ?_
    refine lv_ldc2 (own := RX7) (v := (-1)) hx hb S.2.2.2.1 (S.2.2.2.2 _ (tw_mem (by decide +kernel) rfl)) dX7_split_34 ?_
    refine W.lcmp hx hb dX7_split_37 ?_
    refine lv_topi (fun x2 e2 => ?_)
    refine lv_if_ne (tgt := 47) hx hb dX7_split_38 (by decide) (fun c3 => ?_) (fun c3 => ?_)
    · refine lv_iload_n hx hb dX7_split_47 rfl (lv_at hl 0 rfl) ?_
      refine lv_aload_n hx hb dX7_split_48 rfl (lv_at hl 2 rfl) ?_
      refine gm_13 S hK hI dX7_split_49 ?_
      refine lv_iload_n hx hb dX7_split_52 rfl (lv_at hl 1 rfl) ?_
      refine ln_2 (j := t) S hK hI (by omega) dX7_split_53 ?_
      refine lv_eqi (v := (nI z)) (ez) ?_
      refine lv_icmp_ge (tgt := 92) hx hb dX7_split_54 (by decide) (fun c4 => ?_) (fun c4 => ?_)
      · exact absurd c4 (nI_ge (a := i + y) (b := z) hjz (by omega))
      · refine lv_aload_n hx hb dX7_split_57 rfl (lv_at hl 2 rfl) ?_
        refine gm_67 S hK hI dX7_split_58 ?_
        refine lv_iload_n hx hb dX7_split_61 rfl (lv_at hl 3 rfl) ?_
        refine lv_iload_n hx hb dX7_split_62 rfl (lv_at hl 0 rfl) ?_
        refine lv_iconst (v := 1) hx hb dX7_split_63 (by decide) ?_
        refine lv_iadd hx hb dX7_split_64 ?_
        refine lv_eqi (v := (nI (i + y + 1))) (nA (a := i + y) (b := 1) (c := i + y + 1) (by omega)) ?_
        refine sn_24 (j := dp) S hK hI (by omega) dX7_split_65 (fun H locs hI => ?_)
        refine lv_aload_n hx hb dX7_split_66 rfl (lv_at hl 2 rfl) ?_
        refine lv_aload_n hx hb dX7_split_67 rfl (lv_at hl 2 rfl) ?_
        refine gm_19 S hK hI dX7_split_68 ?_
        refine lv_iconst (v := 3) hx hb dX7_split_71 (by decide) ?_
        refine lv_iload_n hx hb dX7_split_72 rfl (lv_at hl 1 rfl) ?_
        refine lv_imul hx hb dX7_split_73 ?_
        refine lv_eqi (v := (nI (3 * t))) (nM (a := 3) (b := t) (c := 3 * t) (by omega)) ?_
        refine lv_iload_n hx hb dX7_split_74 rfl (lv_at hl 0 rfl) ?_
        refine lv_iadd hx hb dX7_split_75 ?_
        refine lv_eqi (v := (nI (3 * t + i + y))) (nA (a := 3 * t) (b := i + y) (c := 3 * t + i + y) (by omega)) ?_
        refine ln_4 (j := 3 * t + i + y) S hK hI (by omega) dX7_split_76 ?_
        refine lv_eql (v := (lN q)) (hc) ?_
        refine lv_l2i hx hb dX7_split_77 rfl ?_
        refine lv_eqi (v := nI q) lN_32 ?_
        refine lv_aload_n hx hb dX7_split_78 rfl (lv_at hl 2 rfl) ?_
        refine gm_61 S hK hI dX7_split_79 ?_
        refine lv_iload_n hx hb dX7_split_82 rfl (lv_at hl 3 rfl) ?_
        refine ln_22 (j := dp) S hK hI (by omega) dX7_split_83 ?_
        refine lv_eqi (v := (nI r)) (hm) ?_
        refine lv_iconst (v := 1) hx hb dX7_split_84 (by decide) ?_
        refine lv_iadd hx hb dX7_split_85 ?_
        refine lv_eqi (v := (nI (r + 1))) (nA (a := r) (b := 1) (c := r + 1) (by omega)) ?_
        refine tw_callv (tw_rV (As := [.int (nI q), .int (nI (r + 1))]) (rest := []) S hK hI kX7_148 (c_X7_begin l D ad _ _ _ _ _ (by show vp_in (F 25 0) 9; rw [hd]; exact vp_in_nI (by omega) (by decide))) (t := 1000) (fs := mRoot _) rfl rfl rfl ⟨Nat.le_of_ble_eq_true rfl, Nat.le_of_ble_eq_true rfl⟩ ⟨Nat.le_of_ble_eq_true rfl, Nat.le_of_ble_eq_true rfl⟩ rfl hl.1 rfl (Nat.le_of_ble_eq_true rfl) dX7_split_86) hI (fun H locs hI => ?_)
        refine lv_goto (tgt := 109) hx hb dX7_split_89 (by decide) ?_
        subst e2
        rw [gr_fI _ _ rfl, gr_begin] at hI
        exact tw_vret S hr hlocks hI dX7_split_109
    · exact absurd (by subst_vars; exact c3) (lN_cmp (by omega : q < 2 ^ 31))

set_option maxHeartbeats 2000000 in
set_option maxRecDepth 100000 in
theorem hb_split {p : Program} {l : Launch} {e : Env} {s : State} {m : MethodId} {av : Array Value} {below : List Frame} {meth : Method} {c : Code} {H : Heap} {locs : List Loc} {Z : State → Prop} {σ : Sg} {F : Nat → Nat → Int32} {ls : Array Slot} {D : tw_G} {A : Nat → Prop} {ad : Nat → Nat} {b : tw_W} {τ : Sg} {F1 : Nat → Nat → Int32} {dp i : Nat} (S : CallFix p m c cX7_hand 4 s av tw_ws RX7) (hK : tw_K D s) (hI : tw_I D A ad (wM b (gr σ F)) s.heap H locs) (hl : lv_has ls 4 [(0, .ref (ad 1000))]) (hdp : dp < 8) (hd : F 25 0 = nI (dp + 1)) (hp : F 24 dp = nI i) (hi : i < 2 ^ 31) (hC : ∀ sz : Nat, Met l yX7_split (tw_w yX7_split cX7_split 4 none) (tw_R 3 0 0) (tw_Pc D ad (wM b (gr σ F)) sz [.ref (ad 1000), .int (nI dp)]) (tw_Q D ad (wM b (gr τ F1)) (tw_A ad (wM b (gr σ F)) sz) none) 0 0 (tw_A ad (wM b (gr σ F)) sz)) (kk : ∀ (H1 : Heap) (locs1 : List Loc) (ls1 : Array Slot), tw_I D A ad (wM b (gr τ F1)) s.heap H1 locs1 → lv_has ls1 4 [(0, .ref (ad 1000))] → W p l e (tw_R 7 0 0) s m av below meth c H1 locs1 0 0 Z (F0 m 64 ls1 [])) : W p l e (tw_R 7 0 0) s m av below meth c H locs 0 0 Z (F0 m 64 ls []) := by
  have hx := S.1
  have hb := S.2.1
  refine lv_aload_n hx hb dX7_hand_64 rfl (lv_at hl 0 rfl) ?_
  refine gm_145 S hK hI dX7_hand_65 ?_
  refine lv_eqi (v := (nI (dp + 1))) (hd) ?_
  refine lv_if_le (tgt := 137) hx hb dX7_hand_68 (by decide) (fun c1 => ?_) (fun c1 => ?_)
  · exact absurd c1 (nI_nle (by omega) (by omega))
  · refine lv_aload_n hx hb dX7_hand_71 rfl (lv_at hl 0 rfl) ?_
    refine gm_145 S hK hI dX7_hand_72 ?_
    refine lv_eqi (v := (nI (dp + 1))) (hd) ?_
    refine lv_iconst (v := 1) hx hb dX7_hand_75 (by decide) ?_
    refine lv_isub hx hb dX7_hand_76 ?_
    refine lv_eqi (v := (nI dp)) (nB (a := dp + 1) (b := 1) (c := dp) (by omega) (by omega)) ?_
    refine lv_istore_n (lv' := [(3, .int (nI dp)), (0, .ref (ad 1000))]) hx hb dX7_hand_77 rfl hl (by decide) rfl (fun ls hl => ?_)
    refine lv_aload_n hx hb dX7_hand_78 rfl (lv_at hl 1 rfl) ?_
    refine gm_67 S hK hI dX7_hand_79 ?_
    refine lv_iload_n hx hb dX7_hand_82 rfl (lv_at hl 0 rfl) ?_
    refine ln_24 (j := dp) S hK hI (by omega) dX7_hand_83 ?_
    refine lv_eqi (v := (nI i)) (hp) ?_
    refine lv_iconst (v := (-1)) hx hb dX7_hand_84 (by decide) ?_
    refine lv_icmp_eq (tgt := 96) hx hb dX7_hand_85 (by decide) (fun c2 => ?_) (fun c2 => ?_)
    · exact absurd c2 (nI_m1 hi)
    · refine lv_aload_n hx hb dX7_hand_88 rfl (lv_at hl 1 rfl) ?_
      refine lv_iload_n hx hb dX7_hand_89 rfl (lv_at hl 0 rfl) ?_
      refine tw_callv (tw_rV (As := [.int (nI dp)]) (rest := []) S hK hI kX7_170 (hC _) (t := 1000) (fs := mRoot _) rfl rfl rfl ⟨Nat.le_of_ble_eq_true rfl, Nat.le_of_ble_eq_true rfl⟩ ⟨Nat.le_of_ble_eq_true rfl, Nat.le_of_ble_eq_true rfl⟩ rfl hl.1 rfl (Nat.le_of_ble_eq_true rfl) dX7_hand_90) hI (fun H locs hI => ?_)
      refine lv_goto (tgt := 134) hx hb dX7_hand_93 (by decide) ?_
      refine lv_goto (tgt := 64) hx hb dX7_hand_134 (by decide) ?_
      exact kk _ _ _ hI (lv_sub hl [1] rfl)

set_option maxHeartbeats 2000000 in
set_option maxRecDepth 100000 in
theorem hb_ends {p : Program} {l : Launch} {e : Env} {s : State} {m : MethodId} {av : Array Value} {below : List Frame} {meth : Method} {c : Code} {H : Heap} {locs : List Loc} {Z : State → Prop} {σ : Sg} {F : Nat → Nat → Int32} {ls : Array Slot} {D : tw_G} {A : Nat → Prop} {ad : Nat → Nat} {b : tw_W} {dp r a t : Nat} (S : CallFix p m c cX7_hand 4 s av tw_ws RX7) (hK : tw_K D s) (hI : tw_I D A ad (wM b (gr σ F)) s.heap H locs) (hl : lv_has ls 4 [(0, .ref (ad 1000))]) (hdp : dp < 8) (hd : F 25 0 = nI (dp + 1)) (hp : F 24 dp = -1) (hm : F 22 dp = nI r) (ha : F 23 dp = nI a) (hw : F 21 dp = nI t) (hr8 : r < 8) (h5 : σ.1 5 r = nI a) (kk : ∀ (H1 : Heap) (locs1 : List Loc) (ls1 : Array Slot), tw_I D A ad (wM b (gr σ (endF F (nI t)))) s.heap H1 locs1 → lv_has ls1 4 [(0, .ref (ad 1000))] → W p l e (tw_R 7 0 0) s m av below meth c H1 locs1 0 0 Z (F0 m 64 ls1 [])) : W p l e (tw_R 7 0 0) s m av below meth c H locs 0 0 Z (F0 m 64 ls []) := by
  have hx := S.1
  have hb := S.2.1
  refine lv_aload_n hx hb dX7_hand_64 rfl (lv_at hl 0 rfl) ?_
  refine gm_145 S hK hI dX7_hand_65 ?_
  refine lv_eqi (v := (nI (dp + 1))) (hd) ?_
  refine lv_if_le (tgt := 137) hx hb dX7_hand_68 (by decide) (fun c1 => ?_) (fun c1 => ?_)
  · exact absurd c1 (nI_nle (by omega) (by omega))
  · refine lv_aload_n hx hb dX7_hand_71 rfl (lv_at hl 0 rfl) ?_
    refine gm_145 S hK hI dX7_hand_72 ?_
    refine lv_eqi (v := (nI (dp + 1))) (hd) ?_
    refine lv_iconst (v := 1) hx hb dX7_hand_75 (by decide) ?_
    refine lv_isub hx hb dX7_hand_76 ?_
    refine lv_eqi (v := (nI dp)) (nB (a := dp + 1) (b := 1) (c := dp) (by omega) (by omega)) ?_
    refine lv_istore_n (lv' := [(3, .int (nI dp)), (0, .ref (ad 1000))]) hx hb dX7_hand_77 rfl hl (by decide) rfl (fun ls hl => ?_)
    refine lv_aload_n hx hb dX7_hand_78 rfl (lv_at hl 1 rfl) ?_
    refine gm_67 S hK hI dX7_hand_79 ?_
    refine lv_iload_n hx hb dX7_hand_82 rfl (lv_at hl 0 rfl) ?_
    refine ln_24 (j := dp) S hK hI (by omega) dX7_hand_83 ?_
    refine lv_eqi (v := (-1)) (hp) ?_
    refine lv_iconst (v := (-1)) hx hb dX7_hand_84 (by decide) ?_
    refine lv_icmp_eq (tgt := 96) hx hb dX7_hand_85 (by decide) (fun c2 => ?_) (fun c2 => ?_)
    · refine lv_aload_n hx hb dX7_hand_96 rfl (lv_at hl 1 rfl) ?_
      refine gm_64 S hK hI dX7_hand_97 ?_
      refine lv_iload_n hx hb dX7_hand_100 rfl (lv_at hl 0 rfl) ?_
      refine ln_23 (j := dp) S hK hI (by omega) dX7_hand_101 ?_
      refine lv_eqi (v := (nI a)) (ha) ?_
      refine lv_aload_n hx hb dX7_hand_102 rfl (lv_at hl 1 rfl) ?_
      refine gm_23 S hK hI dX7_hand_103 ?_
      refine lv_aload_n hx hb dX7_hand_106 rfl (lv_at hl 1 rfl) ?_
      refine gm_61 S hK hI dX7_hand_107 ?_
      refine lv_iload_n hx hb dX7_hand_110 rfl (lv_at hl 0 rfl) ?_
      refine ln_22 (j := dp) S hK hI (by omega) dX7_hand_111 ?_
      refine lv_eqi (v := (nI r)) (hm) ?_
      refine ln_5 (j := r) S hK hI (by omega) dX7_hand_112 ?_
      refine lv_eqi (v := (nI a)) (h5) ?_
      refine lv_icmp_ne (tgt := 129) hx hb dX7_hand_113 (by decide) (fun c3 => ?_) (fun c3 => ?_)
      · exact absurd rfl c3
      · refine lv_aload_n hx hb dX7_hand_116 rfl (lv_at hl 1 rfl) ?_
        refine lv_aload_n hx hb dX7_hand_117 rfl (lv_at hl 1 rfl) ?_
        refine gm_58 S hK hI dX7_hand_118 ?_
        refine lv_iload_n hx hb dX7_hand_121 rfl (lv_at hl 0 rfl) ?_
        refine ln_21 (j := dp) S hK hI (by omega) dX7_hand_122 ?_
        refine lv_eqi (v := (nI t)) (hw) ?_
        refine tw_callv (tw_rV (As := [.int (nI t)]) (rest := []) S hK hI kX7_161 (c_X7_ends l D ad _ _ _ _) (t := 1000) (fs := mRoot _) rfl rfl rfl ⟨Nat.le_of_ble_eq_true rfl, Nat.le_of_ble_eq_true rfl⟩ ⟨Nat.le_of_ble_eq_true rfl, Nat.le_of_ble_eq_true rfl⟩ rfl hl.1 rfl (Nat.le_of_ble_eq_true rfl) dX7_hand_123) hI (fun H locs hI => ?_)
        refine lv_goto (tgt := 134) hx hb dX7_hand_126 (by decide) ?_
        refine lv_goto (tgt := 64) hx hb dX7_hand_134 (by decide) ?_
        rw [gr_ends] at hI
        exact kk _ _ _ hI (lv_sub hl [1] rfl)
    · exact absurd c2 (by decide)

set_option maxHeartbeats 2000000 in
set_option maxRecDepth 100000 in
theorem hb_comes {p : Program} {l : Launch} {e : Env} {s : State} {m : MethodId} {av : Array Value} {below : List Frame} {meth : Method} {c : Code} {H : Heap} {locs : List Loc} {Z : State → Prop} {σ : Sg} {F : Nat → Nat → Int32} {ls : Array Slot} {D : tw_G} {A : Nat → Prop} {ad : Nat → Nat} {b : tw_W} {τ : Sg} {F1 : Nat → Nat → Int32} {dp r a n : Nat} (S : CallFix p m c cX7_hand 4 s av tw_ws RX7) (hK : tw_K D s) (hI : tw_I D A ad (wM b (gr σ F)) s.heap H locs) (hl : lv_has ls 4 [(0, .ref (ad 1000))]) (hdp : dp < 8) (hd : F 25 0 = nI (dp + 1)) (hp : F 24 dp = -1) (hm : F 22 dp = nI r) (ha : F 23 dp = nI a) (hr8 : r < 8) (h5 : σ.1 5 r = nI n) (han : a < n) (hn4 : n ≤ 4) (hC : ∀ sz : Nat, Met l yX7_comes (tw_w yX7_comes cX7_comes 3 none) (tw_R 6 0 0) (tw_Pc D ad (wM b (gr σ F)) sz [.ref (ad 1000), .int (nI dp)]) (tw_Q D ad (wM b (gr τ F1)) (tw_A ad (wM b (gr σ F)) sz) none) 0 0 (tw_A ad (wM b (gr σ F)) sz)) (kk : ∀ (H1 : Heap) (locs1 : List Loc) (ls1 : Array Slot), tw_I D A ad (wM b (gr τ F1)) s.heap H1 locs1 → lv_has ls1 4 [(0, .ref (ad 1000))] → W p l e (tw_R 7 0 0) s m av below meth c H1 locs1 0 0 Z (F0 m 64 ls1 [])) : W p l e (tw_R 7 0 0) s m av below meth c H locs 0 0 Z (F0 m 64 ls []) := by
  have hx := S.1
  have hb := S.2.1
  refine lv_aload_n hx hb dX7_hand_64 rfl (lv_at hl 0 rfl) ?_
  refine gm_145 S hK hI dX7_hand_65 ?_
  refine lv_eqi (v := (nI (dp + 1))) (hd) ?_
  refine lv_if_le (tgt := 137) hx hb dX7_hand_68 (by decide) (fun c1 => ?_) (fun c1 => ?_)
  · exact absurd c1 (nI_nle (by omega) (by omega))
  · refine lv_aload_n hx hb dX7_hand_71 rfl (lv_at hl 0 rfl) ?_
    refine gm_145 S hK hI dX7_hand_72 ?_
    refine lv_eqi (v := (nI (dp + 1))) (hd) ?_
    refine lv_iconst (v := 1) hx hb dX7_hand_75 (by decide) ?_
    refine lv_isub hx hb dX7_hand_76 ?_
    refine lv_eqi (v := (nI dp)) (nB (a := dp + 1) (b := 1) (c := dp) (by omega) (by omega)) ?_
    refine lv_istore_n (lv' := [(3, .int (nI dp)), (0, .ref (ad 1000))]) hx hb dX7_hand_77 rfl hl (by decide) rfl (fun ls hl => ?_)
    refine lv_aload_n hx hb dX7_hand_78 rfl (lv_at hl 1 rfl) ?_
    refine gm_67 S hK hI dX7_hand_79 ?_
    refine lv_iload_n hx hb dX7_hand_82 rfl (lv_at hl 0 rfl) ?_
    refine ln_24 (j := dp) S hK hI (by omega) dX7_hand_83 ?_
    refine lv_eqi (v := (-1)) (hp) ?_
    refine lv_iconst (v := (-1)) hx hb dX7_hand_84 (by decide) ?_
    refine lv_icmp_eq (tgt := 96) hx hb dX7_hand_85 (by decide) (fun c2 => ?_) (fun c2 => ?_)
    · refine lv_aload_n hx hb dX7_hand_96 rfl (lv_at hl 1 rfl) ?_
      refine gm_64 S hK hI dX7_hand_97 ?_
      refine lv_iload_n hx hb dX7_hand_100 rfl (lv_at hl 0 rfl) ?_
      refine ln_23 (j := dp) S hK hI (by omega) dX7_hand_101 ?_
      refine lv_eqi (v := (nI a)) (ha) ?_
      refine lv_aload_n hx hb dX7_hand_102 rfl (lv_at hl 1 rfl) ?_
      refine gm_23 S hK hI dX7_hand_103 ?_
      refine lv_aload_n hx hb dX7_hand_106 rfl (lv_at hl 1 rfl) ?_
      refine gm_61 S hK hI dX7_hand_107 ?_
      refine lv_iload_n hx hb dX7_hand_110 rfl (lv_at hl 0 rfl) ?_
      refine ln_22 (j := dp) S hK hI (by omega) dX7_hand_111 ?_
      refine lv_eqi (v := (nI r)) (hm) ?_
      refine ln_5 (j := r) S hK hI (by omega) dX7_hand_112 ?_
      refine lv_eqi (v := (nI n)) (h5) ?_
      refine lv_icmp_ne (tgt := 129) hx hb dX7_hand_113 (by decide) (fun c3 => ?_) (fun c3 => ?_)
      · refine lv_aload_n hx hb dX7_hand_129 rfl (lv_at hl 1 rfl) ?_
        refine lv_iload_n hx hb dX7_hand_130 rfl (lv_at hl 0 rfl) ?_
        refine tw_callv (tw_rV (As := [.int (nI dp)]) (rest := []) S hK hI kX7_173 (hC _) (t := 1000) (fs := mRoot _) rfl rfl rfl ⟨Nat.le_of_ble_eq_true rfl, Nat.le_of_ble_eq_true rfl⟩ ⟨Nat.le_of_ble_eq_true rfl, Nat.le_of_ble_eq_true rfl⟩ rfl hl.1 rfl (Nat.le_of_ble_eq_true rfl) dX7_hand_131) hI (fun H locs hI => ?_)
        refine lv_goto (tgt := 64) hx hb dX7_hand_134 (by decide) ?_
        exact kk _ _ _ hI (lv_sub hl [1] rfl)
      · exact absurd c3 (nI_neq han (by omega))
    · exact absurd c2 (by decide)
