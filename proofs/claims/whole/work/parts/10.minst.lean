/-! the reference: methods without loops, over its world -/
abbrev acc (σ : Sg) : Sg := sI σ 15 0 0
def okM (σ : Sg) : Prop := (∃ n : Nat, n ≤ 60 ∧ σ.1 0 0 = nI n) ∧ (∀ k : Nat, k < 60 → ∃ z : Nat, z ≤ 3 ∧ σ.1 2 k = nI z) ∧ (∀ r : Nat, r < 8 → ∃ z : Nat, z ≤ 4 ∧ σ.1 5 r = nI z)
theorem okM_acc {σ : Sg} (h : okM σ) : okM (acc σ) := h
def isItemM (σ : Sg) (t : Int32) : Int32 := isInF t 0 (σ.1 0 0 - 1)
theorem isItemM_b (σ : Sg) (t : Int32) : narrow .boolean (.int (isItemM σ t)) = .int (isItemM σ t) := isInF_b _ _ _
theorem isInF_ne {v a b : Int32} (h : ¬ isInF v a b = 0) : ¬ v < a ∧ ¬ b < v := by
  unfold isInF at h
  by_cases h1 : v < a
  · simp [h1] at h
  · by_cases h2 : b < v
    · simp [h1, h2] at h
    · exact ⟨h1, h2⟩
theorem in_of_isIn {v : Int32} {n N : Nat} (h : ¬ isInF v 0 (nI n - 1) = 0) (hn : n ≤ N) (hN : N < 2 ^ 30) : vp_in v N := by
  obtain ⟨h1, h2⟩ := isInF_ne h
  rw [vp_in_iff]
  rw [Int32.lt_iff_toInt_lt, Int32.toInt_zero] at h1
  rw [Int32.lt_iff_toInt_lt] at h2
  have e : (nI n - 1 : Int32).toInt = (n : Int) - 1 := pk_sub_toInt (a := n) (b := 1) (by omega) (by decide)
  rw [e] at h2
  omega
theorem isItem_in {σ : Sg} {t : Int32} (h : okM σ) (c : ¬ isItemM σ t = 0) : vp_in t 60 := by
  obtain ⟨n, hn, e⟩ := h.1
  unfold isItemM at c
  rw [e] at c
  exact in_of_isIn c hn (by decide)
theorem isRoom_in {r : Int32} (c : ¬ isRoomF r = 0) : vp_in r 8 := by
  unfold isRoomF at c
  exact in_of_isIn (n := 8) (N := 8) c (Nat.le_refl _) (by decide)
theorem vp_ix {i : Int32} {n : Nat} (h : vp_in i n) : ix i < n := Nat.not_le.mp fun q => h (Or.inr q)
theorem vp_nI {i : Int32} {n : Nat} (h : vp_in i n) (hn : n < 2 ^ 31) : i = nI (ix i) := by
  obtain ⟨j, hj, rfl⟩ := vp_in_of h hn
  rw [show ix (nI j) = j from nI_clamp (by omega)]
theorem bnd_lin {t i : Int32} {a b m : Nat} (ht : vp_in t a) (hi : vp_in i b) (hm : m < 1000) (ha : a < 1000) (hb : b < 1000) : vp_in (nI m * t + i) (m * a - m + b) ∧ ix (nI m * t + i) = m * ix t + ix i := by
  obtain ⟨j, hj, rfl⟩ := vp_in_of ht (by omega)
  obtain ⟨k, hk, rfl⟩ := vp_in_of hi (by omega)
  have e1 : ix (nI j) = j := nI_clamp (by omega)
  have e2 : ix (nI k) = k := nI_clamp (by omega)
  have h1 : m * j ≤ m * (a - 1) := Nat.mul_le_mul_left _ (by omega)
  have h2 : m * (a - 1) = m * a - m := by rw [Nat.mul_sub, Nat.mul_one]
  have h3 : m * a ≤ 1000 * 1000 := Nat.mul_le_mul (by omega) (by omega)
  rw [pk_mul, nI_add, e1, e2]
  refine ⟨vp_in_nI (by omega) (by omega), ?_⟩
  exact nI_clamp (by omega)
theorem bnd3 {t i : Int32} (ht : vp_in t 60) (hi : vp_in i 3) : vp_in (3 * t + i) 180 := (bnd_lin (m := 3) ht hi (by decide) (by decide) (by decide)).1
theorem ix3 {t i : Int32} (ht : vp_in t 60) (hi : vp_in i 3) : ix (3 * t + i) = 3 * ix t + ix i := (bnd_lin (m := 3) ht hi (by decide) (by decide) (by decide)).2
theorem bnd4 {r d : Int32} (hr : vp_in r 8) (hd : vp_in d 4) : vp_in (4 * r + d) 32 := (bnd_lin (m := 4) hr hd (by decide) (by decide) (by decide)).1
theorem ix4 {r d : Int32} (hr : vp_in r 8) (hd : vp_in d 4) : ix (4 * r + d) = 4 * ix r + ix d := (bnd_lin (m := 4) hr hd (by decide) (by decide) (by decide)).2
def refuseM (σ : Sg) (y : Int32) : Sg := sI (sI (sI (sI σ 15 0 y) 16 0 (σ.1 16 0 + if y = -4 then 1 else 0)) 17 0 (σ.1 17 0 + if y = -5 then 1 else 0)) 18 0 (σ.1 18 0 + if y = -6 then 1 else 0)
def wrongM (σ : Sg) (t i q : Int32) : Int32 := if q = 0 then -4 else if isInF i 0 (σ.1 2 (ix t) - 1) = 0 then -5 else 0
theorem wrong_in {σ : Sg} {t i q : Int32} (h : okM σ) (ht : vp_in t 60) (c : wrongM σ t i q = 0) : vp_in i 3 := by
  obtain ⟨z, hz, e⟩ := h.2.1 (ix t) (vp_ix ht)
  unfold wrongM at c
  by_cases h1 : q = 0
  · simp [h1] at c
  · rw [if_neg h1] at c
    by_cases h2 : isInF i 0 (σ.1 2 (ix t) - 1) = 0
    · simp [h2] at c
    · rw [e] at h2
      exact in_of_isIn h2 hz (by decide)
def putM (σ : Sg) (t i v : Int32) : Int32 × Sg := if isItemM (acc σ) t = 0 then (-2, refuseM (acc σ) (-2)) else if wrongM (acc σ) t i (isNumF ((acc σ).1 1 (ix t))) = 0 then (1, sC (acc σ) (ix (3 * t + i)) (keptF ((acc σ).1 1 (ix t)) v.toInt64)) else (wrongM (acc σ) t i (isNumF ((acc σ).1 1 (ix t))), refuseM (acc σ) (wrongM (acc σ) t i (isNumF ((acc σ).1 1 (ix t)))))
def whyG (σ : Sg) (t i : Int32) : Int32 := if isItemM σ t = 0 then -2 else wrongM σ t i (isNumF (σ.1 1 (ix t)))
def getV (v : Int64) : Int32 := if lg_cmp v 2147483647 ≤ 0 then v.toInt32 else 2147483647
def getM (σ : Sg) (t i : Int32) : Int32 × Sg := if whyG (acc σ) t i = 0 then (getV ((acc σ).2 (ix (3 * t + i))), acc σ) else (0, refuseM (acc σ) (whyG (acc σ) t i))
def whyA (σ : Sg) (t i : Int32) : Int32 := if isItemM σ t = 0 then -2 else wrongM σ t i (isThF (σ.1 1 (ix t)))
def atM (σ : Sg) (t i : Int32) : Int32 × Sg := if whyA (acc σ) t i = 0 then (((acc σ).2 (ix (3 * t + i))).toInt32, acc σ) else (whyA (acc σ) t i, refuseM (acc σ) (whyA (acc σ) t i))
def isM (σ : Sg) (t f : Int32) : Int32 × Sg := if isItemM (acc σ) t = 0 then (-2, refuseM (acc σ) (-2)) else if isInF f 0 13 = 0 then (-2, refuseM (acc σ) (-2)) else if goesF ((acc σ).1 1 (ix t)) f = 0 then (0, acc σ) else (1, acc σ)
def whyS (σ : Sg) (t : Int32) : Int32 := if isItemM σ t = 0 then -2 else if isOneF (σ.1 1 (ix t)) = 0 then -4 else 0
def stampsM (σ : Sg) (t : Int32) : Int32 × Sg := if whyS (acc σ) t = 0 then ((acc σ).1 3 (ix t), acc σ) else (0, refuseM (acc σ) (whyS (acc σ) t))
def layOK (σ : Sg) (t x : Int32) : Int32 := if isThF (σ.1 1 (ix t)) = 0 then 0 else if x = -1 then 1 else if goesF (σ.1 1 (ix x)) (wantedF (σ.1 1 (ix t))) = 0 then 0 else 1
def layM2 (σ : Sg) (t i x : Int32) : Int32 × Sg := if wrongM σ t i (layOK σ t x) = 0 then (if x = -1 then (1, sC σ (ix (3 * t + i)) x.toInt64) else if goesF (σ.1 1 (ix x)) (holdsF (σ.1 1 (ix t))) = 0 then (-6, refuseM σ (-6)) else (1, sC σ (ix (3 * t + i)) x.toInt64)) else (wrongM σ t i (layOK σ t x), refuseM σ (wrongM σ t i (layOK σ t x)))
def layM (σ : Sg) (t i x : Int32) : Int32 × Sg := if isItemM (acc σ) t = 0 then (-2, refuseM (acc σ) (-2)) else if x = -1 then layM2 (acc σ) t i x else if isItemM (acc σ) x = 0 then (-2, refuseM (acc σ) (-2)) else layM2 (acc σ) t i x
def settleM (σ : Sg) (d f a q : Int32) : Sg := sI (sI (sI σ 6 (ix d) f) 7 (ix d) a) 8 (ix d) q
def desk3 (σ : Sg) (r d f a q : Int32) : Sg := sI (sI (sI (sI (sI (settleM σ d f a q) 9 (ix d) 0) 10 (ix d) (-1)) 11 (ix d) 0) 12 (ix d) 0) 13 (ix d) (-1)
def desk4 (σ : Sg) (r d f a q : Int32) : Sg := sI (desk3 σ r d f a q) 5 (ix r) (σ.1 5 (ix r) + 1)
def deskM (σ : Sg) (r f a q : Int32) : Int32 × Sg := if isRoomF r = 0 then (-2, refuseM (acc σ) (-2)) else if isInF f 0 13 = 0 then (-2, refuseM (acc σ) (-2)) else if isInF a 0 4 = 0 then (-2, refuseM (acc σ) (-2)) else if (acc σ).1 5 (ix r) = 4 then (-3, refuseM (acc σ) (-3)) else ((desk4 (acc σ) r (4 * r + (acc σ).1 5 (ix r)) f a q).1 5 (ix r) - 1, desk4 (acc σ) r (4 * r + (acc σ).1 5 (ix r)) f a q)
def changeM (σ : Sg) (r d f a q : Int32) : Int32 × Sg := if isRoomF r = 0 then (-2, refuseM (acc σ) (-2)) else if isInF d 0 ((acc σ).1 5 (ix r) - 1) = 0 then (-2, refuseM (acc σ) (-2)) else if isInF f 0 13 = 0 then (-2, refuseM (acc σ) (-2)) else if isInF a 0 4 = 0 then (-2, refuseM (acc σ) (-2)) else (1, settleM (acc σ) (4 * r + d) f a q)
def toldV (σ : Sg) (d wh : Int32) : Int32 := if wh = 0 then σ.1 9 (ix d) else if wh = 1 then σ.1 10 (ix d) else if wh = 2 then σ.1 11 (ix d) else if wh = 3 then σ.1 12 (ix d) else if wh = 4 then σ.1 13 (ix d) else -2
def toldM (σ : Sg) (r d wh : Int32) : Int32 := if isRoomF r = 0 then -2 else if isInF d 0 (σ.1 5 (ix r) - 1) = 0 then -2 else toldV σ (4 * r + d) wh
def countM (σ : Sg) (wh : Int32) : Int32 := if wh = 0 then σ.1 0 0 else if wh = 1 then σ.1 16 0 else if wh = 2 then σ.1 17 0 else if wh = 3 then σ.1 18 0 else if wh = 4 then σ.1 19 0 else -2
def endsM (σ : Sg) (t : Int32) : Sg := sI (sI σ 25 0 (σ.1 25 0 - 1)) 20 0 (if σ.1 25 0 - 1 = 0 then t else σ.1 20 0)
def beginM (σ : Sg) (t r : Int32) : Sg := sI (sI (sI (sI (sI σ 21 (ix (σ.1 25 0)) t) 22 (ix (σ.1 25 0)) r) 23 (ix (σ.1 25 0)) 0) 24 (ix (σ.1 25 0)) (-1)) 25 0 (σ.1 25 0 + 1)
theorem desk_in {σ : Sg} {r d : Int32} (h : okM σ) (cr : ¬ isRoomF r = 0) (cd : ¬ isInF d 0 (σ.1 5 (ix r) - 1) = 0) : vp_in d 4 := by
  obtain ⟨z, hz, e⟩ := h.2.2 (ix r) (vp_ix (isRoom_in cr))
  rw [e] at cd
  exact in_of_isIn cd hz (by decide)
theorem desk_new {σ : Sg} {r : Int32} (h : okM σ) (cr : ¬ isRoomF r = 0) (c : ¬ σ.1 5 (ix r) = 4) : vp_in (σ.1 5 (ix r)) 4 := by
  obtain ⟨z, hz, e⟩ := h.2.2 (ix r) (vp_ix (isRoom_in cr))
  rw [e] at c ⊢
  rcases Nat.lt_or_ge z 4 with q | q
  · exact vp_in_nI q (by decide)
  · exact absurd (show nI z = 4 by rw [show z = 4 by omega]; rfl) c

set_option maxHeartbeats 2000000 in
set_option maxRecDepth 100000 in
theorem c_X7_isItem (l : Launch) (D : tw_G) (ad : Nat → Nat) (b : tw_W) (σ : Sg) (sz : Nat) (t : Int32) : Met l yX7_isItem (tw_w yX7_isItem cX7_isItem 2 (some .boolean)) (tw_R 2 0 0) (tw_Pc D ad (wM b σ) sz [.ref (ad 1000), .int t]) (tw_Q D ad (wM b (σ)) (tw_A ad (wM b σ) sz) (some (.int (isItemM σ t)))) 0 0 (tw_A ad (wM b σ) sz) := by
  refine tw_met (by decide) rfl (by simp [lg_sl, Value.category]) (fun p e s m below meth c ls S hK hr hlocks hnm hsz hI hl => ?_)
  have hx := S.1
  have hb := S.2.1
  have hl : lv_has ls 2 [(0, .ref (ad 1000)), (1, .int t)] := hl
  refine lv_iload_n hx hb dX7_isItem_0 rfl (lv_at hl 1 rfl) ?_
  refine lv_iconst (v := 0) hx hb dX7_isItem_1 (by decide) ?_
  refine lv_aload_n hx hb dX7_isItem_2 rfl (lv_at hl 0 rfl) ?_
  refine gm_70 S hK hI dX7_isItem_3 ?_
  refine lv_topi (fun x1 e1 => ?_)
  refine lv_iconst (v := 1) hx hb dX7_isItem_6 (by decide) ?_
  refine lv_isub hx hb dX7_isItem_7 ?_
  refine lv_topi (fun x2 e2 => ?_)
  refine tw_calli (tw_rS (As := [.int t, .int 0, .int x2]) (rest := []) S hK hI kX7_73 (c_X7_isIn l D ad _ _ _ _ _) ⟨Nat.le_of_ble_eq_true rfl, Nat.le_of_ble_eq_true rfl⟩ ⟨Nat.le_of_ble_eq_true rfl, Nat.le_of_ble_eq_true rfl⟩ rfl hl.1 rfl (Nat.le_of_ble_eq_true rfl) dX7_isItem_8) hI (fun H locs hI => ?_)
  refine lv_topi (fun x3 e3 => ?_)
  subst e3
  subst e2
  subst e1
  unfold isItemM
  exact tw_zret S hr (isInF_b _ _ _) hlocks hI dX7_isItem_11

set_option maxHeartbeats 2000000 in
set_option maxRecDepth 100000 in
theorem c_X7_refuse (l : Launch) (D : tw_G) (ad : Nat → Nat) (b : tw_W) (σ : Sg) (sz : Nat) (y : Int32) : Met l yX7_refuse (tw_w yX7_refuse cX7_refuse 2 (some .int)) (tw_R 0 0 0) (tw_Pc D ad (wM b σ) sz [.ref (ad 1000), .int y]) (tw_Q D ad (wM b (refuseM σ y)) (tw_A ad (wM b σ) sz) (some (.int (y)))) 0 0 (tw_A ad (wM b σ) sz) := by
  refine tw_met (by decide) rfl (by simp [lg_sl, Value.category]) (fun p e s m below meth c ls S hK hr hlocks hnm hsz hI hl => ?_)
  have hx := S.1
  have hb := S.2.1
  have hl : lv_has ls 2 [(0, .ref (ad 1000)), (1, .int y)] := hl
  refine lv_aload_n hx hb dX7_refuse_0 rfl (lv_at hl 0 rfl) ?_
  refine lv_iload_n hx hb dX7_refuse_1 rfl (lv_at hl 1 rfl) ?_
  refine pm_77 S hK hI dX7_refuse_2 (fun H locs hI => ?_)
  refine lv_aload_n hx hb dX7_refuse_5 rfl (lv_at hl 0 rfl) ?_
  refine lv_dup hx hb dX7_refuse_6 rfl ?_
  refine gm_80 S hK hI dX7_refuse_7 ?_
  refine lv_topi (fun x1 e1 => ?_)
  refine lv_iload_n hx hb dX7_refuse_10 rfl (lv_at hl 1 rfl) ?_
  refine lv_bipush (v := (-4)) hx hb dX7_refuse_11 (by decide) ?_
  refine lv_icmp_ne (tgt := 20) hx hb dX7_refuse_13 (by decide) (fun c2 => ?_) (fun c2 => ?_)
  · refine lv_iconst (v := 0) hx hb dX7_refuse_20 (by decide) ?_
    refine lv_iadd hx hb dX7_refuse_21 ?_
    refine lv_topi (fun x3 e3 => ?_)
    refine pm_80 S hK hI dX7_refuse_22 (fun H locs hI => ?_)
    refine lv_aload_n hx hb dX7_refuse_25 rfl (lv_at hl 0 rfl) ?_
    refine lv_dup hx hb dX7_refuse_26 rfl ?_
    refine gm_83 S hK hI dX7_refuse_27 ?_
    refine lv_topi (fun x4 e4 => ?_)
    refine lv_iload_n hx hb dX7_refuse_30 rfl (lv_at hl 1 rfl) ?_
    refine lv_bipush (v := (-5)) hx hb dX7_refuse_31 (by decide) ?_
    refine lv_icmp_ne (tgt := 40) hx hb dX7_refuse_33 (by decide) (fun c5 => ?_) (fun c5 => ?_)
    · refine lv_iconst (v := 0) hx hb dX7_refuse_40 (by decide) ?_
      refine lv_iadd hx hb dX7_refuse_41 ?_
      refine lv_topi (fun x6 e6 => ?_)
      refine pm_83 S hK hI dX7_refuse_42 (fun H locs hI => ?_)
      refine lv_aload_n hx hb dX7_refuse_45 rfl (lv_at hl 0 rfl) ?_
      refine lv_dup hx hb dX7_refuse_46 rfl ?_
      refine gm_86 S hK hI dX7_refuse_47 ?_
      refine lv_topi (fun x7 e7 => ?_)
      refine lv_iload_n hx hb dX7_refuse_50 rfl (lv_at hl 1 rfl) ?_
      refine lv_bipush (v := (-6)) hx hb dX7_refuse_51 (by decide) ?_
      refine lv_icmp_ne (tgt := 60) hx hb dX7_refuse_53 (by decide) (fun c8 => ?_) (fun c8 => ?_)
      · refine lv_iconst (v := 0) hx hb dX7_refuse_60 (by decide) ?_
        refine lv_iadd hx hb dX7_refuse_61 ?_
        refine lv_topi (fun x9 e9 => ?_)
        refine pm_86 S hK hI dX7_refuse_62 (fun H locs hI => ?_)
        refine lv_iload_n hx hb dX7_refuse_65 rfl (lv_at hl 1 rfl) ?_
        subst e9
        subst e7
        subst e6
        subst e4
        subst e3
        subst e1
        unfold refuseM
        try rw [if_neg c2]
        try rw [if_neg c5]
        try rw [if_neg c8]
        exact tw_iret S hr hlocks hI dX7_refuse_66
      · refine lv_iconst (v := 1) hx hb dX7_refuse_56 (by decide) ?_
        refine lv_goto (tgt := 61) hx hb dX7_refuse_57 (by decide) ?_
        refine lv_iadd hx hb dX7_refuse_61 ?_
        refine lv_topi (fun x10 e10 => ?_)
        refine pm_86 S hK hI dX7_refuse_62 (fun H locs hI => ?_)
        refine lv_iload_n hx hb dX7_refuse_65 rfl (lv_at hl 1 rfl) ?_
        subst e10
        subst e7
        subst e6
        subst e4
        subst e3
        subst e1
        unfold refuseM
        try rw [if_neg c2]
        try rw [if_neg c5]
        try rw [if_pos c8]
        exact tw_iret S hr hlocks hI dX7_refuse_66
    · refine lv_iconst (v := 1) hx hb dX7_refuse_36 (by decide) ?_
      refine lv_goto (tgt := 41) hx hb dX7_refuse_37 (by decide) ?_
      refine lv_iadd hx hb dX7_refuse_41 ?_
      refine lv_topi (fun x11 e11 => ?_)
      refine pm_83 S hK hI dX7_refuse_42 (fun H locs hI => ?_)
      refine lv_aload_n hx hb dX7_refuse_45 rfl (lv_at hl 0 rfl) ?_
      refine lv_dup hx hb dX7_refuse_46 rfl ?_
      refine gm_86 S hK hI dX7_refuse_47 ?_
      refine lv_topi (fun x12 e12 => ?_)
      refine lv_iload_n hx hb dX7_refuse_50 rfl (lv_at hl 1 rfl) ?_
      refine lv_bipush (v := (-6)) hx hb dX7_refuse_51 (by decide) ?_
      refine lv_icmp_ne (tgt := 60) hx hb dX7_refuse_53 (by decide) (fun c13 => ?_) (fun c13 => ?_)
      · refine lv_iconst (v := 0) hx hb dX7_refuse_60 (by decide) ?_
        refine lv_iadd hx hb dX7_refuse_61 ?_
        refine lv_topi (fun x14 e14 => ?_)
        refine pm_86 S hK hI dX7_refuse_62 (fun H locs hI => ?_)
        refine lv_iload_n hx hb dX7_refuse_65 rfl (lv_at hl 1 rfl) ?_
        subst e14
        subst e12
        subst e11
        subst e4
        subst e3
        subst e1
        unfold refuseM
        try rw [if_neg c2]
        try rw [if_pos c5]
        try rw [if_neg c13]
        exact tw_iret S hr hlocks hI dX7_refuse_66
      · refine lv_iconst (v := 1) hx hb dX7_refuse_56 (by decide) ?_
        refine lv_goto (tgt := 61) hx hb dX7_refuse_57 (by decide) ?_
        refine lv_iadd hx hb dX7_refuse_61 ?_
        refine lv_topi (fun x15 e15 => ?_)
        refine pm_86 S hK hI dX7_refuse_62 (fun H locs hI => ?_)
        refine lv_iload_n hx hb dX7_refuse_65 rfl (lv_at hl 1 rfl) ?_
        subst e15
        subst e12
        subst e11
        subst e4
        subst e3
        subst e1
        unfold refuseM
        try rw [if_neg c2]
        try rw [if_pos c5]
        try rw [if_pos c13]
        exact tw_iret S hr hlocks hI dX7_refuse_66
  · refine lv_iconst (v := 1) hx hb dX7_refuse_16 (by decide) ?_
    refine lv_goto (tgt := 21) hx hb dX7_refuse_17 (by decide) ?_
    refine lv_iadd hx hb dX7_refuse_21 ?_
    refine lv_topi (fun x16 e16 => ?_)
    refine pm_80 S hK hI dX7_refuse_22 (fun H locs hI => ?_)
    refine lv_aload_n hx hb dX7_refuse_25 rfl (lv_at hl 0 rfl) ?_
    refine lv_dup hx hb dX7_refuse_26 rfl ?_
    refine gm_83 S hK hI dX7_refuse_27 ?_
    refine lv_topi (fun x17 e17 => ?_)
    refine lv_iload_n hx hb dX7_refuse_30 rfl (lv_at hl 1 rfl) ?_
    refine lv_bipush (v := (-5)) hx hb dX7_refuse_31 (by decide) ?_
    refine lv_icmp_ne (tgt := 40) hx hb dX7_refuse_33 (by decide) (fun c18 => ?_) (fun c18 => ?_)
    · refine lv_iconst (v := 0) hx hb dX7_refuse_40 (by decide) ?_
      refine lv_iadd hx hb dX7_refuse_41 ?_
      refine lv_topi (fun x19 e19 => ?_)
      refine pm_83 S hK hI dX7_refuse_42 (fun H locs hI => ?_)
      refine lv_aload_n hx hb dX7_refuse_45 rfl (lv_at hl 0 rfl) ?_
      refine lv_dup hx hb dX7_refuse_46 rfl ?_
      refine gm_86 S hK hI dX7_refuse_47 ?_
      refine lv_topi (fun x20 e20 => ?_)
      refine lv_iload_n hx hb dX7_refuse_50 rfl (lv_at hl 1 rfl) ?_
      refine lv_bipush (v := (-6)) hx hb dX7_refuse_51 (by decide) ?_
      refine lv_icmp_ne (tgt := 60) hx hb dX7_refuse_53 (by decide) (fun c21 => ?_) (fun c21 => ?_)
      · refine lv_iconst (v := 0) hx hb dX7_refuse_60 (by decide) ?_
        refine lv_iadd hx hb dX7_refuse_61 ?_
        refine lv_topi (fun x22 e22 => ?_)
        refine pm_86 S hK hI dX7_refuse_62 (fun H locs hI => ?_)
        refine lv_iload_n hx hb dX7_refuse_65 rfl (lv_at hl 1 rfl) ?_
        subst e22
        subst e20
        subst e19
        subst e17
        subst e16
        subst e1
        unfold refuseM
        try rw [if_pos c2]
        try rw [if_neg c18]
        try rw [if_neg c21]
        exact tw_iret S hr hlocks hI dX7_refuse_66
      · refine lv_iconst (v := 1) hx hb dX7_refuse_56 (by decide) ?_
        refine lv_goto (tgt := 61) hx hb dX7_refuse_57 (by decide) ?_
        refine lv_iadd hx hb dX7_refuse_61 ?_
        refine lv_topi (fun x23 e23 => ?_)
        refine pm_86 S hK hI dX7_refuse_62 (fun H locs hI => ?_)
        refine lv_iload_n hx hb dX7_refuse_65 rfl (lv_at hl 1 rfl) ?_
        subst e23
        subst e20
        subst e19
        subst e17
        subst e16
        subst e1
        unfold refuseM
        try rw [if_pos c2]
        try rw [if_neg c18]
        try rw [if_pos c21]
        exact tw_iret S hr hlocks hI dX7_refuse_66
    · refine lv_iconst (v := 1) hx hb dX7_refuse_36 (by decide) ?_
      refine lv_goto (tgt := 41) hx hb dX7_refuse_37 (by decide) ?_
      refine lv_iadd hx hb dX7_refuse_41 ?_
      refine lv_topi (fun x24 e24 => ?_)
      refine pm_83 S hK hI dX7_refuse_42 (fun H locs hI => ?_)
      refine lv_aload_n hx hb dX7_refuse_45 rfl (lv_at hl 0 rfl) ?_
      refine lv_dup hx hb dX7_refuse_46 rfl ?_
      refine gm_86 S hK hI dX7_refuse_47 ?_
      refine lv_topi (fun x25 e25 => ?_)
      refine lv_iload_n hx hb dX7_refuse_50 rfl (lv_at hl 1 rfl) ?_
      refine lv_bipush (v := (-6)) hx hb dX7_refuse_51 (by decide) ?_
      refine lv_icmp_ne (tgt := 60) hx hb dX7_refuse_53 (by decide) (fun c26 => ?_) (fun c26 => ?_)
      · refine lv_iconst (v := 0) hx hb dX7_refuse_60 (by decide) ?_
        refine lv_iadd hx hb dX7_refuse_61 ?_
        refine lv_topi (fun x27 e27 => ?_)
        refine pm_86 S hK hI dX7_refuse_62 (fun H locs hI => ?_)
        refine lv_iload_n hx hb dX7_refuse_65 rfl (lv_at hl 1 rfl) ?_
        subst e27
        subst e25
        subst e24
        subst e17
        subst e16
        subst e1
        unfold refuseM
        try rw [if_pos c2]
        try rw [if_pos c18]
        try rw [if_neg c26]
        exact tw_iret S hr hlocks hI dX7_refuse_66
      · refine lv_iconst (v := 1) hx hb dX7_refuse_56 (by decide) ?_
        refine lv_goto (tgt := 61) hx hb dX7_refuse_57 (by decide) ?_
        refine lv_iadd hx hb dX7_refuse_61 ?_
        refine lv_topi (fun x28 e28 => ?_)
        refine pm_86 S hK hI dX7_refuse_62 (fun H locs hI => ?_)
        refine lv_iload_n hx hb dX7_refuse_65 rfl (lv_at hl 1 rfl) ?_
        subst e28
        subst e25
        subst e24
        subst e17
        subst e16
        subst e1
        unfold refuseM
        try rw [if_pos c2]
        try rw [if_pos c18]
        try rw [if_pos c26]
        exact tw_iret S hr hlocks hI dX7_refuse_66

set_option maxHeartbeats 2000000 in
set_option maxRecDepth 100000 in
theorem c_X7_wrongPlace (l : Launch) (D : tw_G) (ad : Nat → Nat) (b : tw_W) (σ : Sg) (sz : Nat) (t : Int32) (i : Int32) (q : Int32) (ht : vp_in t 60) : Met l yX7_wrongPlace (tw_w yX7_wrongPlace cX7_wrongPlace 4 (some .int)) (tw_R 1 0 0) (tw_Pc D ad (wM b σ) sz [.ref (ad 1000), .int t, .int i, .int q]) (tw_Q D ad (wM b (σ)) (tw_A ad (wM b σ) sz) (some (.int (wrongM σ t i q)))) 0 0 (tw_A ad (wM b σ) sz) := by
  refine tw_met (by decide) rfl (by simp [lg_sl, Value.category]) (fun p e s m below meth c ls S hK hr hlocks hnm hsz hI hl => ?_)
  have hx := S.1
  have hb := S.2.1
  have hl : lv_has ls 4 [(0, .ref (ad 1000)), (1, .int t), (2, .int i), (3, .int q)] := hl
  refine lv_iload_n hx hb dX7_wrongPlace_0 rfl (lv_at hl 3 rfl) ?_
  refine lv_if_ne (tgt := 9) hx hb dX7_wrongPlace_1 (by decide) (fun c1 => ?_) (fun c1 => ?_)
  · refine lv_iload_n hx hb dX7_wrongPlace_9 rfl (lv_at hl 2 rfl) ?_
    refine lv_iconst (v := 0) hx hb dX7_wrongPlace_10 (by decide) ?_
    refine lv_aload_n hx hb dX7_wrongPlace_11 rfl (lv_at hl 0 rfl) ?_
    refine gm_13 S hK hI dX7_wrongPlace_12 ?_
    refine lv_iload_n hx hb dX7_wrongPlace_15 rfl (lv_at hl 1 rfl) ?_
    refine lm_2 S hK hI ht dX7_wrongPlace_16 ?_
    refine lv_topi (fun x2 e2 => ?_)
    refine lv_iconst (v := 1) hx hb dX7_wrongPlace_17 (by decide) ?_
    refine lv_isub hx hb dX7_wrongPlace_18 ?_
    refine lv_topi (fun x3 e3 => ?_)
    refine tw_calli (tw_rS (As := [.int i, .int 0, .int x3]) (rest := []) S hK hI kX7_73 (c_X7_isIn l D ad _ _ _ _ _) ⟨Nat.le_of_ble_eq_true rfl, Nat.le_of_ble_eq_true rfl⟩ ⟨Nat.le_of_ble_eq_true rfl, Nat.le_of_ble_eq_true rfl⟩ rfl hl.1 rfl (Nat.le_of_ble_eq_true rfl) dX7_wrongPlace_19) hI (fun H locs hI => ?_)
    refine lv_topi (fun x4 e4 => ?_)
    refine lv_if_ne (tgt := 30) hx hb dX7_wrongPlace_22 (by decide) (fun c5 => ?_) (fun c5 => ?_)
    · refine lv_iconst (v := 0) hx hb dX7_wrongPlace_30 (by decide) ?_
      subst e4
      subst e3
      subst e2
      unfold wrongM
      try rw [if_neg c1]
      try rw [if_neg c5]
      exact tw_iret S hr hlocks hI dX7_wrongPlace_31
    · refine lv_bipush (v := (-5)) hx hb dX7_wrongPlace_25 (by decide) ?_
      refine lv_goto (tgt := 31) hx hb dX7_wrongPlace_27 (by decide) ?_
      subst e4
      subst e3
      subst e2
      unfold wrongM
      try rw [if_neg c1]
      try rw [if_pos c5]
      exact tw_iret S hr hlocks hI dX7_wrongPlace_31
  · refine lv_bipush (v := (-4)) hx hb dX7_wrongPlace_4 (by decide) ?_
    refine lv_goto (tgt := 31) hx hb dX7_wrongPlace_6 (by decide) ?_
    unfold wrongM
    try rw [if_pos c1]
    exact tw_iret S hr hlocks hI dX7_wrongPlace_31

set_option maxHeartbeats 2000000 in
set_option maxRecDepth 100000 in
theorem c_X7_put (l : Launch) (D : tw_G) (ad : Nat → Nat) (b : tw_W) (σ : Sg) (sz : Nat) (t : Int32) (i : Int32) (v : Int32) (hok : okM σ) : Met l yX7_put (tw_w yX7_put cX7_put 5 (some .int)) (tw_R 3 0 0) (tw_Pc D ad (wM b σ) sz [.ref (ad 1000), .int t, .int i, .int v]) (tw_Q D ad (wM b ((putM σ t i v).2)) (tw_A ad (wM b σ) sz) (some (.int ((putM σ t i v).1)))) 0 0 (tw_A ad (wM b σ) sz) := by
  refine tw_met (by decide) rfl (by simp [lg_sl, Value.category]) (fun p e s m below meth c ls S hK hr hlocks hnm hsz hI hl => ?_)
  have hx := S.1
  have hb := S.2.1
  have hl : lv_has ls 5 [(0, .ref (ad 1000)), (1, .int t), (2, .int i), (3, .int v)] := hl
  refine lv_aload_n hx hb dX7_put_0 rfl (lv_at hl 0 rfl) ?_
  refine lv_iconst (v := 0) hx hb dX7_put_1 (by decide) ?_
  refine pm_77 S hK hI dX7_put_2 (fun H locs hI => ?_)
  refine lv_aload_n hx hb dX7_put_5 rfl (lv_at hl 0 rfl) ?_
  refine lv_iload_n hx hb dX7_put_6 rfl (lv_at hl 1 rfl) ?_
  refine tw_calli (tw_rV (As := [.int t]) (rest := []) S hK hI kX7_104 (c_X7_isItem l D ad _ _ _ _) (t := 1000) (fs := mRoot _) rfl rfl rfl ⟨Nat.le_of_ble_eq_true rfl, Nat.le_of_ble_eq_true rfl⟩ ⟨Nat.le_of_ble_eq_true rfl, Nat.le_of_ble_eq_true rfl⟩ rfl hl.1 rfl (Nat.le_of_ble_eq_true rfl) dX7_put_7) hI (fun H locs hI => ?_)
  refine lv_topi (fun x1 e1 => ?_)
  refine lv_if_ne (tgt := 20) hx hb dX7_put_10 (by decide) (fun c2 => ?_) (fun c2 => ?_)
  · refine lv_aload_n hx hb dX7_put_20 rfl (lv_at hl 0 rfl) ?_
    refine lv_iload_n hx hb dX7_put_21 rfl (lv_at hl 1 rfl) ?_
    refine lv_iload_n hx hb dX7_put_22 rfl (lv_at hl 2 rfl) ?_
    refine lv_aload_n hx hb dX7_put_23 rfl (lv_at hl 0 rfl) ?_
    refine gm_7 S hK hI dX7_put_24 ?_
    refine lv_iload_n hx hb dX7_put_27 rfl (lv_at hl 1 rfl) ?_
    refine lm_1 S hK hI (by subst e1; exact isItem_in (okM_acc hok) c2) dX7_put_28 ?_
    refine lv_topi (fun x3 e3 => ?_)
    refine tw_calli (tw_rS (As := [.int x3]) (rest := [.int i, .int t, .ref (ad 1000)]) S hK hI kX7_107 (c_X7_isOfNumbers l D ad _ _ _) ⟨Nat.le_of_ble_eq_true rfl, Nat.le_of_ble_eq_true rfl⟩ ⟨Nat.le_of_ble_eq_true rfl, Nat.le_of_ble_eq_true rfl⟩ rfl hl.1 rfl (Nat.le_of_ble_eq_true rfl) dX7_put_29) hI (fun H locs hI => ?_)
    refine lv_topi (fun x4 e4 => ?_)
    refine tw_calli (tw_rV (As := [.int t, .int i, .int x4]) (rest := []) S hK hI kX7_110 (c_X7_wrongPlace l D ad _ _ _ _ _ _ (by subst e4; subst e3; subst e1; exact isItem_in (okM_acc hok) c2)) (t := 1000) (fs := mRoot _) rfl rfl rfl ⟨Nat.le_of_ble_eq_true rfl, Nat.le_of_ble_eq_true rfl⟩ ⟨Nat.le_of_ble_eq_true rfl, Nat.le_of_ble_eq_true rfl⟩ rfl hl.1 rfl (Nat.le_of_ble_eq_true rfl) dX7_put_32) hI (fun H locs hI => ?_)
    refine lv_topi (fun x5 e5 => ?_)
    refine lv_istore (lv' := [(4, .int x5), (0, .ref (ad 1000)), (1, .int t), (2, .int i), (3, .int v)]) hx hb dX7_put_35 hl (by decide) rfl (fun ls hl => ?_)
    refine lv_iload hx hb dX7_put_37 (lv_at hl 0 rfl) ?_
    refine lv_if_eq (tgt := 49) hx hb dX7_put_39 (by decide) (fun c6 => ?_) (fun c6 => ?_)
    · refine lv_aload_n hx hb dX7_put_49 rfl (lv_at hl 1 rfl) ?_
      refine gm_19 S hK hI dX7_put_50 ?_
      refine lv_iconst (v := 3) hx hb dX7_put_53 (by decide) ?_
      refine lv_iload_n hx hb dX7_put_54 rfl (lv_at hl 2 rfl) ?_
      refine lv_imul hx hb dX7_put_55 ?_
      refine lv_topi (fun x7 e7 => ?_)
      refine lv_iload_n hx hb dX7_put_56 rfl (lv_at hl 3 rfl) ?_
      refine lv_iadd hx hb dX7_put_57 ?_
      refine lv_topi (fun x8 e8 => ?_)
      refine lv_aload_n hx hb dX7_put_58 rfl (lv_at hl 1 rfl) ?_
      refine gm_7 S hK hI dX7_put_59 ?_
      refine lv_iload_n hx hb dX7_put_62 rfl (lv_at hl 2 rfl) ?_
      refine lm_1 S hK hI (by subst e8; subst e7; subst e5; subst e4; subst e3; subst e1; exact isItem_in (okM_acc hok) c2) dX7_put_63 ?_
      refine lv_topi (fun x9 e9 => ?_)
      refine lv_iload_n hx hb dX7_put_64 rfl (lv_at hl 4 rfl) ?_
      refine lv_i2l hx hb dX7_put_65 rfl ?_
      refine lv_topl (fun x10 e10 => ?_)
      refine tw_calll (tw_rS (As := [.int x9, .long x10]) (rest := [.int x8, .ref (ad 1004)]) S hK hI kX7_114 (c_X7_kept l D ad _ _ _ _) ⟨Nat.le_of_ble_eq_true rfl, Nat.le_of_ble_eq_true rfl⟩ ⟨Nat.le_of_ble_eq_true rfl, Nat.le_of_ble_eq_true rfl⟩ rfl hl.1 rfl (Nat.le_of_ble_eq_true rfl) dX7_put_66) hI (fun H locs hI => ?_)
      refine lv_topl (fun x11 e11 => ?_)
      refine sm_4 S hK hI (by subst e11; subst e10; subst e9; subst e8; subst e7; subst e5; subst e4; subst e3; subst e1; exact bnd3 (isItem_in (okM_acc hok) c2) (wrong_in (okM_acc hok) (isItem_in (okM_acc hok) c2) c6)) dX7_put_69 (fun H locs hI => ?_)
      refine lv_iconst (v := 1) hx hb dX7_put_70 (by decide) ?_
      subst e11
      subst e10
      subst e9
      subst e8
      subst e7
      subst e5
      subst e4
      subst e3
      subst e1
      unfold putM
      try rw [if_neg c2]
      try rw [if_pos c6]
      exact tw_iret S hr hlocks hI dX7_put_71
    · refine lv_aload_n hx hb dX7_put_42 rfl (lv_at hl 1 rfl) ?_
      refine lv_iload hx hb dX7_put_43 (lv_at hl 0 rfl) ?_
      refine tw_calli (tw_rV (As := [.int x5]) (rest := []) S hK hI kX7_93 (c_X7_refuse l D ad _ _ _ _) (t := 1000) (fs := mRoot _) rfl rfl rfl ⟨Nat.le_of_ble_eq_true rfl, Nat.le_of_ble_eq_true rfl⟩ ⟨Nat.le_of_ble_eq_true rfl, Nat.le_of_ble_eq_true rfl⟩ rfl hl.1 rfl (Nat.le_of_ble_eq_true rfl) dX7_put_45) hI (fun H locs hI => ?_)
      refine lv_topi (fun x12 e12 => ?_)
      subst e12
      subst e5
      subst e4
      subst e3
      subst e1
      unfold putM
      try rw [if_neg c2]
      try rw [if_neg c6]
      exact tw_iret S hr hlocks hI dX7_put_48
  · refine lv_aload_n hx hb dX7_put_13 rfl (lv_at hl 0 rfl) ?_
    refine lv_bipush (v := (-2)) hx hb dX7_put_14 (by decide) ?_
    refine tw_calli (tw_rV (As := [.int (-2)]) (rest := []) S hK hI kX7_93 (c_X7_refuse l D ad _ _ _ _) (t := 1000) (fs := mRoot _) rfl rfl rfl ⟨Nat.le_of_ble_eq_true rfl, Nat.le_of_ble_eq_true rfl⟩ ⟨Nat.le_of_ble_eq_true rfl, Nat.le_of_ble_eq_true rfl⟩ rfl hl.1 rfl (Nat.le_of_ble_eq_true rfl) dX7_put_16) hI (fun H locs hI => ?_)
    refine lv_topi (fun x13 e13 => ?_)
    subst e13
    subst e1
    unfold putM
    try rw [if_pos c2]
    exact tw_iret S hr hlocks hI dX7_put_19

set_option maxHeartbeats 2000000 in
set_option maxRecDepth 100000 in
theorem c_X7_get (l : Launch) (D : tw_G) (ad : Nat → Nat) (b : tw_W) (σ : Sg) (sz : Nat) (t : Int32) (i : Int32) (hok : okM σ) : Met l yX7_get (tw_w yX7_get cX7_get 6 (some .int)) (tw_R 3 0 0) (tw_Pc D ad (wM b σ) sz [.ref (ad 1000), .int t, .int i]) (tw_Q D ad (wM b ((getM σ t i).2)) (tw_A ad (wM b σ) sz) (some (.int ((getM σ t i).1)))) 0 0 (tw_A ad (wM b σ) sz) := by
  refine tw_met (by decide) rfl (by simp [lg_sl, Value.category]) (fun p e s m below meth c ls S hK hr hlocks hnm hsz hI hl => ?_)
  have hx := S.1
  have hb := S.2.1
  have hl : lv_has ls 6 [(0, .ref (ad 1000)), (1, .int t), (2, .int i)] := hl
  refine lv_aload_n hx hb dX7_get_0 rfl (lv_at hl 0 rfl) ?_
  refine lv_iconst (v := 0) hx hb dX7_get_1 (by decide) ?_
  refine pm_77 S hK hI dX7_get_2 (fun H locs hI => ?_)
  refine lv_aload_n hx hb dX7_get_5 rfl (lv_at hl 0 rfl) ?_
  refine lv_iload_n hx hb dX7_get_6 rfl (lv_at hl 1 rfl) ?_
  refine tw_calli (tw_rV (As := [.int t]) (rest := []) S hK hI kX7_104 (c_X7_isItem l D ad _ _ _ _) (t := 1000) (fs := mRoot _) rfl rfl rfl ⟨Nat.le_of_ble_eq_true rfl, Nat.le_of_ble_eq_true rfl⟩ ⟨Nat.le_of_ble_eq_true rfl, Nat.le_of_ble_eq_true rfl⟩ rfl hl.1 rfl (Nat.le_of_ble_eq_true rfl) dX7_get_7) hI (fun H locs hI => ?_)
  refine lv_topi (fun x1 e1 => ?_)
  refine lv_if_ne (tgt := 18) hx hb dX7_get_10 (by decide) (fun c2 => ?_) (fun c2 => ?_)
  · refine lv_aload_n hx hb dX7_get_18 rfl (lv_at hl 0 rfl) ?_
    refine lv_iload_n hx hb dX7_get_19 rfl (lv_at hl 1 rfl) ?_
    refine lv_iload_n hx hb dX7_get_20 rfl (lv_at hl 2 rfl) ?_
    refine lv_aload_n hx hb dX7_get_21 rfl (lv_at hl 0 rfl) ?_
    refine gm_7 S hK hI dX7_get_22 ?_
    refine lv_iload_n hx hb dX7_get_25 rfl (lv_at hl 1 rfl) ?_
    refine lm_1 S hK hI (by subst e1; exact isItem_in (okM_acc hok) c2) dX7_get_26 ?_
    refine lv_topi (fun x3 e3 => ?_)
    refine tw_calli (tw_rS (As := [.int x3]) (rest := [.int i, .int t, .ref (ad 1000)]) S hK hI kX7_107 (c_X7_isOfNumbers l D ad _ _ _) ⟨Nat.le_of_ble_eq_true rfl, Nat.le_of_ble_eq_true rfl⟩ ⟨Nat.le_of_ble_eq_true rfl, Nat.le_of_ble_eq_true rfl⟩ rfl hl.1 rfl (Nat.le_of_ble_eq_true rfl) dX7_get_27) hI (fun H locs hI => ?_)
    refine lv_topi (fun x4 e4 => ?_)
    refine tw_calli (tw_rV (As := [.int t, .int i, .int x4]) (rest := []) S hK hI kX7_110 (c_X7_wrongPlace l D ad _ _ _ _ _ _ (by subst e4; subst e3; subst e1; exact isItem_in (okM_acc hok) c2)) (t := 1000) (fs := mRoot _) rfl rfl rfl ⟨Nat.le_of_ble_eq_true rfl, Nat.le_of_ble_eq_true rfl⟩ ⟨Nat.le_of_ble_eq_true rfl, Nat.le_of_ble_eq_true rfl⟩ rfl hl.1 rfl (Nat.le_of_ble_eq_true rfl) dX7_get_30) hI (fun H locs hI => ?_)
    refine lv_topi (fun x5 e5 => ?_)
    refine lv_istore_n (lv' := [(3, .int x5), (0, .ref (ad 1000)), (1, .int t), (2, .int i)]) hx hb dX7_get_33 rfl hl (by decide) rfl (fun ls hl => ?_)
    refine lv_iload_n hx hb dX7_get_34 rfl (lv_at hl 0 rfl) ?_
    refine lv_if_eq (tgt := 46) hx hb dX7_get_35 (by decide) (fun c6 => ?_) (fun c6 => ?_)
    · refine lv_aload_n hx hb dX7_get_46 rfl (lv_at hl 1 rfl) ?_
      refine gm_19 S hK hI dX7_get_47 ?_
      refine lv_iconst (v := 3) hx hb dX7_get_50 (by decide) ?_
      refine lv_iload_n hx hb dX7_get_51 rfl (lv_at hl 2 rfl) ?_
      refine lv_imul hx hb dX7_get_52 ?_
      refine lv_topi (fun x7 e7 => ?_)
      refine lv_iload_n hx hb dX7_get_53 rfl (lv_at hl 3 rfl) ?_
      refine lv_iadd hx hb dX7_get_54 ?_
      refine lv_topi (fun x8 e8 => ?_)
      refine lm_4 S hK hI (by subst e8; subst e7; subst e5; subst e4; subst e3; subst e1; exact bnd3 (isItem_in (okM_acc hok) c2) (wrong_in (okM_acc hok) (isItem_in (okM_acc hok) c2) c6)) dX7_get_55 ?_
      refine lv_topl (fun x9 e9 => ?_)
      refine lv_lstore (lv' := [(4, .long x9), (3, .int x5), (0, .ref (ad 1000)), (1, .int t), (2, .int i)]) hx hb dX7_get_56 hl (by decide) rfl (fun ls hl => ?_)
      refine lv_lload hx hb dX7_get_58 (lv_at hl 0 rfl) ?_
      refine lv_ldc2 (own := RX7) (v := 2147483647) hx hb S.2.2.2.1 (S.2.2.2.2 _ (tw_mem (by decide +kernel) rfl)) dX7_get_60 ?_
      refine W.lcmp hx hb dX7_get_63 ?_
      refine lv_topi (fun x10 e10 => ?_)
      refine lv_if_le (tgt := 72) hx hb dX7_get_64 (by decide) (fun c11 => ?_) (fun c11 => ?_)
      · refine lv_lload hx hb dX7_get_72 (lv_at hl 0 rfl) ?_
        refine lv_l2i hx hb dX7_get_74 rfl ?_
        refine lv_topi (fun x12 e12 => ?_)
        subst e12
        subst e10
        subst e9
        subst e8
        subst e7
        subst e5
        subst e4
        subst e3
        subst e1
        unfold getM whyG getV
        try rw [if_neg c2]
        try rw [if_pos c6]
        try rw [if_pos c11]
        exact tw_iret S hr hlocks hI dX7_get_75
      · refine lv_ldc (own := RX7) (v := 2147483647) hx hb S.2.2.2.1 (S.2.2.2.2 _ (tw_mem (by decide +kernel) rfl)) dX7_get_67 ?_
        refine lv_goto (tgt := 75) hx hb dX7_get_69 (by decide) ?_
        subst e10
        subst e9
        subst e8
        subst e7
        subst e5
        subst e4
        subst e3
        subst e1
        unfold getM whyG getV
        try rw [if_neg c2]
        try rw [if_pos c6]
        try rw [if_neg c11]
        exact tw_iret S hr hlocks hI dX7_get_75
    · refine lv_aload_n hx hb dX7_get_38 rfl (lv_at hl 1 rfl) ?_
      refine lv_iload_n hx hb dX7_get_39 rfl (lv_at hl 0 rfl) ?_
      refine tw_calli (tw_rV (As := [.int x5]) (rest := []) S hK hI kX7_93 (c_X7_refuse l D ad _ _ _ _) (t := 1000) (fs := mRoot _) rfl rfl rfl ⟨Nat.le_of_ble_eq_true rfl, Nat.le_of_ble_eq_true rfl⟩ ⟨Nat.le_of_ble_eq_true rfl, Nat.le_of_ble_eq_true rfl⟩ rfl hl.1 rfl (Nat.le_of_ble_eq_true rfl) dX7_get_40) hI (fun H locs hI => ?_)
      refine lv_topi (fun x13 e13 => ?_)
      refine lv_istore_n (lv' := [(3, .int x13), (0, .ref (ad 1000)), (1, .int t), (2, .int i)]) hx hb dX7_get_43 rfl hl (by decide) rfl (fun ls hl => ?_)
      refine lv_iconst (v := 0) hx hb dX7_get_44 (by decide) ?_
      subst e13
      subst e5
      subst e4
      subst e3
      subst e1
      unfold getM whyG getV
      try rw [if_neg c2]
      try rw [if_neg c6]
      exact tw_iret S hr hlocks hI dX7_get_45
  · refine lv_bipush (v := (-2)) hx hb dX7_get_13 (by decide) ?_
    refine lv_goto (tgt := 33) hx hb dX7_get_15 (by decide) ?_
    refine lv_istore_n (lv' := [(3, .int (-2)), (0, .ref (ad 1000)), (1, .int t), (2, .int i)]) hx hb dX7_get_33 rfl hl (by decide) rfl (fun ls hl => ?_)
    refine lv_iload_n hx hb dX7_get_34 rfl (lv_at hl 0 rfl) ?_
    refine lv_if_eq (tgt := 46) hx hb dX7_get_35 (by decide) (fun c14 => ?_) (fun c14 => ?_)
    · exact absurd c14 (by decide)
    · refine lv_aload_n hx hb dX7_get_38 rfl (lv_at hl 1 rfl) ?_
      refine lv_iload_n hx hb dX7_get_39 rfl (lv_at hl 0 rfl) ?_
      refine tw_calli (tw_rV (As := [.int (-2)]) (rest := []) S hK hI kX7_93 (c_X7_refuse l D ad _ _ _ _) (t := 1000) (fs := mRoot _) rfl rfl rfl ⟨Nat.le_of_ble_eq_true rfl, Nat.le_of_ble_eq_true rfl⟩ ⟨Nat.le_of_ble_eq_true rfl, Nat.le_of_ble_eq_true rfl⟩ rfl hl.1 rfl (Nat.le_of_ble_eq_true rfl) dX7_get_40) hI (fun H locs hI => ?_)
      refine lv_topi (fun x15 e15 => ?_)
      refine lv_istore_n (lv' := [(3, .int x15), (0, .ref (ad 1000)), (1, .int t), (2, .int i)]) hx hb dX7_get_43 rfl hl (by decide) rfl (fun ls hl => ?_)
      refine lv_iconst (v := 0) hx hb dX7_get_44 (by decide) ?_
      subst e15
      subst e1
      unfold getM whyG getV
      try rw [if_pos c2]
      try rw [if_neg (show ¬ ((-2) : Int32) = 0 from by decide)]
      exact tw_iret S hr hlocks hI dX7_get_45

set_option maxHeartbeats 2000000 in
set_option maxRecDepth 100000 in
theorem c_X7_at (l : Launch) (D : tw_G) (ad : Nat → Nat) (b : tw_W) (σ : Sg) (sz : Nat) (t : Int32) (i : Int32) (hok : okM σ) : Met l yX7_at (tw_w yX7_at cX7_at 4 (some .int)) (tw_R 3 0 0) (tw_Pc D ad (wM b σ) sz [.ref (ad 1000), .int t, .int i]) (tw_Q D ad (wM b ((atM σ t i).2)) (tw_A ad (wM b σ) sz) (some (.int ((atM σ t i).1)))) 0 0 (tw_A ad (wM b σ) sz) := by
  refine tw_met (by decide) rfl (by simp [lg_sl, Value.category]) (fun p e s m below meth c ls S hK hr hlocks hnm hsz hI hl => ?_)
  have hx := S.1
  have hb := S.2.1
  have hl : lv_has ls 4 [(0, .ref (ad 1000)), (1, .int t), (2, .int i)] := hl
  refine lv_aload_n hx hb dX7_at_0 rfl (lv_at hl 0 rfl) ?_
  refine lv_iconst (v := 0) hx hb dX7_at_1 (by decide) ?_
  refine pm_77 S hK hI dX7_at_2 (fun H locs hI => ?_)
  refine lv_aload_n hx hb dX7_at_5 rfl (lv_at hl 0 rfl) ?_
  refine lv_iload_n hx hb dX7_at_6 rfl (lv_at hl 1 rfl) ?_
  refine tw_calli (tw_rV (As := [.int t]) (rest := []) S hK hI kX7_104 (c_X7_isItem l D ad _ _ _ _) (t := 1000) (fs := mRoot _) rfl rfl rfl ⟨Nat.le_of_ble_eq_true rfl, Nat.le_of_ble_eq_true rfl⟩ ⟨Nat.le_of_ble_eq_true rfl, Nat.le_of_ble_eq_true rfl⟩ rfl hl.1 rfl (Nat.le_of_ble_eq_true rfl) dX7_at_7) hI (fun H locs hI => ?_)
  refine lv_topi (fun x1 e1 => ?_)
  refine lv_if_ne (tgt := 18) hx hb dX7_at_10 (by decide) (fun c2 => ?_) (fun c2 => ?_)
  · refine lv_aload_n hx hb dX7_at_18 rfl (lv_at hl 0 rfl) ?_
    refine lv_iload_n hx hb dX7_at_19 rfl (lv_at hl 1 rfl) ?_
    refine lv_iload_n hx hb dX7_at_20 rfl (lv_at hl 2 rfl) ?_
    refine lv_aload_n hx hb dX7_at_21 rfl (lv_at hl 0 rfl) ?_
    refine gm_7 S hK hI dX7_at_22 ?_
    refine lv_iload_n hx hb dX7_at_25 rfl (lv_at hl 1 rfl) ?_
    refine lm_1 S hK hI (by subst e1; exact isItem_in (okM_acc hok) c2) dX7_at_26 ?_
    refine lv_topi (fun x3 e3 => ?_)
    refine tw_calli (tw_rS (As := [.int x3]) (rest := [.int i, .int t, .ref (ad 1000)]) S hK hI kX7_97 (c_X7_isOfThings l D ad _ _ _) ⟨Nat.le_of_ble_eq_true rfl, Nat.le_of_ble_eq_true rfl⟩ ⟨Nat.le_of_ble_eq_true rfl, Nat.le_of_ble_eq_true rfl⟩ rfl hl.1 rfl (Nat.le_of_ble_eq_true rfl) dX7_at_27) hI (fun H locs hI => ?_)
    refine lv_topi (fun x4 e4 => ?_)
    refine tw_calli (tw_rV (As := [.int t, .int i, .int x4]) (rest := []) S hK hI kX7_110 (c_X7_wrongPlace l D ad _ _ _ _ _ _ (by subst e4; subst e3; subst e1; exact isItem_in (okM_acc hok) c2)) (t := 1000) (fs := mRoot _) rfl rfl rfl ⟨Nat.le_of_ble_eq_true rfl, Nat.le_of_ble_eq_true rfl⟩ ⟨Nat.le_of_ble_eq_true rfl, Nat.le_of_ble_eq_true rfl⟩ rfl hl.1 rfl (Nat.le_of_ble_eq_true rfl) dX7_at_30) hI (fun H locs hI => ?_)
    refine lv_topi (fun x5 e5 => ?_)
    refine lv_istore_n (lv' := [(3, .int x5), (0, .ref (ad 1000)), (1, .int t), (2, .int i)]) hx hb dX7_at_33 rfl hl (by decide) rfl (fun ls hl => ?_)
    refine lv_iload_n hx hb dX7_at_34 rfl (lv_at hl 0 rfl) ?_
    refine lv_if_eq (tgt := 46) hx hb dX7_at_35 (by decide) (fun c6 => ?_) (fun c6 => ?_)
    · refine lv_aload_n hx hb dX7_at_46 rfl (lv_at hl 1 rfl) ?_
      refine gm_19 S hK hI dX7_at_47 ?_
      refine lv_iconst (v := 3) hx hb dX7_at_50 (by decide) ?_
      refine lv_iload_n hx hb dX7_at_51 rfl (lv_at hl 2 rfl) ?_
      refine lv_imul hx hb dX7_at_52 ?_
      refine lv_topi (fun x7 e7 => ?_)
      refine lv_iload_n hx hb dX7_at_53 rfl (lv_at hl 3 rfl) ?_
      refine lv_iadd hx hb dX7_at_54 ?_
      refine lv_topi (fun x8 e8 => ?_)
      refine lm_4 S hK hI (by subst e8; subst e7; subst e5; subst e4; subst e3; subst e1; exact bnd3 (isItem_in (okM_acc hok) c2) (wrong_in (okM_acc hok) (isItem_in (okM_acc hok) c2) c6)) dX7_at_55 ?_
      refine lv_topl (fun x9 e9 => ?_)
      refine lv_l2i hx hb dX7_at_56 rfl ?_
      refine lv_topi (fun x10 e10 => ?_)
      subst e10
      subst e9
      subst e8
      subst e7
      subst e5
      subst e4
      subst e3
      subst e1
      unfold atM whyA
      try rw [if_neg c2]
      try rw [if_pos c6]
      exact tw_iret S hr hlocks hI dX7_at_57
    · refine lv_aload_n hx hb dX7_at_38 rfl (lv_at hl 1 rfl) ?_
      refine lv_iload_n hx hb dX7_at_39 rfl (lv_at hl 0 rfl) ?_
      refine tw_calli (tw_rV (As := [.int x5]) (rest := []) S hK hI kX7_93 (c_X7_refuse l D ad _ _ _ _) (t := 1000) (fs := mRoot _) rfl rfl rfl ⟨Nat.le_of_ble_eq_true rfl, Nat.le_of_ble_eq_true rfl⟩ ⟨Nat.le_of_ble_eq_true rfl, Nat.le_of_ble_eq_true rfl⟩ rfl hl.1 rfl (Nat.le_of_ble_eq_true rfl) dX7_at_40) hI (fun H locs hI => ?_)
      refine lv_topi (fun x11 e11 => ?_)
      refine lv_goto (tgt := 57) hx hb dX7_at_43 (by decide) ?_
      subst e11
      subst e5
      subst e4
      subst e3
      subst e1
      unfold atM whyA
      try rw [if_neg c2]
      try rw [if_neg c6]
      exact tw_iret S hr hlocks hI dX7_at_57
  · refine lv_bipush (v := (-2)) hx hb dX7_at_13 (by decide) ?_
    refine lv_goto (tgt := 33) hx hb dX7_at_15 (by decide) ?_
    refine lv_istore_n (lv' := [(3, .int (-2)), (0, .ref (ad 1000)), (1, .int t), (2, .int i)]) hx hb dX7_at_33 rfl hl (by decide) rfl (fun ls hl => ?_)
    refine lv_iload_n hx hb dX7_at_34 rfl (lv_at hl 0 rfl) ?_
    refine lv_if_eq (tgt := 46) hx hb dX7_at_35 (by decide) (fun c12 => ?_) (fun c12 => ?_)
    · exact absurd c12 (by decide)
    · refine lv_aload_n hx hb dX7_at_38 rfl (lv_at hl 1 rfl) ?_
      refine lv_iload_n hx hb dX7_at_39 rfl (lv_at hl 0 rfl) ?_
      refine tw_calli (tw_rV (As := [.int (-2)]) (rest := []) S hK hI kX7_93 (c_X7_refuse l D ad _ _ _ _) (t := 1000) (fs := mRoot _) rfl rfl rfl ⟨Nat.le_of_ble_eq_true rfl, Nat.le_of_ble_eq_true rfl⟩ ⟨Nat.le_of_ble_eq_true rfl, Nat.le_of_ble_eq_true rfl⟩ rfl hl.1 rfl (Nat.le_of_ble_eq_true rfl) dX7_at_40) hI (fun H locs hI => ?_)
      refine lv_topi (fun x13 e13 => ?_)
      refine lv_goto (tgt := 57) hx hb dX7_at_43 (by decide) ?_
      subst e13
      subst e1
      unfold atM whyA
      try rw [if_pos c2]
      try rw [if_neg (show ¬ ((-2) : Int32) = 0 from by decide)]
      exact tw_iret S hr hlocks hI dX7_at_57

set_option maxHeartbeats 2000000 in
set_option maxRecDepth 100000 in
theorem c_X7_is (l : Launch) (D : tw_G) (ad : Nat → Nat) (b : tw_W) (σ : Sg) (sz : Nat) (t : Int32) (f : Int32) (hok : okM σ) : Met l yX7_is (tw_w yX7_is cX7_is 3 (some .int)) (tw_R 3 0 0) (tw_Pc D ad (wM b σ) sz [.ref (ad 1000), .int t, .int f]) (tw_Q D ad (wM b ((isM σ t f).2)) (tw_A ad (wM b σ) sz) (some (.int ((isM σ t f).1)))) 0 0 (tw_A ad (wM b σ) sz) := by
  refine tw_met (by decide) rfl (by simp [lg_sl, Value.category]) (fun p e s m below meth c ls S hK hr hlocks hnm hsz hI hl => ?_)
  have hx := S.1
  have hb := S.2.1
  have hl : lv_has ls 3 [(0, .ref (ad 1000)), (1, .int t), (2, .int f)] := hl
  refine lv_aload_n hx hb dX7_is_0 rfl (lv_at hl 0 rfl) ?_
  refine lv_iconst (v := 0) hx hb dX7_is_1 (by decide) ?_
  refine pm_77 S hK hI dX7_is_2 (fun H locs hI => ?_)
  refine lv_aload_n hx hb dX7_is_5 rfl (lv_at hl 0 rfl) ?_
  refine lv_iload_n hx hb dX7_is_6 rfl (lv_at hl 1 rfl) ?_
  refine tw_calli (tw_rV (As := [.int t]) (rest := []) S hK hI kX7_104 (c_X7_isItem l D ad _ _ _ _) (t := 1000) (fs := mRoot _) rfl rfl rfl ⟨Nat.le_of_ble_eq_true rfl, Nat.le_of_ble_eq_true rfl⟩ ⟨Nat.le_of_ble_eq_true rfl, Nat.le_of_ble_eq_true rfl⟩ rfl hl.1 rfl (Nat.le_of_ble_eq_true rfl) dX7_is_7) hI (fun H locs hI => ?_)
  refine lv_topi (fun x1 e1 => ?_)
  refine lv_if_eq (tgt := 23) hx hb dX7_is_10 (by decide) (fun c2 => ?_) (fun c2 => ?_)
  · refine lv_aload_n hx hb dX7_is_23 rfl (lv_at hl 0 rfl) ?_
    refine lv_bipush (v := (-2)) hx hb dX7_is_24 (by decide) ?_
    refine tw_calli (tw_rV (As := [.int (-2)]) (rest := []) S hK hI kX7_93 (c_X7_refuse l D ad _ _ _ _) (t := 1000) (fs := mRoot _) rfl rfl rfl ⟨Nat.le_of_ble_eq_true rfl, Nat.le_of_ble_eq_true rfl⟩ ⟨Nat.le_of_ble_eq_true rfl, Nat.le_of_ble_eq_true rfl⟩ rfl hl.1 rfl (Nat.le_of_ble_eq_true rfl) dX7_is_26) hI (fun H locs hI => ?_)
    refine lv_topi (fun x3 e3 => ?_)
    refine lv_goto (tgt := 50) hx hb dX7_is_29 (by decide) ?_
    subst e3
    subst e1
    unfold isM
    try rw [if_pos c2]
    exact tw_iret S hr hlocks hI dX7_is_50
  · refine lv_iload_n hx hb dX7_is_13 rfl (lv_at hl 2 rfl) ?_
    refine lv_iconst (v := 0) hx hb dX7_is_14 (by decide) ?_
    refine lv_bipush (v := 13) hx hb dX7_is_15 (by decide) ?_
    refine tw_calli (tw_rS (As := [.int f, .int 0, .int 13]) (rest := []) S hK hI kX7_73 (c_X7_isIn l D ad _ _ _ _ _) ⟨Nat.le_of_ble_eq_true rfl, Nat.le_of_ble_eq_true rfl⟩ ⟨Nat.le_of_ble_eq_true rfl, Nat.le_of_ble_eq_true rfl⟩ rfl hl.1 rfl (Nat.le_of_ble_eq_true rfl) dX7_is_17) hI (fun H locs hI => ?_)
    refine lv_topi (fun x4 e4 => ?_)
    refine lv_if_ne (tgt := 32) hx hb dX7_is_20 (by decide) (fun c5 => ?_) (fun c5 => ?_)
    · refine lv_aload_n hx hb dX7_is_32 rfl (lv_at hl 0 rfl) ?_
      refine gm_7 S hK hI dX7_is_33 ?_
      refine lv_iload_n hx hb dX7_is_36 rfl (lv_at hl 1 rfl) ?_
      refine lm_1 S hK hI (by subst e4; subst e1; exact isItem_in (okM_acc hok) c2) dX7_is_37 ?_
      refine lv_topi (fun x6 e6 => ?_)
      refine lv_iload_n hx hb dX7_is_38 rfl (lv_at hl 2 rfl) ?_
      refine tw_calli (tw_rS (As := [.int x6, .int f]) (rest := []) S hK hI kX7_124 (c_X7_goes l D ad _ _ _ _) ⟨Nat.le_of_ble_eq_true rfl, Nat.le_of_ble_eq_true rfl⟩ ⟨Nat.le_of_ble_eq_true rfl, Nat.le_of_ble_eq_true rfl⟩ rfl hl.1 rfl (Nat.le_of_ble_eq_true rfl) dX7_is_39) hI (fun H locs hI => ?_)
      refine lv_topi (fun x7 e7 => ?_)
      refine lv_if_eq (tgt := 49) hx hb dX7_is_42 (by decide) (fun c8 => ?_) (fun c8 => ?_)
      · refine lv_iconst (v := 0) hx hb dX7_is_49 (by decide) ?_
        subst e7
        subst e6
        subst e4
        subst e1
        unfold isM
        try rw [if_neg c2]
        try rw [if_neg c5]
        try rw [if_pos c8]
        exact tw_iret S hr hlocks hI dX7_is_50
      · refine lv_iconst (v := 1) hx hb dX7_is_45 (by decide) ?_
        refine lv_goto (tgt := 50) hx hb dX7_is_46 (by decide) ?_
        subst e7
        subst e6
        subst e4
        subst e1
        unfold isM
        try rw [if_neg c2]
        try rw [if_neg c5]
        try rw [if_neg c8]
        exact tw_iret S hr hlocks hI dX7_is_50
    · refine lv_aload_n hx hb dX7_is_23 rfl (lv_at hl 0 rfl) ?_
      refine lv_bipush (v := (-2)) hx hb dX7_is_24 (by decide) ?_
      refine tw_calli (tw_rV (As := [.int (-2)]) (rest := []) S hK hI kX7_93 (c_X7_refuse l D ad _ _ _ _) (t := 1000) (fs := mRoot _) rfl rfl rfl ⟨Nat.le_of_ble_eq_true rfl, Nat.le_of_ble_eq_true rfl⟩ ⟨Nat.le_of_ble_eq_true rfl, Nat.le_of_ble_eq_true rfl⟩ rfl hl.1 rfl (Nat.le_of_ble_eq_true rfl) dX7_is_26) hI (fun H locs hI => ?_)
      refine lv_topi (fun x9 e9 => ?_)
      refine lv_goto (tgt := 50) hx hb dX7_is_29 (by decide) ?_
      subst e9
      subst e4
      subst e1
      unfold isM
      try rw [if_neg c2]
      try rw [if_pos c5]
      exact tw_iret S hr hlocks hI dX7_is_50

set_option maxHeartbeats 2000000 in
set_option maxRecDepth 100000 in
theorem c_X7_stamps (l : Launch) (D : tw_G) (ad : Nat → Nat) (b : tw_W) (σ : Sg) (sz : Nat) (t : Int32) (hok : okM σ) : Met l yX7_stamps (tw_w yX7_stamps cX7_stamps 3 (some .int)) (tw_R 3 0 0) (tw_Pc D ad (wM b σ) sz [.ref (ad 1000), .int t]) (tw_Q D ad (wM b ((stampsM σ t).2)) (tw_A ad (wM b σ) sz) (some (.int ((stampsM σ t).1)))) 0 0 (tw_A ad (wM b σ) sz) := by
  refine tw_met (by decide) rfl (by simp [lg_sl, Value.category]) (fun p e s m below meth c ls S hK hr hlocks hnm hsz hI hl => ?_)
  have hx := S.1
  have hb := S.2.1
  have hl : lv_has ls 3 [(0, .ref (ad 1000)), (1, .int t)] := hl
  refine lv_aload_n hx hb dX7_stamps_0 rfl (lv_at hl 0 rfl) ?_
  refine lv_iconst (v := 0) hx hb dX7_stamps_1 (by decide) ?_
  refine pm_77 S hK hI dX7_stamps_2 (fun H locs hI => ?_)
  refine lv_aload_n hx hb dX7_stamps_5 rfl (lv_at hl 0 rfl) ?_
  refine lv_iload_n hx hb dX7_stamps_6 rfl (lv_at hl 1 rfl) ?_
  refine tw_calli (tw_rV (As := [.int t]) (rest := []) S hK hI kX7_104 (c_X7_isItem l D ad _ _ _ _) (t := 1000) (fs := mRoot _) rfl rfl rfl ⟨Nat.le_of_ble_eq_true rfl, Nat.le_of_ble_eq_true rfl⟩ ⟨Nat.le_of_ble_eq_true rfl, Nat.le_of_ble_eq_true rfl⟩ rfl hl.1 rfl (Nat.le_of_ble_eq_true rfl) dX7_stamps_7) hI (fun H locs hI => ?_)
  refine lv_topi (fun x1 e1 => ?_)
  refine lv_if_ne (tgt := 18) hx hb dX7_stamps_10 (by decide) (fun c2 => ?_) (fun c2 => ?_)
  · refine lv_aload_n hx hb dX7_stamps_18 rfl (lv_at hl 0 rfl) ?_
    refine gm_7 S hK hI dX7_stamps_19 ?_
    refine lv_iload_n hx hb dX7_stamps_22 rfl (lv_at hl 1 rfl) ?_
    refine lm_1 S hK hI (by subst e1; exact isItem_in (okM_acc hok) c2) dX7_stamps_23 ?_
    refine lv_topi (fun x3 e3 => ?_)
    refine tw_calli (tw_rS (As := [.int x3]) (rest := []) S hK hI kX7_89 (c_X7_isOne l D ad _ _ _) ⟨Nat.le_of_ble_eq_true rfl, Nat.le_of_ble_eq_true rfl⟩ ⟨Nat.le_of_ble_eq_true rfl, Nat.le_of_ble_eq_true rfl⟩ rfl hl.1 rfl (Nat.le_of_ble_eq_true rfl) dX7_stamps_24) hI (fun H locs hI => ?_)
    refine lv_topi (fun x4 e4 => ?_)
    refine lv_if_ne (tgt := 35) hx hb dX7_stamps_27 (by decide) (fun c5 => ?_) (fun c5 => ?_)
    · refine lv_iconst (v := 0) hx hb dX7_stamps_35 (by decide) ?_
      refine lv_istore_n (lv' := [(2, .int 0), (0, .ref (ad 1000)), (1, .int t)]) hx hb dX7_stamps_36 rfl hl (by decide) rfl (fun ls hl => ?_)
      refine lv_iload_n hx hb dX7_stamps_37 rfl (lv_at hl 0 rfl) ?_
      refine lv_if_eq (tgt := 49) hx hb dX7_stamps_38 (by decide) (fun c6 => ?_) (fun c6 => ?_)
      · refine lv_aload_n hx hb dX7_stamps_49 rfl (lv_at hl 1 rfl) ?_
        refine gm_16 S hK hI dX7_stamps_50 ?_
        refine lv_iload_n hx hb dX7_stamps_53 rfl (lv_at hl 2 rfl) ?_
        refine lm_3 S hK hI (by subst e4; subst e3; subst e1; exact isItem_in (okM_acc hok) c2) dX7_stamps_54 ?_
        refine lv_topi (fun x7 e7 => ?_)
        subst e7
        subst e4
        subst e3
        subst e1
        unfold stampsM whyS
        try rw [if_neg c2]
        try rw [if_neg c5]
        try rw [if_pos (show (0 : Int32) = 0 from by decide)]
        exact tw_iret S hr hlocks hI dX7_stamps_55
      · exact absurd c6 (by decide)
    · refine lv_bipush (v := (-4)) hx hb dX7_stamps_30 (by decide) ?_
      refine lv_goto (tgt := 36) hx hb dX7_stamps_32 (by decide) ?_
      refine lv_istore_n (lv' := [(2, .int (-4)), (0, .ref (ad 1000)), (1, .int t)]) hx hb dX7_stamps_36 rfl hl (by decide) rfl (fun ls hl => ?_)
      refine lv_iload_n hx hb dX7_stamps_37 rfl (lv_at hl 0 rfl) ?_
      refine lv_if_eq (tgt := 49) hx hb dX7_stamps_38 (by decide) (fun c8 => ?_) (fun c8 => ?_)
      · exact absurd c8 (by decide)
      · refine lv_aload_n hx hb dX7_stamps_41 rfl (lv_at hl 1 rfl) ?_
        refine lv_iload_n hx hb dX7_stamps_42 rfl (lv_at hl 0 rfl) ?_
        refine tw_calli (tw_rV (As := [.int (-4)]) (rest := []) S hK hI kX7_93 (c_X7_refuse l D ad _ _ _ _) (t := 1000) (fs := mRoot _) rfl rfl rfl ⟨Nat.le_of_ble_eq_true rfl, Nat.le_of_ble_eq_true rfl⟩ ⟨Nat.le_of_ble_eq_true rfl, Nat.le_of_ble_eq_true rfl⟩ rfl hl.1 rfl (Nat.le_of_ble_eq_true rfl) dX7_stamps_43) hI (fun H locs hI => ?_)
        refine lv_topi (fun x9 e9 => ?_)
        refine lv_istore_n (lv' := [(2, .int x9), (0, .ref (ad 1000)), (1, .int t)]) hx hb dX7_stamps_46 rfl hl (by decide) rfl (fun ls hl => ?_)
        refine lv_iconst (v := 0) hx hb dX7_stamps_47 (by decide) ?_
        subst e9
        subst e4
        subst e3
        subst e1
        unfold stampsM whyS
        try rw [if_neg c2]
        try rw [if_pos c5]
        try rw [if_neg (show ¬ ((-4) : Int32) = 0 from by decide)]
        exact tw_iret S hr hlocks hI dX7_stamps_48
  · refine lv_bipush (v := (-2)) hx hb dX7_stamps_13 (by decide) ?_
    refine lv_goto (tgt := 36) hx hb dX7_stamps_15 (by decide) ?_
    refine lv_istore_n (lv' := [(2, .int (-2)), (0, .ref (ad 1000)), (1, .int t)]) hx hb dX7_stamps_36 rfl hl (by decide) rfl (fun ls hl => ?_)
    refine lv_iload_n hx hb dX7_stamps_37 rfl (lv_at hl 0 rfl) ?_
    refine lv_if_eq (tgt := 49) hx hb dX7_stamps_38 (by decide) (fun c10 => ?_) (fun c10 => ?_)
    · exact absurd c10 (by decide)
    · refine lv_aload_n hx hb dX7_stamps_41 rfl (lv_at hl 1 rfl) ?_
      refine lv_iload_n hx hb dX7_stamps_42 rfl (lv_at hl 0 rfl) ?_
      refine tw_calli (tw_rV (As := [.int (-2)]) (rest := []) S hK hI kX7_93 (c_X7_refuse l D ad _ _ _ _) (t := 1000) (fs := mRoot _) rfl rfl rfl ⟨Nat.le_of_ble_eq_true rfl, Nat.le_of_ble_eq_true rfl⟩ ⟨Nat.le_of_ble_eq_true rfl, Nat.le_of_ble_eq_true rfl⟩ rfl hl.1 rfl (Nat.le_of_ble_eq_true rfl) dX7_stamps_43) hI (fun H locs hI => ?_)
      refine lv_topi (fun x11 e11 => ?_)
      refine lv_istore_n (lv' := [(2, .int x11), (0, .ref (ad 1000)), (1, .int t)]) hx hb dX7_stamps_46 rfl hl (by decide) rfl (fun ls hl => ?_)
      refine lv_iconst (v := 0) hx hb dX7_stamps_47 (by decide) ?_
      subst e11
      subst e1
      unfold stampsM whyS
      try rw [if_pos c2]
      try rw [if_neg (show ¬ ((-2) : Int32) = 0 from by decide)]
      exact tw_iret S hr hlocks hI dX7_stamps_48

set_option maxHeartbeats 2000000 in
set_option maxRecDepth 100000 in
theorem c_X7_lay (l : Launch) (D : tw_G) (ad : Nat → Nat) (b : tw_W) (σ : Sg) (sz : Nat) (t : Int32) (i : Int32) (x : Int32) (hok : okM σ) : Met l yX7_lay (tw_w yX7_lay cX7_lay 5 (some .int)) (tw_R 3 0 0) (tw_Pc D ad (wM b σ) sz [.ref (ad 1000), .int t, .int i, .int x]) (tw_Q D ad (wM b ((layM σ t i x).2)) (tw_A ad (wM b σ) sz) (some (.int ((layM σ t i x).1)))) 0 0 (tw_A ad (wM b σ) sz) := by
  refine tw_met (by decide) rfl (by simp [lg_sl, Value.category]) (fun p e s m below meth c ls S hK hr hlocks hnm hsz hI hl => ?_)
  have hx := S.1
  have hb := S.2.1
  have hl : lv_has ls 5 [(0, .ref (ad 1000)), (1, .int t), (2, .int i), (3, .int x)] := hl
  refine lv_aload_n hx hb dX7_lay_0 rfl (lv_at hl 0 rfl) ?_
  refine lv_iconst (v := 0) hx hb dX7_lay_1 (by decide) ?_
  refine pm_77 S hK hI dX7_lay_2 (fun H locs hI => ?_)
  refine lv_aload_n hx hb dX7_lay_5 rfl (lv_at hl 0 rfl) ?_
  refine lv_iload_n hx hb dX7_lay_6 rfl (lv_at hl 1 rfl) ?_
  refine tw_calli (tw_rV (As := [.int t]) (rest := []) S hK hI kX7_104 (c_X7_isItem l D ad _ _ _ _) (t := 1000) (fs := mRoot _) rfl rfl rfl ⟨Nat.le_of_ble_eq_true rfl, Nat.le_of_ble_eq_true rfl⟩ ⟨Nat.le_of_ble_eq_true rfl, Nat.le_of_ble_eq_true rfl⟩ rfl hl.1 rfl (Nat.le_of_ble_eq_true rfl) dX7_lay_7) hI (fun H locs hI => ?_)
  refine lv_topi (fun x1 e1 => ?_)
  refine lv_if_eq (tgt := 26) hx hb dX7_lay_10 (by decide) (fun c2 => ?_) (fun c2 => ?_)
  · refine lv_aload_n hx hb dX7_lay_26 rfl (lv_at hl 0 rfl) ?_
    refine lv_bipush (v := (-2)) hx hb dX7_lay_27 (by decide) ?_
    refine tw_calli (tw_rV (As := [.int (-2)]) (rest := []) S hK hI kX7_93 (c_X7_refuse l D ad _ _ _ _) (t := 1000) (fs := mRoot _) rfl rfl rfl ⟨Nat.le_of_ble_eq_true rfl, Nat.le_of_ble_eq_true rfl⟩ ⟨Nat.le_of_ble_eq_true rfl, Nat.le_of_ble_eq_true rfl⟩ rfl hl.1 rfl (Nat.le_of_ble_eq_true rfl) dX7_lay_29) hI (fun H locs hI => ?_)
    refine lv_topi (fun x3 e3 => ?_)
    subst e3
    subst e1
    unfold layM layM2 layOK
    try rw [if_pos c2]
    exact tw_iret S hr hlocks hI dX7_lay_32
  · refine lv_iload_n hx hb dX7_lay_13 rfl (lv_at hl 3 rfl) ?_
    refine lv_iconst (v := (-1)) hx hb dX7_lay_14 (by decide) ?_
    refine lv_icmp_eq (tgt := 33) hx hb dX7_lay_15 (by decide) (fun c4 => ?_) (fun c4 => ?_)
    · refine lv_aload_n hx hb dX7_lay_33 rfl (lv_at hl 0 rfl) ?_
      refine lv_iload_n hx hb dX7_lay_34 rfl (lv_at hl 1 rfl) ?_
      refine lv_iload_n hx hb dX7_lay_35 rfl (lv_at hl 2 rfl) ?_
      refine lv_aload_n hx hb dX7_lay_36 rfl (lv_at hl 0 rfl) ?_
      refine gm_7 S hK hI dX7_lay_37 ?_
      refine lv_iload_n hx hb dX7_lay_40 rfl (lv_at hl 1 rfl) ?_
      refine lm_1 S hK hI (by subst e1; exact isItem_in (okM_acc hok) c2) dX7_lay_41 ?_
      refine lv_topi (fun x5 e5 => ?_)
      refine tw_calli (tw_rS (As := [.int x5]) (rest := [.int i, .int t, .ref (ad 1000)]) S hK hI kX7_97 (c_X7_isOfThings l D ad _ _ _) ⟨Nat.le_of_ble_eq_true rfl, Nat.le_of_ble_eq_true rfl⟩ ⟨Nat.le_of_ble_eq_true rfl, Nat.le_of_ble_eq_true rfl⟩ rfl hl.1 rfl (Nat.le_of_ble_eq_true rfl) dX7_lay_42) hI (fun H locs hI => ?_)
      refine lv_topi (fun x6 e6 => ?_)
      refine lv_if_eq (tgt := 78) hx hb dX7_lay_45 (by decide) (fun c7 => ?_) (fun c7 => ?_)
      · refine lv_iconst (v := 0) hx hb dX7_lay_78 (by decide) ?_
        refine tw_calli (tw_rV (As := [.int t, .int i, .int 0]) (rest := []) S hK hI kX7_110 (c_X7_wrongPlace l D ad _ _ _ _ _ _ (by subst e6; subst e5; subst e1; exact isItem_in (okM_acc hok) c2)) (t := 1000) (fs := mRoot _) rfl rfl rfl ⟨Nat.le_of_ble_eq_true rfl, Nat.le_of_ble_eq_true rfl⟩ ⟨Nat.le_of_ble_eq_true rfl, Nat.le_of_ble_eq_true rfl⟩ rfl hl.1 rfl (Nat.le_of_ble_eq_true rfl) dX7_lay_79) hI (fun H locs hI => ?_)
        refine lv_topi (fun x8 e8 => ?_)
        refine lv_istore (lv' := [(4, .int x8), (0, .ref (ad 1000)), (1, .int t), (2, .int i), (3, .int x)]) hx hb dX7_lay_82 hl (by decide) rfl (fun ls hl => ?_)
        refine lv_iload hx hb dX7_lay_84 (lv_at hl 0 rfl) ?_
        refine lv_if_eq (tgt := 96) hx hb dX7_lay_86 (by decide) (fun c9 => ?_) (fun c9 => ?_)
        · refine lv_iload_n hx hb dX7_lay_96 rfl (lv_at hl 4 rfl) ?_
          refine lv_iconst (v := (-1)) hx hb dX7_lay_97 (by decide) ?_
          refine lv_icmp_eq (tgt := 129) hx hb dX7_lay_98 (by decide) (fun c10 => ?_) (fun c10 => ?_)
          · refine lv_aload_n hx hb dX7_lay_129 rfl (lv_at hl 1 rfl) ?_
            refine gm_19 S hK hI dX7_lay_130 ?_
            refine lv_iconst (v := 3) hx hb dX7_lay_133 (by decide) ?_
            refine lv_iload_n hx hb dX7_lay_134 rfl (lv_at hl 2 rfl) ?_
            refine lv_imul hx hb dX7_lay_135 ?_
            refine lv_topi (fun x11 e11 => ?_)
            refine lv_iload_n hx hb dX7_lay_136 rfl (lv_at hl 3 rfl) ?_
            refine lv_iadd hx hb dX7_lay_137 ?_
            refine lv_topi (fun x12 e12 => ?_)
            refine lv_iload_n hx hb dX7_lay_138 rfl (lv_at hl 4 rfl) ?_
            refine lv_i2l hx hb dX7_lay_139 rfl ?_
            refine lv_topl (fun x13 e13 => ?_)
            refine sm_4 S hK hI (by subst e13; subst e12; subst e11; subst e8; subst e6; subst e5; subst e1; exact bnd3 (isItem_in (okM_acc hok) c2) (wrong_in (okM_acc hok) (isItem_in (okM_acc hok) c2) c9)) dX7_lay_140 (fun H locs hI => ?_)
            refine lv_iconst (v := 1) hx hb dX7_lay_141 (by decide) ?_
            subst e13
            subst e12
            subst e11
            subst e8
            subst e6
            subst e5
            subst e1
            unfold layM layM2 layOK
            try rw [if_neg c2]
            try rw [if_pos c4]
            try rw [if_pos c7]
            try rw [if_pos c9]
            try rw [if_pos c4]
            exact tw_iret S hr hlocks hI dX7_lay_142
          · exact absurd c4 c10
        · refine lv_aload_n hx hb dX7_lay_89 rfl (lv_at hl 1 rfl) ?_
          refine lv_iload hx hb dX7_lay_90 (lv_at hl 0 rfl) ?_
          refine tw_calli (tw_rV (As := [.int x8]) (rest := []) S hK hI kX7_93 (c_X7_refuse l D ad _ _ _ _) (t := 1000) (fs := mRoot _) rfl rfl rfl ⟨Nat.le_of_ble_eq_true rfl, Nat.le_of_ble_eq_true rfl⟩ ⟨Nat.le_of_ble_eq_true rfl, Nat.le_of_ble_eq_true rfl⟩ rfl hl.1 rfl (Nat.le_of_ble_eq_true rfl) dX7_lay_92) hI (fun H locs hI => ?_)
          refine lv_topi (fun x14 e14 => ?_)
          subst e14
          subst e8
          subst e6
          subst e5
          subst e1
          unfold layM layM2 layOK
          try rw [if_neg c2]
          try rw [if_pos c4]
          try rw [if_pos c7]
          try rw [if_neg c9]
          exact tw_iret S hr hlocks hI dX7_lay_95
      · refine lv_iload_n hx hb dX7_lay_48 rfl (lv_at hl 3 rfl) ?_
        refine lv_iconst (v := (-1)) hx hb dX7_lay_49 (by decide) ?_
        refine lv_icmp_eq (tgt := 74) hx hb dX7_lay_50 (by decide) (fun c15 => ?_) (fun c15 => ?_)
        · refine lv_iconst (v := 1) hx hb dX7_lay_74 (by decide) ?_
          refine lv_goto (tgt := 79) hx hb dX7_lay_75 (by decide) ?_
          refine tw_calli (tw_rV (As := [.int t, .int i, .int 1]) (rest := []) S hK hI kX7_110 (c_X7_wrongPlace l D ad _ _ _ _ _ _ (by subst e6; subst e5; subst e1; exact isItem_in (okM_acc hok) c2)) (t := 1000) (fs := mRoot _) rfl rfl rfl ⟨Nat.le_of_ble_eq_true rfl, Nat.le_of_ble_eq_true rfl⟩ ⟨Nat.le_of_ble_eq_true rfl, Nat.le_of_ble_eq_true rfl⟩ rfl hl.1 rfl (Nat.le_of_ble_eq_true rfl) dX7_lay_79) hI (fun H locs hI => ?_)
          refine lv_topi (fun x16 e16 => ?_)
          refine lv_istore (lv' := [(4, .int x16), (0, .ref (ad 1000)), (1, .int t), (2, .int i), (3, .int x)]) hx hb dX7_lay_82 hl (by decide) rfl (fun ls hl => ?_)
          refine lv_iload hx hb dX7_lay_84 (lv_at hl 0 rfl) ?_
          refine lv_if_eq (tgt := 96) hx hb dX7_lay_86 (by decide) (fun c17 => ?_) (fun c17 => ?_)
          · refine lv_iload_n hx hb dX7_lay_96 rfl (lv_at hl 4 rfl) ?_
            refine lv_iconst (v := (-1)) hx hb dX7_lay_97 (by decide) ?_
            refine lv_icmp_eq (tgt := 129) hx hb dX7_lay_98 (by decide) (fun c18 => ?_) (fun c18 => ?_)
            · refine lv_aload_n hx hb dX7_lay_129 rfl (lv_at hl 1 rfl) ?_
              refine gm_19 S hK hI dX7_lay_130 ?_
              refine lv_iconst (v := 3) hx hb dX7_lay_133 (by decide) ?_
              refine lv_iload_n hx hb dX7_lay_134 rfl (lv_at hl 2 rfl) ?_
              refine lv_imul hx hb dX7_lay_135 ?_
              refine lv_topi (fun x19 e19 => ?_)
              refine lv_iload_n hx hb dX7_lay_136 rfl (lv_at hl 3 rfl) ?_
              refine lv_iadd hx hb dX7_lay_137 ?_
              refine lv_topi (fun x20 e20 => ?_)
              refine lv_iload_n hx hb dX7_lay_138 rfl (lv_at hl 4 rfl) ?_
              refine lv_i2l hx hb dX7_lay_139 rfl ?_
              refine lv_topl (fun x21 e21 => ?_)
              refine sm_4 S hK hI (by subst e21; subst e20; subst e19; subst e16; subst e6; subst e5; subst e1; exact bnd3 (isItem_in (okM_acc hok) c2) (wrong_in (okM_acc hok) (isItem_in (okM_acc hok) c2) c17)) dX7_lay_140 (fun H locs hI => ?_)
              refine lv_iconst (v := 1) hx hb dX7_lay_141 (by decide) ?_
              subst e21
              subst e20
              subst e19
              subst e16
              subst e6
              subst e5
              subst e1
              unfold layM layM2 layOK
              try rw [if_neg c2]
              try rw [if_pos c4]
              try rw [if_neg c7]
              try rw [if_pos c4]
              try rw [if_pos c17]
              try rw [if_pos c4]
              exact tw_iret S hr hlocks hI dX7_lay_142
            · exact absurd c4 c18
          · refine lv_aload_n hx hb dX7_lay_89 rfl (lv_at hl 1 rfl) ?_
            refine lv_iload hx hb dX7_lay_90 (lv_at hl 0 rfl) ?_
            refine tw_calli (tw_rV (As := [.int x16]) (rest := []) S hK hI kX7_93 (c_X7_refuse l D ad _ _ _ _) (t := 1000) (fs := mRoot _) rfl rfl rfl ⟨Nat.le_of_ble_eq_true rfl, Nat.le_of_ble_eq_true rfl⟩ ⟨Nat.le_of_ble_eq_true rfl, Nat.le_of_ble_eq_true rfl⟩ rfl hl.1 rfl (Nat.le_of_ble_eq_true rfl) dX7_lay_92) hI (fun H locs hI => ?_)
            refine lv_topi (fun x22 e22 => ?_)
            subst e22
            subst e16
            subst e6
            subst e5
            subst e1
            unfold layM layM2 layOK
            try rw [if_neg c2]
            try rw [if_pos c4]
            try rw [if_neg c7]
            try rw [if_pos c4]
            try rw [if_neg c17]
            exact tw_iret S hr hlocks hI dX7_lay_95
        · exact absurd c4 c15
    · refine lv_aload_n hx hb dX7_lay_18 rfl (lv_at hl 0 rfl) ?_
      refine lv_iload_n hx hb dX7_lay_19 rfl (lv_at hl 3 rfl) ?_
      refine tw_calli (tw_rV (As := [.int x]) (rest := []) S hK hI kX7_104 (c_X7_isItem l D ad _ _ _ _) (t := 1000) (fs := mRoot _) rfl rfl rfl ⟨Nat.le_of_ble_eq_true rfl, Nat.le_of_ble_eq_true rfl⟩ ⟨Nat.le_of_ble_eq_true rfl, Nat.le_of_ble_eq_true rfl⟩ rfl hl.1 rfl (Nat.le_of_ble_eq_true rfl) dX7_lay_20) hI (fun H locs hI => ?_)
      refine lv_topi (fun x23 e23 => ?_)
      refine lv_if_ne (tgt := 33) hx hb dX7_lay_23 (by decide) (fun c24 => ?_) (fun c24 => ?_)
      · refine lv_aload_n hx hb dX7_lay_33 rfl (lv_at hl 0 rfl) ?_
        refine lv_iload_n hx hb dX7_lay_34 rfl (lv_at hl 1 rfl) ?_
        refine lv_iload_n hx hb dX7_lay_35 rfl (lv_at hl 2 rfl) ?_
        refine lv_aload_n hx hb dX7_lay_36 rfl (lv_at hl 0 rfl) ?_
        refine gm_7 S hK hI dX7_lay_37 ?_
        refine lv_iload_n hx hb dX7_lay_40 rfl (lv_at hl 1 rfl) ?_
        refine lm_1 S hK hI (by subst e23; subst e1; exact isItem_in (okM_acc hok) c2) dX7_lay_41 ?_
        refine lv_topi (fun x25 e25 => ?_)
        refine tw_calli (tw_rS (As := [.int x25]) (rest := [.int i, .int t, .ref (ad 1000)]) S hK hI kX7_97 (c_X7_isOfThings l D ad _ _ _) ⟨Nat.le_of_ble_eq_true rfl, Nat.le_of_ble_eq_true rfl⟩ ⟨Nat.le_of_ble_eq_true rfl, Nat.le_of_ble_eq_true rfl⟩ rfl hl.1 rfl (Nat.le_of_ble_eq_true rfl) dX7_lay_42) hI (fun H locs hI => ?_)
        refine lv_topi (fun x26 e26 => ?_)
        refine lv_if_eq (tgt := 78) hx hb dX7_lay_45 (by decide) (fun c27 => ?_) (fun c27 => ?_)
        · refine lv_iconst (v := 0) hx hb dX7_lay_78 (by decide) ?_
          refine tw_calli (tw_rV (As := [.int t, .int i, .int 0]) (rest := []) S hK hI kX7_110 (c_X7_wrongPlace l D ad _ _ _ _ _ _ (by subst e26; subst e25; subst e23; subst e1; exact isItem_in (okM_acc hok) c2)) (t := 1000) (fs := mRoot _) rfl rfl rfl ⟨Nat.le_of_ble_eq_true rfl, Nat.le_of_ble_eq_true rfl⟩ ⟨Nat.le_of_ble_eq_true rfl, Nat.le_of_ble_eq_true rfl⟩ rfl hl.1 rfl (Nat.le_of_ble_eq_true rfl) dX7_lay_79) hI (fun H locs hI => ?_)
          refine lv_topi (fun x28 e28 => ?_)
          refine lv_istore (lv' := [(4, .int x28), (0, .ref (ad 1000)), (1, .int t), (2, .int i), (3, .int x)]) hx hb dX7_lay_82 hl (by decide) rfl (fun ls hl => ?_)
          refine lv_iload hx hb dX7_lay_84 (lv_at hl 0 rfl) ?_
          refine lv_if_eq (tgt := 96) hx hb dX7_lay_86 (by decide) (fun c29 => ?_) (fun c29 => ?_)
          · refine lv_iload_n hx hb dX7_lay_96 rfl (lv_at hl 4 rfl) ?_
            refine lv_iconst (v := (-1)) hx hb dX7_lay_97 (by decide) ?_
            refine lv_icmp_eq (tgt := 129) hx hb dX7_lay_98 (by decide) (fun c30 => ?_) (fun c30 => ?_)
            · exact absurd c30 c4
            · refine lv_aload_n hx hb dX7_lay_101 rfl (lv_at hl 1 rfl) ?_
              refine gm_7 S hK hI dX7_lay_102 ?_
              refine lv_iload_n hx hb dX7_lay_105 rfl (lv_at hl 4 rfl) ?_
              refine lm_1 S hK hI (by subst e28; subst e26; subst e25; subst e23; subst e1; exact isItem_in (okM_acc hok) c24) dX7_lay_106 ?_
              refine lv_topi (fun x31 e31 => ?_)
              refine lv_aload_n hx hb dX7_lay_107 rfl (lv_at hl 1 rfl) ?_
              refine gm_7 S hK hI dX7_lay_108 ?_
              refine lv_iload_n hx hb dX7_lay_111 rfl (lv_at hl 2 rfl) ?_
              refine lm_1 S hK hI (by subst e31; subst e28; subst e26; subst e25; subst e23; subst e1; exact isItem_in (okM_acc hok) c2) dX7_lay_112 ?_
              refine lv_topi (fun x32 e32 => ?_)
              refine tw_calli (tw_rS (As := [.int x32]) (rest := [.int x31]) S hK hI kX7_128 (c_X7_holds l D ad _ _ _) ⟨Nat.le_of_ble_eq_true rfl, Nat.le_of_ble_eq_true rfl⟩ ⟨Nat.le_of_ble_eq_true rfl, Nat.le_of_ble_eq_true rfl⟩ rfl hl.1 rfl (Nat.le_of_ble_eq_true rfl) dX7_lay_113) hI (fun H locs hI => ?_)
              refine lv_topi (fun x33 e33 => ?_)
              refine tw_calli (tw_rS (As := [.int x31, .int x33]) (rest := []) S hK hI kX7_124 (c_X7_goes l D ad _ _ _ _) ⟨Nat.le_of_ble_eq_true rfl, Nat.le_of_ble_eq_true rfl⟩ ⟨Nat.le_of_ble_eq_true rfl, Nat.le_of_ble_eq_true rfl⟩ rfl hl.1 rfl (Nat.le_of_ble_eq_true rfl) dX7_lay_116) hI (fun H locs hI => ?_)
              refine lv_topi (fun x34 e34 => ?_)
              refine lv_if_ne (tgt := 129) hx hb dX7_lay_119 (by decide) (fun c35 => ?_) (fun c35 => ?_)
              · refine lv_aload_n hx hb dX7_lay_129 rfl (lv_at hl 1 rfl) ?_
                refine gm_19 S hK hI dX7_lay_130 ?_
                refine lv_iconst (v := 3) hx hb dX7_lay_133 (by decide) ?_
                refine lv_iload_n hx hb dX7_lay_134 rfl (lv_at hl 2 rfl) ?_
                refine lv_imul hx hb dX7_lay_135 ?_
                refine lv_topi (fun x36 e36 => ?_)
                refine lv_iload_n hx hb dX7_lay_136 rfl (lv_at hl 3 rfl) ?_
                refine lv_iadd hx hb dX7_lay_137 ?_
                refine lv_topi (fun x37 e37 => ?_)
                refine lv_iload_n hx hb dX7_lay_138 rfl (lv_at hl 4 rfl) ?_
                refine lv_i2l hx hb dX7_lay_139 rfl ?_
                refine lv_topl (fun x38 e38 => ?_)
                refine sm_4 S hK hI (by subst e38; subst e37; subst e36; subst e34; subst e33; subst e32; subst e31; subst e28; subst e26; subst e25; subst e23; subst e1; exact bnd3 (isItem_in (okM_acc hok) c2) (wrong_in (okM_acc hok) (isItem_in (okM_acc hok) c2) c29)) dX7_lay_140 (fun H locs hI => ?_)
                refine lv_iconst (v := 1) hx hb dX7_lay_141 (by decide) ?_
                subst e38
                subst e37
                subst e36
                subst e34
                subst e33
                subst e32
                subst e31
                subst e28
                subst e26
                subst e25
                subst e23
                subst e1
                unfold layM layM2 layOK
                try rw [if_neg c2]
                try rw [if_neg c4]
                try rw [if_neg c24]
                try rw [if_pos c27]
                try rw [if_pos c29]
                try rw [if_neg c4]
                try rw [if_neg c35]
                exact tw_iret S hr hlocks hI dX7_lay_142
              · refine lv_aload_n hx hb dX7_lay_122 rfl (lv_at hl 1 rfl) ?_
                refine lv_bipush (v := (-6)) hx hb dX7_lay_123 (by decide) ?_
                refine tw_calli (tw_rV (As := [.int (-6)]) (rest := []) S hK hI kX7_93 (c_X7_refuse l D ad _ _ _ _) (t := 1000) (fs := mRoot _) rfl rfl rfl ⟨Nat.le_of_ble_eq_true rfl, Nat.le_of_ble_eq_true rfl⟩ ⟨Nat.le_of_ble_eq_true rfl, Nat.le_of_ble_eq_true rfl⟩ rfl hl.1 rfl (Nat.le_of_ble_eq_true rfl) dX7_lay_125) hI (fun H locs hI => ?_)
                refine lv_topi (fun x39 e39 => ?_)
                subst e39
                subst e34
                subst e33
                subst e32
                subst e31
                subst e28
                subst e26
                subst e25
                subst e23
                subst e1
                unfold layM layM2 layOK
                try rw [if_neg c2]
                try rw [if_neg c4]
                try rw [if_neg c24]
                try rw [if_pos c27]
                try rw [if_pos c29]
                try rw [if_neg c4]
                try rw [if_pos c35]
                exact tw_iret S hr hlocks hI dX7_lay_128
          · refine lv_aload_n hx hb dX7_lay_89 rfl (lv_at hl 1 rfl) ?_
            refine lv_iload hx hb dX7_lay_90 (lv_at hl 0 rfl) ?_
            refine tw_calli (tw_rV (As := [.int x28]) (rest := []) S hK hI kX7_93 (c_X7_refuse l D ad _ _ _ _) (t := 1000) (fs := mRoot _) rfl rfl rfl ⟨Nat.le_of_ble_eq_true rfl, Nat.le_of_ble_eq_true rfl⟩ ⟨Nat.le_of_ble_eq_true rfl, Nat.le_of_ble_eq_true rfl⟩ rfl hl.1 rfl (Nat.le_of_ble_eq_true rfl) dX7_lay_92) hI (fun H locs hI => ?_)
            refine lv_topi (fun x40 e40 => ?_)
            subst e40
            subst e28
            subst e26
            subst e25
            subst e23
            subst e1
            unfold layM layM2 layOK
            try rw [if_neg c2]
            try rw [if_neg c4]
            try rw [if_neg c24]
            try rw [if_pos c27]
            try rw [if_neg c29]
            exact tw_iret S hr hlocks hI dX7_lay_95
        · refine lv_iload_n hx hb dX7_lay_48 rfl (lv_at hl 3 rfl) ?_
          refine lv_iconst (v := (-1)) hx hb dX7_lay_49 (by decide) ?_
          refine lv_icmp_eq (tgt := 74) hx hb dX7_lay_50 (by decide) (fun c41 => ?_) (fun c41 => ?_)
          · exact absurd c41 c4
          · refine lv_aload_n hx hb dX7_lay_53 rfl (lv_at hl 0 rfl) ?_
            refine gm_7 S hK hI dX7_lay_54 ?_
            refine lv_iload_n hx hb dX7_lay_57 rfl (lv_at hl 3 rfl) ?_
            refine lm_1 S hK hI (by subst e26; subst e25; subst e23; subst e1; exact isItem_in (okM_acc hok) c24) dX7_lay_58 ?_
            refine lv_topi (fun x42 e42 => ?_)
            refine lv_aload_n hx hb dX7_lay_59 rfl (lv_at hl 0 rfl) ?_
            refine gm_7 S hK hI dX7_lay_60 ?_
            refine lv_iload_n hx hb dX7_lay_63 rfl (lv_at hl 1 rfl) ?_
            refine lm_1 S hK hI (by subst e42; subst e26; subst e25; subst e23; subst e1; exact isItem_in (okM_acc hok) c2) dX7_lay_64 ?_
            refine lv_topi (fun x43 e43 => ?_)
            refine tw_calli (tw_rS (As := [.int x43]) (rest := [.int x42, .int i, .int t, .ref (ad 1000)]) S hK hI kX7_121 (c_X7_wanted l D ad _ _ _) ⟨Nat.le_of_ble_eq_true rfl, Nat.le_of_ble_eq_true rfl⟩ ⟨Nat.le_of_ble_eq_true rfl, Nat.le_of_ble_eq_true rfl⟩ rfl hl.1 rfl (Nat.le_of_ble_eq_true rfl) dX7_lay_65) hI (fun H locs hI => ?_)
            refine lv_topi (fun x44 e44 => ?_)
            refine tw_calli (tw_rS (As := [.int x42, .int x44]) (rest := [.int i, .int t, .ref (ad 1000)]) S hK hI kX7_124 (c_X7_goes l D ad _ _ _ _) ⟨Nat.le_of_ble_eq_true rfl, Nat.le_of_ble_eq_true rfl⟩ ⟨Nat.le_of_ble_eq_true rfl, Nat.le_of_ble_eq_true rfl⟩ rfl hl.1 rfl (Nat.le_of_ble_eq_true rfl) dX7_lay_68) hI (fun H locs hI => ?_)
            refine lv_topi (fun x45 e45 => ?_)
            refine lv_if_eq (tgt := 78) hx hb dX7_lay_71 (by decide) (fun c46 => ?_) (fun c46 => ?_)
            · refine lv_iconst (v := 0) hx hb dX7_lay_78 (by decide) ?_
              refine tw_calli (tw_rV (As := [.int t, .int i, .int 0]) (rest := []) S hK hI kX7_110 (c_X7_wrongPlace l D ad _ _ _ _ _ _ (by subst e45; subst e44; subst e43; subst e42; subst e26; subst e25; subst e23; subst e1; exact isItem_in (okM_acc hok) c2)) (t := 1000) (fs := mRoot _) rfl rfl rfl ⟨Nat.le_of_ble_eq_true rfl, Nat.le_of_ble_eq_true rfl⟩ ⟨Nat.le_of_ble_eq_true rfl, Nat.le_of_ble_eq_true rfl⟩ rfl hl.1 rfl (Nat.le_of_ble_eq_true rfl) dX7_lay_79) hI (fun H locs hI => ?_)
              refine lv_topi (fun x47 e47 => ?_)
              refine lv_istore (lv' := [(4, .int x47), (0, .ref (ad 1000)), (1, .int t), (2, .int i), (3, .int x)]) hx hb dX7_lay_82 hl (by decide) rfl (fun ls hl => ?_)
              refine lv_iload hx hb dX7_lay_84 (lv_at hl 0 rfl) ?_
              refine lv_if_eq (tgt := 96) hx hb dX7_lay_86 (by decide) (fun c48 => ?_) (fun c48 => ?_)
              · refine lv_iload_n hx hb dX7_lay_96 rfl (lv_at hl 4 rfl) ?_
                refine lv_iconst (v := (-1)) hx hb dX7_lay_97 (by decide) ?_
                refine lv_icmp_eq (tgt := 129) hx hb dX7_lay_98 (by decide) (fun c49 => ?_) (fun c49 => ?_)
                · exact absurd c49 c4
                · refine lv_aload_n hx hb dX7_lay_101 rfl (lv_at hl 1 rfl) ?_
                  refine gm_7 S hK hI dX7_lay_102 ?_
                  refine lv_iload_n hx hb dX7_lay_105 rfl (lv_at hl 4 rfl) ?_
                  refine lm_1 S hK hI (by subst e47; subst e45; subst e44; subst e43; subst e42; subst e26; subst e25; subst e23; subst e1; exact isItem_in (okM_acc hok) c24) dX7_lay_106 ?_
                  refine lv_topi (fun x50 e50 => ?_)
                  refine lv_aload_n hx hb dX7_lay_107 rfl (lv_at hl 1 rfl) ?_
                  refine gm_7 S hK hI dX7_lay_108 ?_
                  refine lv_iload_n hx hb dX7_lay_111 rfl (lv_at hl 2 rfl) ?_
                  refine lm_1 S hK hI (by subst e50; subst e47; subst e45; subst e44; subst e43; subst e42; subst e26; subst e25; subst e23; subst e1; exact isItem_in (okM_acc hok) c2) dX7_lay_112 ?_
                  refine lv_topi (fun x51 e51 => ?_)
                  refine tw_calli (tw_rS (As := [.int x51]) (rest := [.int x50]) S hK hI kX7_128 (c_X7_holds l D ad _ _ _) ⟨Nat.le_of_ble_eq_true rfl, Nat.le_of_ble_eq_true rfl⟩ ⟨Nat.le_of_ble_eq_true rfl, Nat.le_of_ble_eq_true rfl⟩ rfl hl.1 rfl (Nat.le_of_ble_eq_true rfl) dX7_lay_113) hI (fun H locs hI => ?_)
                  refine lv_topi (fun x52 e52 => ?_)
                  refine tw_calli (tw_rS (As := [.int x50, .int x52]) (rest := []) S hK hI kX7_124 (c_X7_goes l D ad _ _ _ _) ⟨Nat.le_of_ble_eq_true rfl, Nat.le_of_ble_eq_true rfl⟩ ⟨Nat.le_of_ble_eq_true rfl, Nat.le_of_ble_eq_true rfl⟩ rfl hl.1 rfl (Nat.le_of_ble_eq_true rfl) dX7_lay_116) hI (fun H locs hI => ?_)
                  refine lv_topi (fun x53 e53 => ?_)
                  refine lv_if_ne (tgt := 129) hx hb dX7_lay_119 (by decide) (fun c54 => ?_) (fun c54 => ?_)
                  · refine lv_aload_n hx hb dX7_lay_129 rfl (lv_at hl 1 rfl) ?_
                    refine gm_19 S hK hI dX7_lay_130 ?_
                    refine lv_iconst (v := 3) hx hb dX7_lay_133 (by decide) ?_
                    refine lv_iload_n hx hb dX7_lay_134 rfl (lv_at hl 2 rfl) ?_
                    refine lv_imul hx hb dX7_lay_135 ?_
                    refine lv_topi (fun x55 e55 => ?_)
                    refine lv_iload_n hx hb dX7_lay_136 rfl (lv_at hl 3 rfl) ?_
                    refine lv_iadd hx hb dX7_lay_137 ?_
                    refine lv_topi (fun x56 e56 => ?_)
                    refine lv_iload_n hx hb dX7_lay_138 rfl (lv_at hl 4 rfl) ?_
                    refine lv_i2l hx hb dX7_lay_139 rfl ?_
                    refine lv_topl (fun x57 e57 => ?_)
                    refine sm_4 S hK hI (by subst e57; subst e56; subst e55; subst e53; subst e52; subst e51; subst e50; subst e47; subst e45; subst e44; subst e43; subst e42; subst e26; subst e25; subst e23; subst e1; exact bnd3 (isItem_in (okM_acc hok) c2) (wrong_in (okM_acc hok) (isItem_in (okM_acc hok) c2) c48)) dX7_lay_140 (fun H locs hI => ?_)
                    refine lv_iconst (v := 1) hx hb dX7_lay_141 (by decide) ?_
                    subst e57
                    subst e56
                    subst e55
                    subst e53
                    subst e52
                    subst e51
                    subst e50
                    subst e47
                    subst e45
                    subst e44
                    subst e43
                    subst e42
                    subst e26
                    subst e25
                    subst e23
                    subst e1
                    unfold layM layM2 layOK
                    try rw [if_neg c2]
                    try rw [if_neg c4]
                    try rw [if_neg c24]
                    try rw [if_neg c27]
                    try rw [if_neg c4]
                    try rw [if_pos c46]
                    try rw [if_pos c48]
                    try rw [if_neg c4]
                    try rw [if_neg c54]
                    exact tw_iret S hr hlocks hI dX7_lay_142
                  · refine lv_aload_n hx hb dX7_lay_122 rfl (lv_at hl 1 rfl) ?_
                    refine lv_bipush (v := (-6)) hx hb dX7_lay_123 (by decide) ?_
                    refine tw_calli (tw_rV (As := [.int (-6)]) (rest := []) S hK hI kX7_93 (c_X7_refuse l D ad _ _ _ _) (t := 1000) (fs := mRoot _) rfl rfl rfl ⟨Nat.le_of_ble_eq_true rfl, Nat.le_of_ble_eq_true rfl⟩ ⟨Nat.le_of_ble_eq_true rfl, Nat.le_of_ble_eq_true rfl⟩ rfl hl.1 rfl (Nat.le_of_ble_eq_true rfl) dX7_lay_125) hI (fun H locs hI => ?_)
                    refine lv_topi (fun x58 e58 => ?_)
                    subst e58
                    subst e53
                    subst e52
                    subst e51
                    subst e50
                    subst e47
                    subst e45
                    subst e44
                    subst e43
                    subst e42
                    subst e26
                    subst e25
                    subst e23
                    subst e1
                    unfold layM layM2 layOK
                    try rw [if_neg c2]
                    try rw [if_neg c4]
                    try rw [if_neg c24]
                    try rw [if_neg c27]
                    try rw [if_neg c4]
                    try rw [if_pos c46]
                    try rw [if_pos c48]
                    try rw [if_neg c4]
                    try rw [if_pos c54]
                    exact tw_iret S hr hlocks hI dX7_lay_128
              · refine lv_aload_n hx hb dX7_lay_89 rfl (lv_at hl 1 rfl) ?_
                refine lv_iload hx hb dX7_lay_90 (lv_at hl 0 rfl) ?_
                refine tw_calli (tw_rV (As := [.int x47]) (rest := []) S hK hI kX7_93 (c_X7_refuse l D ad _ _ _ _) (t := 1000) (fs := mRoot _) rfl rfl rfl ⟨Nat.le_of_ble_eq_true rfl, Nat.le_of_ble_eq_true rfl⟩ ⟨Nat.le_of_ble_eq_true rfl, Nat.le_of_ble_eq_true rfl⟩ rfl hl.1 rfl (Nat.le_of_ble_eq_true rfl) dX7_lay_92) hI (fun H locs hI => ?_)
                refine lv_topi (fun x59 e59 => ?_)
                subst e59
                subst e47
                subst e45
                subst e44
                subst e43
                subst e42
                subst e26
                subst e25
                subst e23
                subst e1
                unfold layM layM2 layOK
                try rw [if_neg c2]
                try rw [if_neg c4]
                try rw [if_neg c24]
                try rw [if_neg c27]
                try rw [if_neg c4]
                try rw [if_pos c46]
                try rw [if_neg c48]
                exact tw_iret S hr hlocks hI dX7_lay_95
            · refine lv_iconst (v := 1) hx hb dX7_lay_74 (by decide) ?_
              refine lv_goto (tgt := 79) hx hb dX7_lay_75 (by decide) ?_
              refine tw_calli (tw_rV (As := [.int t, .int i, .int 1]) (rest := []) S hK hI kX7_110 (c_X7_wrongPlace l D ad _ _ _ _ _ _ (by subst e45; subst e44; subst e43; subst e42; subst e26; subst e25; subst e23; subst e1; exact isItem_in (okM_acc hok) c2)) (t := 1000) (fs := mRoot _) rfl rfl rfl ⟨Nat.le_of_ble_eq_true rfl, Nat.le_of_ble_eq_true rfl⟩ ⟨Nat.le_of_ble_eq_true rfl, Nat.le_of_ble_eq_true rfl⟩ rfl hl.1 rfl (Nat.le_of_ble_eq_true rfl) dX7_lay_79) hI (fun H locs hI => ?_)
              refine lv_topi (fun x60 e60 => ?_)
              refine lv_istore (lv' := [(4, .int x60), (0, .ref (ad 1000)), (1, .int t), (2, .int i), (3, .int x)]) hx hb dX7_lay_82 hl (by decide) rfl (fun ls hl => ?_)
              refine lv_iload hx hb dX7_lay_84 (lv_at hl 0 rfl) ?_
              refine lv_if_eq (tgt := 96) hx hb dX7_lay_86 (by decide) (fun c61 => ?_) (fun c61 => ?_)
              · refine lv_iload_n hx hb dX7_lay_96 rfl (lv_at hl 4 rfl) ?_
                refine lv_iconst (v := (-1)) hx hb dX7_lay_97 (by decide) ?_
                refine lv_icmp_eq (tgt := 129) hx hb dX7_lay_98 (by decide) (fun c62 => ?_) (fun c62 => ?_)
                · exact absurd c62 c4
                · refine lv_aload_n hx hb dX7_lay_101 rfl (lv_at hl 1 rfl) ?_
                  refine gm_7 S hK hI dX7_lay_102 ?_
                  refine lv_iload_n hx hb dX7_lay_105 rfl (lv_at hl 4 rfl) ?_
                  refine lm_1 S hK hI (by subst e60; subst e45; subst e44; subst e43; subst e42; subst e26; subst e25; subst e23; subst e1; exact isItem_in (okM_acc hok) c24) dX7_lay_106 ?_
                  refine lv_topi (fun x63 e63 => ?_)
                  refine lv_aload_n hx hb dX7_lay_107 rfl (lv_at hl 1 rfl) ?_
                  refine gm_7 S hK hI dX7_lay_108 ?_
                  refine lv_iload_n hx hb dX7_lay_111 rfl (lv_at hl 2 rfl) ?_
                  refine lm_1 S hK hI (by subst e63; subst e60; subst e45; subst e44; subst e43; subst e42; subst e26; subst e25; subst e23; subst e1; exact isItem_in (okM_acc hok) c2) dX7_lay_112 ?_
                  refine lv_topi (fun x64 e64 => ?_)
                  refine tw_calli (tw_rS (As := [.int x64]) (rest := [.int x63]) S hK hI kX7_128 (c_X7_holds l D ad _ _ _) ⟨Nat.le_of_ble_eq_true rfl, Nat.le_of_ble_eq_true rfl⟩ ⟨Nat.le_of_ble_eq_true rfl, Nat.le_of_ble_eq_true rfl⟩ rfl hl.1 rfl (Nat.le_of_ble_eq_true rfl) dX7_lay_113) hI (fun H locs hI => ?_)
                  refine lv_topi (fun x65 e65 => ?_)
                  refine tw_calli (tw_rS (As := [.int x63, .int x65]) (rest := []) S hK hI kX7_124 (c_X7_goes l D ad _ _ _ _) ⟨Nat.le_of_ble_eq_true rfl, Nat.le_of_ble_eq_true rfl⟩ ⟨Nat.le_of_ble_eq_true rfl, Nat.le_of_ble_eq_true rfl⟩ rfl hl.1 rfl (Nat.le_of_ble_eq_true rfl) dX7_lay_116) hI (fun H locs hI => ?_)
                  refine lv_topi (fun x66 e66 => ?_)
                  refine lv_if_ne (tgt := 129) hx hb dX7_lay_119 (by decide) (fun c67 => ?_) (fun c67 => ?_)
                  · refine lv_aload_n hx hb dX7_lay_129 rfl (lv_at hl 1 rfl) ?_
                    refine gm_19 S hK hI dX7_lay_130 ?_
                    refine lv_iconst (v := 3) hx hb dX7_lay_133 (by decide) ?_
                    refine lv_iload_n hx hb dX7_lay_134 rfl (lv_at hl 2 rfl) ?_
                    refine lv_imul hx hb dX7_lay_135 ?_
                    refine lv_topi (fun x68 e68 => ?_)
                    refine lv_iload_n hx hb dX7_lay_136 rfl (lv_at hl 3 rfl) ?_
                    refine lv_iadd hx hb dX7_lay_137 ?_
                    refine lv_topi (fun x69 e69 => ?_)
                    refine lv_iload_n hx hb dX7_lay_138 rfl (lv_at hl 4 rfl) ?_
                    refine lv_i2l hx hb dX7_lay_139 rfl ?_
                    refine lv_topl (fun x70 e70 => ?_)
                    refine sm_4 S hK hI (by subst e70; subst e69; subst e68; subst e66; subst e65; subst e64; subst e63; subst e60; subst e45; subst e44; subst e43; subst e42; subst e26; subst e25; subst e23; subst e1; exact bnd3 (isItem_in (okM_acc hok) c2) (wrong_in (okM_acc hok) (isItem_in (okM_acc hok) c2) c61)) dX7_lay_140 (fun H locs hI => ?_)
                    refine lv_iconst (v := 1) hx hb dX7_lay_141 (by decide) ?_
                    subst e70
                    subst e69
                    subst e68
                    subst e66
                    subst e65
                    subst e64
                    subst e63
                    subst e60
                    subst e45
                    subst e44
                    subst e43
                    subst e42
                    subst e26
                    subst e25
                    subst e23
                    subst e1
                    unfold layM layM2 layOK
                    try rw [if_neg c2]
                    try rw [if_neg c4]
                    try rw [if_neg c24]
                    try rw [if_neg c27]
                    try rw [if_neg c4]
                    try rw [if_neg c46]
                    try rw [if_pos c61]
                    try rw [if_neg c4]
                    try rw [if_neg c67]
                    exact tw_iret S hr hlocks hI dX7_lay_142
                  · refine lv_aload_n hx hb dX7_lay_122 rfl (lv_at hl 1 rfl) ?_
                    refine lv_bipush (v := (-6)) hx hb dX7_lay_123 (by decide) ?_
                    refine tw_calli (tw_rV (As := [.int (-6)]) (rest := []) S hK hI kX7_93 (c_X7_refuse l D ad _ _ _ _) (t := 1000) (fs := mRoot _) rfl rfl rfl ⟨Nat.le_of_ble_eq_true rfl, Nat.le_of_ble_eq_true rfl⟩ ⟨Nat.le_of_ble_eq_true rfl, Nat.le_of_ble_eq_true rfl⟩ rfl hl.1 rfl (Nat.le_of_ble_eq_true rfl) dX7_lay_125) hI (fun H locs hI => ?_)
                    refine lv_topi (fun x71 e71 => ?_)
                    subst e71
                    subst e66
                    subst e65
                    subst e64
                    subst e63
                    subst e60
                    subst e45
                    subst e44
                    subst e43
                    subst e42
                    subst e26
                    subst e25
                    subst e23
                    subst e1
                    unfold layM layM2 layOK
                    try rw [if_neg c2]
                    try rw [if_neg c4]
                    try rw [if_neg c24]
                    try rw [if_neg c27]
                    try rw [if_neg c4]
                    try rw [if_neg c46]
                    try rw [if_pos c61]
                    try rw [if_neg c4]
                    try rw [if_pos c67]
                    exact tw_iret S hr hlocks hI dX7_lay_128
              · refine lv_aload_n hx hb dX7_lay_89 rfl (lv_at hl 1 rfl) ?_
                refine lv_iload hx hb dX7_lay_90 (lv_at hl 0 rfl) ?_
                refine tw_calli (tw_rV (As := [.int x60]) (rest := []) S hK hI kX7_93 (c_X7_refuse l D ad _ _ _ _) (t := 1000) (fs := mRoot _) rfl rfl rfl ⟨Nat.le_of_ble_eq_true rfl, Nat.le_of_ble_eq_true rfl⟩ ⟨Nat.le_of_ble_eq_true rfl, Nat.le_of_ble_eq_true rfl⟩ rfl hl.1 rfl (Nat.le_of_ble_eq_true rfl) dX7_lay_92) hI (fun H locs hI => ?_)
                refine lv_topi (fun x72 e72 => ?_)
                subst e72
                subst e60
                subst e45
                subst e44
                subst e43
                subst e42
                subst e26
                subst e25
                subst e23
                subst e1
                unfold layM layM2 layOK
                try rw [if_neg c2]
                try rw [if_neg c4]
                try rw [if_neg c24]
                try rw [if_neg c27]
                try rw [if_neg c4]
                try rw [if_neg c46]
                try rw [if_neg c61]
                exact tw_iret S hr hlocks hI dX7_lay_95
      · refine lv_aload_n hx hb dX7_lay_26 rfl (lv_at hl 0 rfl) ?_
        refine lv_bipush (v := (-2)) hx hb dX7_lay_27 (by decide) ?_
        refine tw_calli (tw_rV (As := [.int (-2)]) (rest := []) S hK hI kX7_93 (c_X7_refuse l D ad _ _ _ _) (t := 1000) (fs := mRoot _) rfl rfl rfl ⟨Nat.le_of_ble_eq_true rfl, Nat.le_of_ble_eq_true rfl⟩ ⟨Nat.le_of_ble_eq_true rfl, Nat.le_of_ble_eq_true rfl⟩ rfl hl.1 rfl (Nat.le_of_ble_eq_true rfl) dX7_lay_29) hI (fun H locs hI => ?_)
        refine lv_topi (fun x73 e73 => ?_)
        subst e73
        subst e23
        subst e1
        unfold layM layM2 layOK
        try rw [if_neg c2]
        try rw [if_neg c4]
        try rw [if_pos c24]
        exact tw_iret S hr hlocks hI dX7_lay_32

set_option maxHeartbeats 2000000 in
set_option maxRecDepth 100000 in
theorem c_X7_settle (l : Launch) (D : tw_G) (ad : Nat → Nat) (b : tw_W) (σ : Sg) (sz : Nat) (d : Int32) (f : Int32) (a : Int32) (q : Int32) (hd : vp_in d 32) (hq : narrow .boolean (.int q) = .int q) : Met l yX7_settle (tw_w yX7_settle cX7_settle 5 none) (tw_R 0 0 0) (tw_Pc D ad (wM b σ) sz [.ref (ad 1000), .int d, .int f, .int a, .int q]) (tw_Q D ad (wM b (settleM σ d f a q)) (tw_A ad (wM b σ) sz) none) 0 0 (tw_A ad (wM b σ) sz) := by
  refine tw_met (by decide) rfl (by simp [lg_sl, Value.category]) (fun p e s m below meth c ls S hK hr hlocks hnm hsz hI hl => ?_)
  have hx := S.1
  have hb := S.2.1
  have hl : lv_has ls 5 [(0, .ref (ad 1000)), (1, .int d), (2, .int f), (3, .int a), (4, .int q)] := hl
  refine lv_aload_n hx hb dX7_settle_0 rfl (lv_at hl 0 rfl) ?_
  refine gm_26 S hK hI dX7_settle_1 ?_
  refine lv_iload_n hx hb dX7_settle_4 rfl (lv_at hl 1 rfl) ?_
  refine lv_iload_n hx hb dX7_settle_5 rfl (lv_at hl 2 rfl) ?_
  refine sm_6 S hK hI hd dX7_settle_6 (fun H locs hI => ?_)
  refine lv_aload_n hx hb dX7_settle_7 rfl (lv_at hl 0 rfl) ?_
  refine gm_29 S hK hI dX7_settle_8 ?_
  refine lv_iload_n hx hb dX7_settle_11 rfl (lv_at hl 1 rfl) ?_
  refine lv_iload_n hx hb dX7_settle_12 rfl (lv_at hl 3 rfl) ?_
  refine sm_7 S hK hI hd dX7_settle_13 (fun H locs hI => ?_)
  refine lv_aload_n hx hb dX7_settle_14 rfl (lv_at hl 0 rfl) ?_
  refine gm_32 S hK hI dX7_settle_15 ?_
  refine lv_iload_n hx hb dX7_settle_18 rfl (lv_at hl 1 rfl) ?_
  refine lv_iload hx hb dX7_settle_19 (lv_at hl 4 rfl) ?_
  refine sm_8 S hK hI hd hq dX7_settle_21 (fun H locs hI => ?_)
  unfold settleM
  exact tw_vret S hr hlocks hI dX7_settle_22

set_option maxHeartbeats 2000000 in
set_option maxRecDepth 100000 in
theorem c_X7_desk (l : Launch) (D : tw_G) (ad : Nat → Nat) (b : tw_W) (σ : Sg) (sz : Nat) (r : Int32) (f : Int32) (a : Int32) (q : Int32) (hok : okM σ) (hq : narrow .boolean (.int q) = .int q) : Met l yX7_desk (tw_w yX7_desk cX7_desk 6 (some .int)) (tw_R 3 0 0) (tw_Pc D ad (wM b σ) sz [.ref (ad 1000), .int r, .int f, .int a, .int q]) (tw_Q D ad (wM b ((deskM σ r f a q).2)) (tw_A ad (wM b σ) sz) (some (.int ((deskM σ r f a q).1)))) 0 0 (tw_A ad (wM b σ) sz) := by
  refine tw_met (by decide) rfl (by simp [lg_sl, Value.category]) (fun p e s m below meth c ls S hK hr hlocks hnm hsz hI hl => ?_)
  have hx := S.1
  have hb := S.2.1
  have hl : lv_has ls 6 [(0, .ref (ad 1000)), (1, .int r), (2, .int f), (3, .int a), (4, .int q)] := hl
  refine lv_aload_n hx hb dX7_desk_0 rfl (lv_at hl 0 rfl) ?_
  refine lv_iconst (v := 0) hx hb dX7_desk_1 (by decide) ?_
  refine pm_77 S hK hI dX7_desk_2 (fun H locs hI => ?_)
  refine lv_iload_n hx hb dX7_desk_5 rfl (lv_at hl 1 rfl) ?_
  refine tw_calli (tw_rS (As := [.int r]) (rest := []) S hK hI kX7_131 (c_X7_isRoom l D ad _ _ _) ⟨Nat.le_of_ble_eq_true rfl, Nat.le_of_ble_eq_true rfl⟩ ⟨Nat.le_of_ble_eq_true rfl, Nat.le_of_ble_eq_true rfl⟩ rfl hl.1 rfl (Nat.le_of_ble_eq_true rfl) dX7_desk_6) hI (fun H locs hI => ?_)
  refine lv_topi (fun x1 e1 => ?_)
  refine lv_if_eq (tgt := 31) hx hb dX7_desk_9 (by decide) (fun c2 => ?_) (fun c2 => ?_)
  · refine lv_aload_n hx hb dX7_desk_31 rfl (lv_at hl 0 rfl) ?_
    refine lv_bipush (v := (-2)) hx hb dX7_desk_32 (by decide) ?_
    refine tw_calli (tw_rV (As := [.int (-2)]) (rest := []) S hK hI kX7_93 (c_X7_refuse l D ad _ _ _ _) (t := 1000) (fs := mRoot _) rfl rfl rfl ⟨Nat.le_of_ble_eq_true rfl, Nat.le_of_ble_eq_true rfl⟩ ⟨Nat.le_of_ble_eq_true rfl, Nat.le_of_ble_eq_true rfl⟩ rfl hl.1 rfl (Nat.le_of_ble_eq_true rfl) dX7_desk_34) hI (fun H locs hI => ?_)
    refine lv_topi (fun x3 e3 => ?_)
    subst e3
    subst e1
    unfold deskM desk4 desk3
    try rw [if_pos c2]
    exact tw_iret S hr hlocks hI dX7_desk_37
  · refine lv_iload_n hx hb dX7_desk_12 rfl (lv_at hl 2 rfl) ?_
    refine lv_iconst (v := 0) hx hb dX7_desk_13 (by decide) ?_
    refine lv_bipush (v := 13) hx hb dX7_desk_14 (by decide) ?_
    refine tw_calli (tw_rS (As := [.int f, .int 0, .int 13]) (rest := []) S hK hI kX7_73 (c_X7_isIn l D ad _ _ _ _ _) ⟨Nat.le_of_ble_eq_true rfl, Nat.le_of_ble_eq_true rfl⟩ ⟨Nat.le_of_ble_eq_true rfl, Nat.le_of_ble_eq_true rfl⟩ rfl hl.1 rfl (Nat.le_of_ble_eq_true rfl) dX7_desk_16) hI (fun H locs hI => ?_)
    refine lv_topi (fun x4 e4 => ?_)
    refine lv_if_eq (tgt := 31) hx hb dX7_desk_19 (by decide) (fun c5 => ?_) (fun c5 => ?_)
    · refine lv_aload_n hx hb dX7_desk_31 rfl (lv_at hl 0 rfl) ?_
      refine lv_bipush (v := (-2)) hx hb dX7_desk_32 (by decide) ?_
      refine tw_calli (tw_rV (As := [.int (-2)]) (rest := []) S hK hI kX7_93 (c_X7_refuse l D ad _ _ _ _) (t := 1000) (fs := mRoot _) rfl rfl rfl ⟨Nat.le_of_ble_eq_true rfl, Nat.le_of_ble_eq_true rfl⟩ ⟨Nat.le_of_ble_eq_true rfl, Nat.le_of_ble_eq_true rfl⟩ rfl hl.1 rfl (Nat.le_of_ble_eq_true rfl) dX7_desk_34) hI (fun H locs hI => ?_)
      refine lv_topi (fun x6 e6 => ?_)
      subst e6
      subst e4
      subst e1
      unfold deskM desk4 desk3
      try rw [if_neg c2]
      try rw [if_pos c5]
      exact tw_iret S hr hlocks hI dX7_desk_37
    · refine lv_iload_n hx hb dX7_desk_22 rfl (lv_at hl 3 rfl) ?_
      refine lv_iconst (v := 0) hx hb dX7_desk_23 (by decide) ?_
      refine lv_iconst (v := 4) hx hb dX7_desk_24 (by decide) ?_
      refine tw_calli (tw_rS (As := [.int a, .int 0, .int 4]) (rest := []) S hK hI kX7_73 (c_X7_isIn l D ad _ _ _ _ _) ⟨Nat.le_of_ble_eq_true rfl, Nat.le_of_ble_eq_true rfl⟩ ⟨Nat.le_of_ble_eq_true rfl, Nat.le_of_ble_eq_true rfl⟩ rfl hl.1 rfl (Nat.le_of_ble_eq_true rfl) dX7_desk_25) hI (fun H locs hI => ?_)
      refine lv_topi (fun x7 e7 => ?_)
      refine lv_if_ne (tgt := 38) hx hb dX7_desk_28 (by decide) (fun c8 => ?_) (fun c8 => ?_)
      · refine lv_aload_n hx hb dX7_desk_38 rfl (lv_at hl 0 rfl) ?_
        refine gm_23 S hK hI dX7_desk_39 ?_
        refine lv_iload_n hx hb dX7_desk_42 rfl (lv_at hl 1 rfl) ?_
        refine lm_5 S hK hI (by subst e7; subst e4; subst e1; exact isRoom_in c2) dX7_desk_43 ?_
        refine lv_topi (fun x9 e9 => ?_)
        refine lv_iconst (v := 4) hx hb dX7_desk_44 (by decide) ?_
        refine lv_icmp_ne (tgt := 55) hx hb dX7_desk_45 (by decide) (fun c10 => ?_) (fun c10 => ?_)
        · refine lv_iconst (v := 4) hx hb dX7_desk_55 (by decide) ?_
          refine lv_iload_n hx hb dX7_desk_56 rfl (lv_at hl 1 rfl) ?_
          refine lv_imul hx hb dX7_desk_57 ?_
          refine lv_topi (fun x11 e11 => ?_)
          refine lv_aload_n hx hb dX7_desk_58 rfl (lv_at hl 0 rfl) ?_
          refine gm_23 S hK hI dX7_desk_59 ?_
          refine lv_iload_n hx hb dX7_desk_62 rfl (lv_at hl 1 rfl) ?_
          refine lm_5 S hK hI (by subst e11; subst e9; subst e7; subst e4; subst e1; exact isRoom_in c2) dX7_desk_63 ?_
          refine lv_topi (fun x12 e12 => ?_)
          refine lv_iadd hx hb dX7_desk_64 ?_
          refine lv_topi (fun x13 e13 => ?_)
          refine lv_istore (lv' := [(5, .int x13), (0, .ref (ad 1000)), (1, .int r), (2, .int f), (3, .int a), (4, .int q)]) hx hb dX7_desk_65 hl (by decide) rfl (fun ls hl => ?_)
          refine lv_aload_n hx hb dX7_desk_67 rfl (lv_at hl 1 rfl) ?_
          refine lv_iload hx hb dX7_desk_68 (lv_at hl 0 rfl) ?_
          refine lv_iload_n hx hb dX7_desk_70 rfl (lv_at hl 3 rfl) ?_
          refine lv_iload_n hx hb dX7_desk_71 rfl (lv_at hl 4 rfl) ?_
          refine lv_iload hx hb dX7_desk_72 (lv_at hl 5 rfl) ?_
          refine tw_callv (tw_rV (As := [.int x13, .int f, .int a, .int q]) (rest := []) S hK hI kX7_134 (c_X7_settle l D ad _ _ _ _ _ _ _ (by subst e13; subst e12; subst e11; subst e9; subst e7; subst e4; subst e1; exact bnd4 (isRoom_in c2) (desk_new (okM_acc hok) c2 c10)) hq) (t := 1000) (fs := mRoot _) rfl rfl rfl ⟨Nat.le_of_ble_eq_true rfl, Nat.le_of_ble_eq_true rfl⟩ ⟨Nat.le_of_ble_eq_true rfl, Nat.le_of_ble_eq_true rfl⟩ rfl hl.1 rfl (Nat.le_of_ble_eq_true rfl) dX7_desk_74) hI (fun H locs hI => ?_)
          refine lv_aload_n hx hb dX7_desk_77 rfl (lv_at hl 1 rfl) ?_
          refine gm_36 S hK hI dX7_desk_78 ?_
          refine lv_iload hx hb dX7_desk_81 (lv_at hl 0 rfl) ?_
          refine lv_iconst (v := 0) hx hb dX7_desk_83 (by decide) ?_
          refine sm_9 S hK hI (by subst e13; subst e12; subst e11; subst e9; subst e7; subst e4; subst e1; exact bnd4 (isRoom_in c2) (desk_new (okM_acc hok) c2 c10)) dX7_desk_84 (fun H locs hI => ?_)
          refine lv_aload_n hx hb dX7_desk_85 rfl (lv_at hl 1 rfl) ?_
          refine gm_39 S hK hI dX7_desk_86 ?_
          refine lv_iload hx hb dX7_desk_89 (lv_at hl 0 rfl) ?_
          refine lv_iconst (v := (-1)) hx hb dX7_desk_91 (by decide) ?_
          refine sm_10 S hK hI (by subst e13; subst e12; subst e11; subst e9; subst e7; subst e4; subst e1; exact bnd4 (isRoom_in c2) (desk_new (okM_acc hok) c2 c10)) dX7_desk_92 (fun H locs hI => ?_)
          refine lv_aload_n hx hb dX7_desk_93 rfl (lv_at hl 1 rfl) ?_
          refine gm_42 S hK hI dX7_desk_94 ?_
          refine lv_iload hx hb dX7_desk_97 (lv_at hl 0 rfl) ?_
          refine lv_iconst (v := 0) hx hb dX7_desk_99 (by decide) ?_
          refine sm_11 S hK hI (by subst e13; subst e12; subst e11; subst e9; subst e7; subst e4; subst e1; exact bnd4 (isRoom_in c2) (desk_new (okM_acc hok) c2 c10)) dX7_desk_100 (fun H locs hI => ?_)
          refine lv_aload_n hx hb dX7_desk_101 rfl (lv_at hl 1 rfl) ?_
          refine gm_45 S hK hI dX7_desk_102 ?_
          refine lv_iload hx hb dX7_desk_105 (lv_at hl 0 rfl) ?_
          refine lv_iconst (v := 0) hx hb dX7_desk_107 (by decide) ?_
          refine sm_12 S hK hI (by subst e13; subst e12; subst e11; subst e9; subst e7; subst e4; subst e1; exact bnd4 (isRoom_in c2) (desk_new (okM_acc hok) c2 c10)) dX7_desk_108 (fun H locs hI => ?_)
          refine lv_aload_n hx hb dX7_desk_109 rfl (lv_at hl 1 rfl) ?_
          refine gm_48 S hK hI dX7_desk_110 ?_
          refine lv_iload hx hb dX7_desk_113 (lv_at hl 0 rfl) ?_
          refine lv_iconst (v := (-1)) hx hb dX7_desk_115 (by decide) ?_
          refine sm_13 S hK hI (by subst e13; subst e12; subst e11; subst e9; subst e7; subst e4; subst e1; exact bnd4 (isRoom_in c2) (desk_new (okM_acc hok) c2 c10)) dX7_desk_116 (fun H locs hI => ?_)
          refine lv_aload_n hx hb dX7_desk_117 rfl (lv_at hl 1 rfl) ?_
          refine gm_23 S hK hI dX7_desk_118 ?_
          refine lv_iload_n hx hb dX7_desk_121 rfl (lv_at hl 2 rfl) ?_
          refine lv_dup2_11 hx hb dX7_desk_122 rfl rfl ?_
          refine lm_5 S hK hI (by subst e13; subst e12; subst e11; subst e9; subst e7; subst e4; subst e1; exact isRoom_in c2) dX7_desk_123 ?_
          refine lv_topi (fun x14 e14 => ?_)
          refine lv_iconst (v := 1) hx hb dX7_desk_124 (by decide) ?_
          refine lv_iadd hx hb dX7_desk_125 ?_
          refine lv_topi (fun x15 e15 => ?_)
          refine sm_5 S hK hI (by subst e15; subst e14; subst e13; subst e12; subst e11; subst e9; subst e7; subst e4; subst e1; exact isRoom_in c2) dX7_desk_126 (fun H locs hI => ?_)
          refine lv_aload_n hx hb dX7_desk_127 rfl (lv_at hl 1 rfl) ?_
          refine gm_23 S hK hI dX7_desk_128 ?_
          refine lv_iload_n hx hb dX7_desk_131 rfl (lv_at hl 2 rfl) ?_
          refine lm_5 S hK hI (by subst e15; subst e14; subst e13; subst e12; subst e11; subst e9; subst e7; subst e4; subst e1; exact isRoom_in c2) dX7_desk_132 ?_
          refine lv_topi (fun x16 e16 => ?_)
          refine lv_iconst (v := 1) hx hb dX7_desk_133 (by decide) ?_
          refine lv_isub hx hb dX7_desk_134 ?_
          refine lv_topi (fun x17 e17 => ?_)
          subst e17
          subst e16
          subst e15
          subst e14
          subst e13
          subst e12
          subst e11
          subst e9
          subst e7
          subst e4
          subst e1
          unfold deskM desk4 desk3
          try rw [if_neg c2]
          try rw [if_neg c5]
          try rw [if_neg c8]
          try rw [if_neg c10]
          exact tw_iret S hr hlocks hI dX7_desk_135
        · refine lv_aload_n hx hb dX7_desk_48 rfl (lv_at hl 0 rfl) ?_
          refine lv_bipush (v := (-3)) hx hb dX7_desk_49 (by decide) ?_
          refine tw_calli (tw_rV (As := [.int (-3)]) (rest := []) S hK hI kX7_93 (c_X7_refuse l D ad _ _ _ _) (t := 1000) (fs := mRoot _) rfl rfl rfl ⟨Nat.le_of_ble_eq_true rfl, Nat.le_of_ble_eq_true rfl⟩ ⟨Nat.le_of_ble_eq_true rfl, Nat.le_of_ble_eq_true rfl⟩ rfl hl.1 rfl (Nat.le_of_ble_eq_true rfl) dX7_desk_51) hI (fun H locs hI => ?_)
          refine lv_topi (fun x18 e18 => ?_)
          subst e18
          subst e9
          subst e7
          subst e4
          subst e1
          unfold deskM desk4 desk3
          try rw [if_neg c2]
          try rw [if_neg c5]
          try rw [if_neg c8]
          try rw [if_pos c10]
          exact tw_iret S hr hlocks hI dX7_desk_54
      · refine lv_aload_n hx hb dX7_desk_31 rfl (lv_at hl 0 rfl) ?_
        refine lv_bipush (v := (-2)) hx hb dX7_desk_32 (by decide) ?_
        refine tw_calli (tw_rV (As := [.int (-2)]) (rest := []) S hK hI kX7_93 (c_X7_refuse l D ad _ _ _ _) (t := 1000) (fs := mRoot _) rfl rfl rfl ⟨Nat.le_of_ble_eq_true rfl, Nat.le_of_ble_eq_true rfl⟩ ⟨Nat.le_of_ble_eq_true rfl, Nat.le_of_ble_eq_true rfl⟩ rfl hl.1 rfl (Nat.le_of_ble_eq_true rfl) dX7_desk_34) hI (fun H locs hI => ?_)
        refine lv_topi (fun x19 e19 => ?_)
        subst e19
        subst e7
        subst e4
        subst e1
        unfold deskM desk4 desk3
        try rw [if_neg c2]
        try rw [if_neg c5]
        try rw [if_pos c8]
        exact tw_iret S hr hlocks hI dX7_desk_37

set_option maxHeartbeats 2000000 in
set_option maxRecDepth 100000 in
theorem c_X7_change (l : Launch) (D : tw_G) (ad : Nat → Nat) (b : tw_W) (σ : Sg) (sz : Nat) (r : Int32) (d : Int32) (f : Int32) (a : Int32) (q : Int32) (hok : okM σ) (hq : narrow .boolean (.int q) = .int q) : Met l yX7_change (tw_w yX7_change cX7_change 6 (some .int)) (tw_R 3 0 0) (tw_Pc D ad (wM b σ) sz [.ref (ad 1000), .int r, .int d, .int f, .int a, .int q]) (tw_Q D ad (wM b ((changeM σ r d f a q).2)) (tw_A ad (wM b σ) sz) (some (.int ((changeM σ r d f a q).1)))) 0 0 (tw_A ad (wM b σ) sz) := by
  refine tw_met (by decide) rfl (by simp [lg_sl, Value.category]) (fun p e s m below meth c ls S hK hr hlocks hnm hsz hI hl => ?_)
  have hx := S.1
  have hb := S.2.1
  have hl : lv_has ls 6 [(0, .ref (ad 1000)), (1, .int r), (2, .int d), (3, .int f), (4, .int a), (5, .int q)] := hl
  refine lv_aload_n hx hb dX7_change_0 rfl (lv_at hl 0 rfl) ?_
  refine lv_iconst (v := 0) hx hb dX7_change_1 (by decide) ?_
  refine pm_77 S hK hI dX7_change_2 (fun H locs hI => ?_)
  refine lv_iload_n hx hb dX7_change_5 rfl (lv_at hl 1 rfl) ?_
  refine tw_calli (tw_rS (As := [.int r]) (rest := []) S hK hI kX7_131 (c_X7_isRoom l D ad _ _ _) ⟨Nat.le_of_ble_eq_true rfl, Nat.le_of_ble_eq_true rfl⟩ ⟨Nat.le_of_ble_eq_true rfl, Nat.le_of_ble_eq_true rfl⟩ rfl hl.1 rfl (Nat.le_of_ble_eq_true rfl) dX7_change_6) hI (fun H locs hI => ?_)
  refine lv_topi (fun x1 e1 => ?_)
  refine lv_if_eq (tgt := 48) hx hb dX7_change_9 (by decide) (fun c2 => ?_) (fun c2 => ?_)
  · refine lv_aload_n hx hb dX7_change_48 rfl (lv_at hl 0 rfl) ?_
    refine lv_bipush (v := (-2)) hx hb dX7_change_49 (by decide) ?_
    refine tw_calli (tw_rV (As := [.int (-2)]) (rest := []) S hK hI kX7_93 (c_X7_refuse l D ad _ _ _ _) (t := 1000) (fs := mRoot _) rfl rfl rfl ⟨Nat.le_of_ble_eq_true rfl, Nat.le_of_ble_eq_true rfl⟩ ⟨Nat.le_of_ble_eq_true rfl, Nat.le_of_ble_eq_true rfl⟩ rfl hl.1 rfl (Nat.le_of_ble_eq_true rfl) dX7_change_51) hI (fun H locs hI => ?_)
    refine lv_topi (fun x3 e3 => ?_)
    subst e3
    subst e1
    unfold changeM
    try rw [if_pos c2]
    exact tw_iret S hr hlocks hI dX7_change_54
  · refine lv_iload_n hx hb dX7_change_12 rfl (lv_at hl 2 rfl) ?_
    refine lv_iconst (v := 0) hx hb dX7_change_13 (by decide) ?_
    refine lv_aload_n hx hb dX7_change_14 rfl (lv_at hl 0 rfl) ?_
    refine gm_23 S hK hI dX7_change_15 ?_
    refine lv_iload_n hx hb dX7_change_18 rfl (lv_at hl 1 rfl) ?_
    refine lm_5 S hK hI (by subst e1; exact isRoom_in c2) dX7_change_19 ?_
    refine lv_topi (fun x4 e4 => ?_)
    refine lv_iconst (v := 1) hx hb dX7_change_20 (by decide) ?_
    refine lv_isub hx hb dX7_change_21 ?_
    refine lv_topi (fun x5 e5 => ?_)
    refine tw_calli (tw_rS (As := [.int d, .int 0, .int x5]) (rest := []) S hK hI kX7_73 (c_X7_isIn l D ad _ _ _ _ _) ⟨Nat.le_of_ble_eq_true rfl, Nat.le_of_ble_eq_true rfl⟩ ⟨Nat.le_of_ble_eq_true rfl, Nat.le_of_ble_eq_true rfl⟩ rfl hl.1 rfl (Nat.le_of_ble_eq_true rfl) dX7_change_22) hI (fun H locs hI => ?_)
    refine lv_topi (fun x6 e6 => ?_)
    refine lv_if_eq (tgt := 48) hx hb dX7_change_25 (by decide) (fun c7 => ?_) (fun c7 => ?_)
    · refine lv_aload_n hx hb dX7_change_48 rfl (lv_at hl 0 rfl) ?_
      refine lv_bipush (v := (-2)) hx hb dX7_change_49 (by decide) ?_
      refine tw_calli (tw_rV (As := [.int (-2)]) (rest := []) S hK hI kX7_93 (c_X7_refuse l D ad _ _ _ _) (t := 1000) (fs := mRoot _) rfl rfl rfl ⟨Nat.le_of_ble_eq_true rfl, Nat.le_of_ble_eq_true rfl⟩ ⟨Nat.le_of_ble_eq_true rfl, Nat.le_of_ble_eq_true rfl⟩ rfl hl.1 rfl (Nat.le_of_ble_eq_true rfl) dX7_change_51) hI (fun H locs hI => ?_)
      refine lv_topi (fun x8 e8 => ?_)
      subst e8
      subst e6
      subst e5
      subst e4
      subst e1
      unfold changeM
      try rw [if_neg c2]
      try rw [if_pos c7]
      exact tw_iret S hr hlocks hI dX7_change_54
    · refine lv_iload_n hx hb dX7_change_28 rfl (lv_at hl 3 rfl) ?_
      refine lv_iconst (v := 0) hx hb dX7_change_29 (by decide) ?_
      refine lv_bipush (v := 13) hx hb dX7_change_30 (by decide) ?_
      refine tw_calli (tw_rS (As := [.int f, .int 0, .int 13]) (rest := []) S hK hI kX7_73 (c_X7_isIn l D ad _ _ _ _ _) ⟨Nat.le_of_ble_eq_true rfl, Nat.le_of_ble_eq_true rfl⟩ ⟨Nat.le_of_ble_eq_true rfl, Nat.le_of_ble_eq_true rfl⟩ rfl hl.1 rfl (Nat.le_of_ble_eq_true rfl) dX7_change_32) hI (fun H locs hI => ?_)
      refine lv_topi (fun x9 e9 => ?_)
      refine lv_if_eq (tgt := 48) hx hb dX7_change_35 (by decide) (fun c10 => ?_) (fun c10 => ?_)
      · refine lv_aload_n hx hb dX7_change_48 rfl (lv_at hl 0 rfl) ?_
        refine lv_bipush (v := (-2)) hx hb dX7_change_49 (by decide) ?_
        refine tw_calli (tw_rV (As := [.int (-2)]) (rest := []) S hK hI kX7_93 (c_X7_refuse l D ad _ _ _ _) (t := 1000) (fs := mRoot _) rfl rfl rfl ⟨Nat.le_of_ble_eq_true rfl, Nat.le_of_ble_eq_true rfl⟩ ⟨Nat.le_of_ble_eq_true rfl, Nat.le_of_ble_eq_true rfl⟩ rfl hl.1 rfl (Nat.le_of_ble_eq_true rfl) dX7_change_51) hI (fun H locs hI => ?_)
        refine lv_topi (fun x11 e11 => ?_)
        subst e11
        subst e9
        subst e6
        subst e5
        subst e4
        subst e1
        unfold changeM
        try rw [if_neg c2]
        try rw [if_neg c7]
        try rw [if_pos c10]
        exact tw_iret S hr hlocks hI dX7_change_54
      · refine lv_iload hx hb dX7_change_38 (lv_at hl 4 rfl) ?_
        refine lv_iconst (v := 0) hx hb dX7_change_40 (by decide) ?_
        refine lv_iconst (v := 4) hx hb dX7_change_41 (by decide) ?_
        refine tw_calli (tw_rS (As := [.int a, .int 0, .int 4]) (rest := []) S hK hI kX7_73 (c_X7_isIn l D ad _ _ _ _ _) ⟨Nat.le_of_ble_eq_true rfl, Nat.le_of_ble_eq_true rfl⟩ ⟨Nat.le_of_ble_eq_true rfl, Nat.le_of_ble_eq_true rfl⟩ rfl hl.1 rfl (Nat.le_of_ble_eq_true rfl) dX7_change_42) hI (fun H locs hI => ?_)
        refine lv_topi (fun x12 e12 => ?_)
        refine lv_if_ne (tgt := 55) hx hb dX7_change_45 (by decide) (fun c13 => ?_) (fun c13 => ?_)
        · refine lv_aload_n hx hb dX7_change_55 rfl (lv_at hl 0 rfl) ?_
          refine lv_iconst (v := 4) hx hb dX7_change_56 (by decide) ?_
          refine lv_iload_n hx hb dX7_change_57 rfl (lv_at hl 1 rfl) ?_
          refine lv_imul hx hb dX7_change_58 ?_
          refine lv_topi (fun x14 e14 => ?_)
          refine lv_iload_n hx hb dX7_change_59 rfl (lv_at hl 2 rfl) ?_
          refine lv_iadd hx hb dX7_change_60 ?_
          refine lv_topi (fun x15 e15 => ?_)
          refine lv_iload_n hx hb dX7_change_61 rfl (lv_at hl 3 rfl) ?_
          refine lv_iload hx hb dX7_change_62 (lv_at hl 4 rfl) ?_
          refine lv_iload hx hb dX7_change_64 (lv_at hl 5 rfl) ?_
          refine tw_callv (tw_rV (As := [.int x15, .int f, .int a, .int q]) (rest := []) S hK hI kX7_134 (c_X7_settle l D ad _ _ _ _ _ _ _ (by subst e15; subst e14; subst e12; subst e9; subst e6; subst e5; subst e4; subst e1; exact bnd4 (isRoom_in c2) (desk_in hok c2 c7)) hq) (t := 1000) (fs := mRoot _) rfl rfl rfl ⟨Nat.le_of_ble_eq_true rfl, Nat.le_of_ble_eq_true rfl⟩ ⟨Nat.le_of_ble_eq_true rfl, Nat.le_of_ble_eq_true rfl⟩ rfl hl.1 rfl (Nat.le_of_ble_eq_true rfl) dX7_change_66) hI (fun H locs hI => ?_)
          refine lv_iconst (v := 1) hx hb dX7_change_69 (by decide) ?_
          subst e15
          subst e14
          subst e12
          subst e9
          subst e6
          subst e5
          subst e4
          subst e1
          unfold changeM
          try rw [if_neg c2]
          try rw [if_neg c7]
          try rw [if_neg c10]
          try rw [if_neg c13]
          exact tw_iret S hr hlocks hI dX7_change_70
        · refine lv_aload_n hx hb dX7_change_48 rfl (lv_at hl 0 rfl) ?_
          refine lv_bipush (v := (-2)) hx hb dX7_change_49 (by decide) ?_
          refine tw_calli (tw_rV (As := [.int (-2)]) (rest := []) S hK hI kX7_93 (c_X7_refuse l D ad _ _ _ _) (t := 1000) (fs := mRoot _) rfl rfl rfl ⟨Nat.le_of_ble_eq_true rfl, Nat.le_of_ble_eq_true rfl⟩ ⟨Nat.le_of_ble_eq_true rfl, Nat.le_of_ble_eq_true rfl⟩ rfl hl.1 rfl (Nat.le_of_ble_eq_true rfl) dX7_change_51) hI (fun H locs hI => ?_)
          refine lv_topi (fun x16 e16 => ?_)
          subst e16
          subst e12
          subst e9
          subst e6
          subst e5
          subst e4
          subst e1
          unfold changeM
          try rw [if_neg c2]
          try rw [if_neg c7]
          try rw [if_neg c10]
          try rw [if_pos c13]
          exact tw_iret S hr hlocks hI dX7_change_54

set_option maxHeartbeats 2000000 in
set_option maxRecDepth 100000 in
theorem c_X7_told (l : Launch) (D : tw_G) (ad : Nat → Nat) (b : tw_W) (σ : Sg) (sz : Nat) (r : Int32) (d : Int32) (wh : Int32) (hok : okM σ) : Met l yX7_told (tw_w yX7_told cX7_told 5 (some .int)) (tw_R 3 0 0) (tw_Pc D ad (wM b σ) sz [.ref (ad 1000), .int r, .int d, .int wh]) (tw_Q D ad (wM b (σ)) (tw_A ad (wM b σ) sz) (some (.int (toldM σ r d wh)))) 0 0 (tw_A ad (wM b σ) sz) := by
  refine tw_met (by decide) rfl (by simp [lg_sl, Value.category]) (fun p e s m below meth c ls S hK hr hlocks hnm hsz hI hl => ?_)
  have hx := S.1
  have hb := S.2.1
  have hl : lv_has ls 5 [(0, .ref (ad 1000)), (1, .int r), (2, .int d), (3, .int wh)] := hl
  refine lv_iload_n hx hb dX7_told_0 rfl (lv_at hl 1 rfl) ?_
  refine tw_calli (tw_rS (As := [.int r]) (rest := []) S hK hI kX7_131 (c_X7_isRoom l D ad _ _ _) ⟨Nat.le_of_ble_eq_true rfl, Nat.le_of_ble_eq_true rfl⟩ ⟨Nat.le_of_ble_eq_true rfl, Nat.le_of_ble_eq_true rfl⟩ rfl hl.1 rfl (Nat.le_of_ble_eq_true rfl) dX7_told_1) hI (fun H locs hI => ?_)
  refine lv_topi (fun x1 e1 => ?_)
  refine lv_if_eq (tgt := 23) hx hb dX7_told_4 (by decide) (fun c2 => ?_) (fun c2 => ?_)
  · refine lv_bipush (v := (-2)) hx hb dX7_told_23 (by decide) ?_
    subst e1
    unfold toldM toldV
    try rw [if_pos c2]
    exact tw_iret S hr hlocks hI dX7_told_25
  · refine lv_iload_n hx hb dX7_told_7 rfl (lv_at hl 2 rfl) ?_
    refine lv_iconst (v := 0) hx hb dX7_told_8 (by decide) ?_
    refine lv_aload_n hx hb dX7_told_9 rfl (lv_at hl 0 rfl) ?_
    refine gm_23 S hK hI dX7_told_10 ?_
    refine lv_iload_n hx hb dX7_told_13 rfl (lv_at hl 1 rfl) ?_
    refine lm_5 S hK hI (by subst e1; exact isRoom_in c2) dX7_told_14 ?_
    refine lv_topi (fun x3 e3 => ?_)
    refine lv_iconst (v := 1) hx hb dX7_told_15 (by decide) ?_
    refine lv_isub hx hb dX7_told_16 ?_
    refine lv_topi (fun x4 e4 => ?_)
    refine tw_calli (tw_rS (As := [.int d, .int 0, .int x4]) (rest := []) S hK hI kX7_73 (c_X7_isIn l D ad _ _ _ _ _) ⟨Nat.le_of_ble_eq_true rfl, Nat.le_of_ble_eq_true rfl⟩ ⟨Nat.le_of_ble_eq_true rfl, Nat.le_of_ble_eq_true rfl⟩ rfl hl.1 rfl (Nat.le_of_ble_eq_true rfl) dX7_told_17) hI (fun H locs hI => ?_)
    refine lv_topi (fun x5 e5 => ?_)
    refine lv_if_ne (tgt := 26) hx hb dX7_told_20 (by decide) (fun c6 => ?_) (fun c6 => ?_)
    · refine lv_iconst (v := 4) hx hb dX7_told_26 (by decide) ?_
      refine lv_iload_n hx hb dX7_told_27 rfl (lv_at hl 1 rfl) ?_
      refine lv_imul hx hb dX7_told_28 ?_
      refine lv_topi (fun x7 e7 => ?_)
      refine lv_iload_n hx hb dX7_told_29 rfl (lv_at hl 2 rfl) ?_
      refine lv_iadd hx hb dX7_told_30 ?_
      refine lv_topi (fun x8 e8 => ?_)
      refine lv_istore (lv' := [(4, .int x8), (0, .ref (ad 1000)), (1, .int r), (2, .int d), (3, .int wh)]) hx hb dX7_told_31 hl (by decide) rfl (fun ls hl => ?_)
      refine lv_iload_n hx hb dX7_told_33 rfl (lv_at hl 4 rfl) ?_
      rcases tsw_0_4 wh with h9 | h9 | h9 | h9 | h9 | ⟨h9, n9_0, n9_1, n9_2, n9_3, n9_4⟩
      · have n9_1 : ¬ wh = 1 := by rw [h9]; decide
        have n9_2 : ¬ wh = 2 := by rw [h9]; decide
        have n9_3 : ¬ wh = 3 := by rw [h9]; decide
        have n9_4 : ¬ wh = 4 := by rw [h9]; decide
        refine lv_tableIn (off := 34) (tgt := 68) hx hb dX7_told_34 (by rw [h9]; decide) (by rw [h9]; decide) (by rw [h9]; decide) (by decide) ?_
        refine lv_aload_n hx hb dX7_told_68 rfl (lv_at hl 1 rfl) ?_
        refine gm_36 S hK hI dX7_told_69 ?_
        refine lv_iload hx hb dX7_told_72 (lv_at hl 0 rfl) ?_
        refine lm_9 S hK hI (by subst e8; subst e7; subst e5; subst e4; subst e3; subst e1; exact bnd4 (isRoom_in c2) (desk_in hok c2 c6)) dX7_told_74 ?_
        refine lv_topi (fun x10 e10 => ?_)
        subst e10
        subst e8
        subst e7
        subst e5
        subst e4
        subst e3
        subst e1
        unfold toldM toldV
        try rw [if_neg c2]
        try rw [if_neg c6]
        try rw [if_pos h9]
        exact tw_iret S hr hlocks hI dX7_told_75
      · have n9_0 : ¬ wh = 0 := by rw [h9]; decide
        have n9_2 : ¬ wh = 2 := by rw [h9]; decide
        have n9_3 : ¬ wh = 3 := by rw [h9]; decide
        have n9_4 : ¬ wh = 4 := by rw [h9]; decide
        refine lv_tableIn (off := 42) (tgt := 76) hx hb dX7_told_34 (by rw [h9]; decide) (by rw [h9]; decide) (by rw [h9]; decide) (by decide) ?_
        refine lv_aload_n hx hb dX7_told_76 rfl (lv_at hl 1 rfl) ?_
        refine gm_39 S hK hI dX7_told_77 ?_
        refine lv_iload hx hb dX7_told_80 (lv_at hl 0 rfl) ?_
        refine lm_10 S hK hI (by subst e8; subst e7; subst e5; subst e4; subst e3; subst e1; exact bnd4 (isRoom_in c2) (desk_in hok c2 c6)) dX7_told_82 ?_
        refine lv_topi (fun x11 e11 => ?_)
        subst e11
        subst e8
        subst e7
        subst e5
        subst e4
        subst e3
        subst e1
        unfold toldM toldV
        try rw [if_neg c2]
        try rw [if_neg c6]
        try rw [if_neg n9_0]
        try rw [if_pos h9]
        exact tw_iret S hr hlocks hI dX7_told_83
      · have n9_0 : ¬ wh = 0 := by rw [h9]; decide
        have n9_1 : ¬ wh = 1 := by rw [h9]; decide
        have n9_3 : ¬ wh = 3 := by rw [h9]; decide
        have n9_4 : ¬ wh = 4 := by rw [h9]; decide
        refine lv_tableIn (off := 50) (tgt := 84) hx hb dX7_told_34 (by rw [h9]; decide) (by rw [h9]; decide) (by rw [h9]; decide) (by decide) ?_
        refine lv_aload_n hx hb dX7_told_84 rfl (lv_at hl 1 rfl) ?_
        refine gm_42 S hK hI dX7_told_85 ?_
        refine lv_iload hx hb dX7_told_88 (lv_at hl 0 rfl) ?_
        refine lm_11 S hK hI (by subst e8; subst e7; subst e5; subst e4; subst e3; subst e1; exact bnd4 (isRoom_in c2) (desk_in hok c2 c6)) dX7_told_90 ?_
        refine lv_topi (fun x12 e12 => ?_)
        subst e12
        subst e8
        subst e7
        subst e5
        subst e4
        subst e3
        subst e1
        unfold toldM toldV
        try rw [if_neg c2]
        try rw [if_neg c6]
        try rw [if_neg n9_0]
        try rw [if_neg n9_1]
        try rw [if_pos h9]
        exact tw_iret S hr hlocks hI dX7_told_91
      · have n9_0 : ¬ wh = 0 := by rw [h9]; decide
        have n9_1 : ¬ wh = 1 := by rw [h9]; decide
        have n9_2 : ¬ wh = 2 := by rw [h9]; decide
        have n9_4 : ¬ wh = 4 := by rw [h9]; decide
        refine lv_tableIn (off := 58) (tgt := 92) hx hb dX7_told_34 (by rw [h9]; decide) (by rw [h9]; decide) (by rw [h9]; decide) (by decide) ?_
        refine lv_aload_n hx hb dX7_told_92 rfl (lv_at hl 1 rfl) ?_
        refine gm_45 S hK hI dX7_told_93 ?_
        refine lv_iload hx hb dX7_told_96 (lv_at hl 0 rfl) ?_
        refine lm_12 S hK hI (by subst e8; subst e7; subst e5; subst e4; subst e3; subst e1; exact bnd4 (isRoom_in c2) (desk_in hok c2 c6)) dX7_told_98 ?_
        refine lv_topi (fun x13 e13 => ?_)
        subst e13
        subst e8
        subst e7
        subst e5
        subst e4
        subst e3
        subst e1
        unfold toldM toldV
        try rw [if_neg c2]
        try rw [if_neg c6]
        try rw [if_neg n9_0]
        try rw [if_neg n9_1]
        try rw [if_neg n9_2]
        try rw [if_pos h9]
        exact tw_iret S hr hlocks hI dX7_told_99
      · have n9_0 : ¬ wh = 0 := by rw [h9]; decide
        have n9_1 : ¬ wh = 1 := by rw [h9]; decide
        have n9_2 : ¬ wh = 2 := by rw [h9]; decide
        have n9_3 : ¬ wh = 3 := by rw [h9]; decide
        refine lv_tableIn (off := 66) (tgt := 100) hx hb dX7_told_34 (by rw [h9]; decide) (by rw [h9]; decide) (by rw [h9]; decide) (by decide) ?_
        refine lv_aload_n hx hb dX7_told_100 rfl (lv_at hl 1 rfl) ?_
        refine gm_48 S hK hI dX7_told_101 ?_
        refine lv_iload hx hb dX7_told_104 (lv_at hl 0 rfl) ?_
        refine lm_13 S hK hI (by subst e8; subst e7; subst e5; subst e4; subst e3; subst e1; exact bnd4 (isRoom_in c2) (desk_in hok c2 c6)) dX7_told_106 ?_
        refine lv_topi (fun x14 e14 => ?_)
        subst e14
        subst e8
        subst e7
        subst e5
        subst e4
        subst e3
        subst e1
        unfold toldM toldV
        try rw [if_neg c2]
        try rw [if_neg c6]
        try rw [if_neg n9_0]
        try rw [if_neg n9_1]
        try rw [if_neg n9_2]
        try rw [if_neg n9_3]
        try rw [if_pos h9]
        exact tw_iret S hr hlocks hI dX7_told_107
      · refine lv_tableOut (tgt := 108) hx hb dX7_told_34 h9 (by decide) ?_
        refine lv_bipush (v := (-2)) hx hb dX7_told_108 (by decide) ?_
        subst e8
        subst e7
        subst e5
        subst e4
        subst e3
        subst e1
        unfold toldM toldV
        try rw [if_neg c2]
        try rw [if_neg c6]
        try rw [if_neg n9_0]
        try rw [if_neg n9_1]
        try rw [if_neg n9_2]
        try rw [if_neg n9_3]
        try rw [if_neg n9_4]
        exact tw_iret S hr hlocks hI dX7_told_110
    · refine lv_bipush (v := (-2)) hx hb dX7_told_23 (by decide) ?_
      subst e5
      subst e4
      subst e3
      subst e1
      unfold toldM toldV
      try rw [if_neg c2]
      try rw [if_pos c6]
      exact tw_iret S hr hlocks hI dX7_told_25

set_option maxHeartbeats 2000000 in
set_option maxRecDepth 100000 in
theorem c_X7_count (l : Launch) (D : tw_G) (ad : Nat → Nat) (b : tw_W) (σ : Sg) (sz : Nat) (wh : Int32) : Met l yX7_count (tw_w yX7_count cX7_count 2 (some .int)) (tw_R 0 0 0) (tw_Pc D ad (wM b σ) sz [.ref (ad 1000), .int wh]) (tw_Q D ad (wM b (σ)) (tw_A ad (wM b σ) sz) (some (.int (countM σ wh)))) 0 0 (tw_A ad (wM b σ) sz) := by
  refine tw_met (by decide) rfl (by simp [lg_sl, Value.category]) (fun p e s m below meth c ls S hK hr hlocks hnm hsz hI hl => ?_)
  have hx := S.1
  have hb := S.2.1
  have hl : lv_has ls 2 [(0, .ref (ad 1000)), (1, .int wh)] := hl
  refine lv_iload_n hx hb dX7_count_0 rfl (lv_at hl 1 rfl) ?_
  rcases tsw_0_4 wh with h1 | h1 | h1 | h1 | h1 | ⟨h1, n1_0, n1_1, n1_2, n1_3, n1_4⟩
  · have n1_1 : ¬ wh = 1 := by rw [h1]; decide
    have n1_2 : ¬ wh = 2 := by rw [h1]; decide
    have n1_3 : ¬ wh = 3 := by rw [h1]; decide
    have n1_4 : ¬ wh = 4 := by rw [h1]; decide
    refine lv_tableIn (off := 35) (tgt := 36) hx hb dX7_count_1 (by rw [h1]; decide) (by rw [h1]; decide) (by rw [h1]; decide) (by decide) ?_
    refine lv_aload_n hx hb dX7_count_36 rfl (lv_at hl 0 rfl) ?_
    refine gm_70 S hK hI dX7_count_37 ?_
    refine lv_topi (fun x2 e2 => ?_)
    subst e2
    unfold countM
    try rw [if_pos h1]
    exact tw_iret S hr hlocks hI dX7_count_40
  · have n1_0 : ¬ wh = 0 := by rw [h1]; decide
    have n1_2 : ¬ wh = 2 := by rw [h1]; decide
    have n1_3 : ¬ wh = 3 := by rw [h1]; decide
    have n1_4 : ¬ wh = 4 := by rw [h1]; decide
    refine lv_tableIn (off := 40) (tgt := 41) hx hb dX7_count_1 (by rw [h1]; decide) (by rw [h1]; decide) (by rw [h1]; decide) (by decide) ?_
    refine lv_aload_n hx hb dX7_count_41 rfl (lv_at hl 0 rfl) ?_
    refine gm_80 S hK hI dX7_count_42 ?_
    refine lv_topi (fun x3 e3 => ?_)
    subst e3
    unfold countM
    try rw [if_neg n1_0]
    try rw [if_pos h1]
    exact tw_iret S hr hlocks hI dX7_count_45
  · have n1_0 : ¬ wh = 0 := by rw [h1]; decide
    have n1_1 : ¬ wh = 1 := by rw [h1]; decide
    have n1_3 : ¬ wh = 3 := by rw [h1]; decide
    have n1_4 : ¬ wh = 4 := by rw [h1]; decide
    refine lv_tableIn (off := 45) (tgt := 46) hx hb dX7_count_1 (by rw [h1]; decide) (by rw [h1]; decide) (by rw [h1]; decide) (by decide) ?_
    refine lv_aload_n hx hb dX7_count_46 rfl (lv_at hl 0 rfl) ?_
    refine gm_83 S hK hI dX7_count_47 ?_
    refine lv_topi (fun x4 e4 => ?_)
    subst e4
    unfold countM
    try rw [if_neg n1_0]
    try rw [if_neg n1_1]
    try rw [if_pos h1]
    exact tw_iret S hr hlocks hI dX7_count_50
  · have n1_0 : ¬ wh = 0 := by rw [h1]; decide
    have n1_1 : ¬ wh = 1 := by rw [h1]; decide
    have n1_2 : ¬ wh = 2 := by rw [h1]; decide
    have n1_4 : ¬ wh = 4 := by rw [h1]; decide
    refine lv_tableIn (off := 50) (tgt := 51) hx hb dX7_count_1 (by rw [h1]; decide) (by rw [h1]; decide) (by rw [h1]; decide) (by decide) ?_
    refine lv_aload_n hx hb dX7_count_51 rfl (lv_at hl 0 rfl) ?_
    refine gm_86 S hK hI dX7_count_52 ?_
    refine lv_topi (fun x5 e5 => ?_)
    subst e5
    unfold countM
    try rw [if_neg n1_0]
    try rw [if_neg n1_1]
    try rw [if_neg n1_2]
    try rw [if_pos h1]
    exact tw_iret S hr hlocks hI dX7_count_55
  · have n1_0 : ¬ wh = 0 := by rw [h1]; decide
    have n1_1 : ¬ wh = 1 := by rw [h1]; decide
    have n1_2 : ¬ wh = 2 := by rw [h1]; decide
    have n1_3 : ¬ wh = 3 := by rw [h1]; decide
    refine lv_tableIn (off := 55) (tgt := 56) hx hb dX7_count_1 (by rw [h1]; decide) (by rw [h1]; decide) (by rw [h1]; decide) (by decide) ?_
    refine lv_aload_n hx hb dX7_count_56 rfl (lv_at hl 0 rfl) ?_
    refine gm_167 S hK hI dX7_count_57 ?_
    refine lv_topi (fun x6 e6 => ?_)
    subst e6
    unfold countM
    try rw [if_neg n1_0]
    try rw [if_neg n1_1]
    try rw [if_neg n1_2]
    try rw [if_neg n1_3]
    try rw [if_pos h1]
    exact tw_iret S hr hlocks hI dX7_count_60
  · refine lv_tableOut (tgt := 61) hx hb dX7_count_1 h1 (by decide) ?_
    refine lv_bipush (v := (-2)) hx hb dX7_count_61 (by decide) ?_
    unfold countM
    try rw [if_neg n1_0]
    try rw [if_neg n1_1]
    try rw [if_neg n1_2]
    try rw [if_neg n1_3]
    try rw [if_neg n1_4]
    exact tw_iret S hr hlocks hI dX7_count_63

set_option maxHeartbeats 2000000 in
set_option maxRecDepth 100000 in
theorem c_X7_out (l : Launch) (D : tw_G) (ad : Nat → Nat) (b : tw_W) (σ : Sg) (sz : Nat)  : Met l yX7_out (tw_w yX7_out cX7_out 1 (some .int)) (tw_R 0 0 0) (tw_Pc D ad (wM b σ) sz [.ref (ad 1000)]) (tw_Q D ad (wM b (σ)) (tw_A ad (wM b σ) sz) (some (.int (σ.1 20 0)))) 0 0 (tw_A ad (wM b σ) sz) := by
  refine tw_met (by decide) rfl (by simp [lg_sl, Value.category]) (fun p e s m below meth c ls S hK hr hlocks hnm hsz hI hl => ?_)
  have hx := S.1
  have hb := S.2.1
  have hl : lv_has ls 1 [(0, .ref (ad 1000))] := hl
  refine lv_aload_n hx hb dX7_out_0 rfl (lv_at hl 0 rfl) ?_
  refine gm_54 S hK hI dX7_out_1 ?_
  refine lv_topi (fun x1 e1 => ?_)
  subst e1
  exact tw_iret S hr hlocks hI dX7_out_4

set_option maxHeartbeats 2000000 in
set_option maxRecDepth 100000 in
theorem c_X7_refused (l : Launch) (D : tw_G) (ad : Nat → Nat) (b : tw_W) (σ : Sg) (sz : Nat)  : Met l yX7_refused (tw_w yX7_refused cX7_refused 1 (some .int)) (tw_R 0 0 0) (tw_Pc D ad (wM b σ) sz [.ref (ad 1000)]) (tw_Q D ad (wM b (σ)) (tw_A ad (wM b σ) sz) (some (.int (σ.1 15 0)))) 0 0 (tw_A ad (wM b σ) sz) := by
  refine tw_met (by decide) rfl (by simp [lg_sl, Value.category]) (fun p e s m below meth c ls S hK hr hlocks hnm hsz hI hl => ?_)
  have hx := S.1
  have hb := S.2.1
  have hl : lv_has ls 1 [(0, .ref (ad 1000))] := hl
  refine lv_aload_n hx hb dX7_refused_0 rfl (lv_at hl 0 rfl) ?_
  refine gm_77 S hK hI dX7_refused_1 ?_
  refine lv_topi (fun x1 e1 => ?_)
  subst e1
  exact tw_iret S hr hlocks hI dX7_refused_4

set_option maxHeartbeats 2000000 in
set_option maxRecDepth 100000 in
theorem c_X7_begin (l : Launch) (D : tw_G) (ad : Nat → Nat) (b : tw_W) (σ : Sg) (sz : Nat) (t : Int32) (r : Int32) (hd : vp_in (σ.1 25 0) 9) : Met l yX7_begin (tw_w yX7_begin cX7_begin 3 none) (tw_R 0 0 0) (tw_Pc D ad (wM b σ) sz [.ref (ad 1000), .int t, .int r]) (tw_Q D ad (wM b (beginM σ t r)) (tw_A ad (wM b σ) sz) none) 0 0 (tw_A ad (wM b σ) sz) := by
  refine tw_met (by decide) rfl (by simp [lg_sl, Value.category]) (fun p e s m below meth c ls S hK hr hlocks hnm hsz hI hl => ?_)
  have hx := S.1
  have hb := S.2.1
  have hl : lv_has ls 3 [(0, .ref (ad 1000)), (1, .int t), (2, .int r)] := hl
  refine lv_aload_n hx hb dX7_begin_0 rfl (lv_at hl 0 rfl) ?_
  refine gm_58 S hK hI dX7_begin_1 ?_
  refine lv_aload_n hx hb dX7_begin_4 rfl (lv_at hl 0 rfl) ?_
  refine gm_145 S hK hI dX7_begin_5 ?_
  refine lv_topi (fun x1 e1 => ?_)
  refine lv_iload_n hx hb dX7_begin_8 rfl (lv_at hl 1 rfl) ?_
  refine sm_21 S hK hI (by subst e1; exact (hd)) dX7_begin_9 (fun H locs hI => ?_)
  refine lv_aload_n hx hb dX7_begin_10 rfl (lv_at hl 0 rfl) ?_
  refine gm_61 S hK hI dX7_begin_11 ?_
  refine lv_aload_n hx hb dX7_begin_14 rfl (lv_at hl 0 rfl) ?_
  refine gm_145 S hK hI dX7_begin_15 ?_
  refine lv_topi (fun x2 e2 => ?_)
  refine lv_iload_n hx hb dX7_begin_18 rfl (lv_at hl 2 rfl) ?_
  refine sm_22 S hK hI (by subst e2; subst e1; exact (hd)) dX7_begin_19 (fun H locs hI => ?_)
  refine lv_aload_n hx hb dX7_begin_20 rfl (lv_at hl 0 rfl) ?_
  refine gm_64 S hK hI dX7_begin_21 ?_
  refine lv_aload_n hx hb dX7_begin_24 rfl (lv_at hl 0 rfl) ?_
  refine gm_145 S hK hI dX7_begin_25 ?_
  refine lv_topi (fun x3 e3 => ?_)
  refine lv_iconst (v := 0) hx hb dX7_begin_28 (by decide) ?_
  refine sm_23 S hK hI (by subst e3; subst e2; subst e1; exact (hd)) dX7_begin_29 (fun H locs hI => ?_)
  refine lv_aload_n hx hb dX7_begin_30 rfl (lv_at hl 0 rfl) ?_
  refine gm_67 S hK hI dX7_begin_31 ?_
  refine lv_aload_n hx hb dX7_begin_34 rfl (lv_at hl 0 rfl) ?_
  refine gm_145 S hK hI dX7_begin_35 ?_
  refine lv_topi (fun x4 e4 => ?_)
  refine lv_iconst (v := (-1)) hx hb dX7_begin_38 (by decide) ?_
  refine sm_24 S hK hI (by subst e4; subst e3; subst e2; subst e1; exact (hd)) dX7_begin_39 (fun H locs hI => ?_)
  refine lv_aload_n hx hb dX7_begin_40 rfl (lv_at hl 0 rfl) ?_
  refine lv_dup hx hb dX7_begin_41 rfl ?_
  refine gm_145 S hK hI dX7_begin_42 ?_
  refine lv_topi (fun x5 e5 => ?_)
  refine lv_iconst (v := 1) hx hb dX7_begin_45 (by decide) ?_
  refine lv_iadd hx hb dX7_begin_46 ?_
  refine lv_topi (fun x6 e6 => ?_)
  refine pm_145 S hK hI dX7_begin_47 (fun H locs hI => ?_)
  subst e6
  subst e5
  subst e4
  subst e3
  subst e2
  subst e1
  unfold beginM
  exact tw_vret S hr hlocks hI dX7_begin_50

set_option maxHeartbeats 2000000 in
set_option maxRecDepth 100000 in
theorem c_X7_ends (l : Launch) (D : tw_G) (ad : Nat → Nat) (b : tw_W) (σ : Sg) (sz : Nat) (t : Int32) : Met l yX7_ends (tw_w yX7_ends cX7_ends 2 none) (tw_R 0 0 0) (tw_Pc D ad (wM b σ) sz [.ref (ad 1000), .int t]) (tw_Q D ad (wM b (endsM σ t)) (tw_A ad (wM b σ) sz) none) 0 0 (tw_A ad (wM b σ) sz) := by
  refine tw_met (by decide) rfl (by simp [lg_sl, Value.category]) (fun p e s m below meth c ls S hK hr hlocks hnm hsz hI hl => ?_)
  have hx := S.1
  have hb := S.2.1
  have hl : lv_has ls 2 [(0, .ref (ad 1000)), (1, .int t)] := hl
  refine lv_aload_n hx hb dX7_ends_0 rfl (lv_at hl 0 rfl) ?_
  refine lv_dup hx hb dX7_ends_1 rfl ?_
  refine gm_145 S hK hI dX7_ends_2 ?_
  refine lv_topi (fun x1 e1 => ?_)
  refine lv_iconst (v := 1) hx hb dX7_ends_5 (by decide) ?_
  refine lv_isub hx hb dX7_ends_6 ?_
  refine lv_topi (fun x2 e2 => ?_)
  refine pm_145 S hK hI dX7_ends_7 (fun H locs hI => ?_)
  refine lv_aload_n hx hb dX7_ends_10 rfl (lv_at hl 0 rfl) ?_
  refine lv_aload_n hx hb dX7_ends_11 rfl (lv_at hl 0 rfl) ?_
  refine gm_145 S hK hI dX7_ends_12 ?_
  refine lv_topi (fun x3 e3 => ?_)
  refine lv_if_ne (tgt := 22) hx hb dX7_ends_15 (by decide) (fun c4 => ?_) (fun c4 => ?_)
  · refine lv_aload_n hx hb dX7_ends_22 rfl (lv_at hl 0 rfl) ?_
    refine gm_54 S hK hI dX7_ends_23 ?_
    refine lv_topi (fun x5 e5 => ?_)
    refine pm_54 S hK hI dX7_ends_26 (fun H locs hI => ?_)
    subst e5
    subst e3
    subst e2
    subst e1
    unfold endsM
    try rw [if_neg c4]
    exact tw_vret S hr hlocks hI dX7_ends_29
  · refine lv_iload_n hx hb dX7_ends_18 rfl (lv_at hl 1 rfl) ?_
    refine lv_goto (tgt := 26) hx hb dX7_ends_19 (by decide) ?_
    refine pm_54 S hK hI dX7_ends_26 (fun H locs hI => ?_)
    subst e3
    subst e2
    subst e1
    unfold endsM
    try rw [if_pos c4]
    exact tw_vret S hr hlocks hI dX7_ends_29
