/-! the class: desk -/
set_option maxHeartbeats 2000000 in
set_option maxRecDepth 100000 in
theorem c_X0_init (l : Launch) (D : tw_G) (ad : Nat → Nat) (w : tw_W) (sz : Nat) (τ : Nat) (f a q : Int32) (he : w τ = some (.inr (0, [.int 0, .int 0, .int 0, .int 0, .int 0, .null, .int 0, .null, .int 0]))) (hq : q = 0 ∨ q = 1) : Met l yX0_init (tw_w yX0_init cX0_init 4 none) (tw_R 1 0 0) (tw_Pc D ad w sz [.ref (ad τ), .int f, .int a, .int q]) (tw_Q D ad (va_up w τ (some (.inr (0, [.int f, .int a, .int q, .int 0, .int 0, .null, .int 0, .null, .int 0])))) (tw_A ad w sz) none) 0 0 (tw_A ad w sz) := by
  refine tw_met (by decide) rfl (by simp [lg_sl, Value.category]) (fun p e s m below meth c ls S hK hr hlocks hnm hsz hI hl => ?_)
  have hx := S.1
  have hb := S.2.1
  have hl : lv_has ls 4 [(0, .ref (ad τ)), (1, .int f), (2, .int a), (3, .int q)] := hl
  refine lv_aload_n hx hb dX0_init_0 rfl (lv_at hl 0 rfl) ?_
  refine tw_obj S (tw_mem (by decide +kernel) rfl) (tw_mem (by decide +kernel) rfl) (tw_mem (by decide +kernel) rfl) hl.1 dX0_init_1 (Nat.le_of_ble_eq_true rfl) (Nat.le_of_ble_eq_true rfl) ?_
  refine lv_aload_n hx hb dX0_init_4 rfl (lv_at hl 0 rfl) ?_
  refine lv_iconst (v := 0) hx hb dX0_init_5 (by decide) ?_
  refine p0_7_0 S hK hI he (v := .int 0) rfl rfl rfl (Nat.le_of_ble_eq_true rfl) dX0_init_6 (fun H locs hI => ?_)
  refine lv_aload_n hx hb dX0_init_9 rfl (lv_at hl 0 rfl) ?_
  refine lv_iconst (v := 0) hx hb dX0_init_10 (by decide) ?_
  refine p0_13_0 S hK hI (va_up_self _ _ _) (v := .int 0) rfl rfl rfl (Nat.le_of_ble_eq_true rfl) dX0_init_11 (fun H locs hI => ?_)
  rw [up_up] at hI
  refine lv_aload_n hx hb dX0_init_14 rfl (lv_at hl 0 rfl) ?_
  refine lv_null hx hb dX0_init_15 ?_
  refine p0_16_0 S hK hI (va_up_self _ _ _) (v := .null) rfl rfl rfl (Nat.le_of_ble_eq_true rfl) dX0_init_16 (fun H locs hI => ?_)
  rw [up_up] at hI
  refine lv_aload_n hx hb dX0_init_19 rfl (lv_at hl 0 rfl) ?_
  refine lv_iconst (v := 0) hx hb dX0_init_20 (by decide) ?_
  refine p0_20_0 S hK hI (va_up_self _ _ _) (v := .int 0) rfl rfl rfl (Nat.le_of_ble_eq_true rfl) dX0_init_21 (fun H locs hI => ?_)
  rw [up_up] at hI
  refine lv_aload_n hx hb dX0_init_24 rfl (lv_at hl 0 rfl) ?_
  refine lv_null hx hb dX0_init_25 ?_
  refine p0_23_0 S hK hI (va_up_self _ _ _) (v := .null) rfl rfl rfl (Nat.le_of_ble_eq_true rfl) dX0_init_26 (fun H locs hI => ?_)
  rw [up_up] at hI
  refine lv_aload_n hx hb dX0_init_29 rfl (lv_at hl 0 rfl) ?_
  refine lv_iconst (v := 0) hx hb dX0_init_30 (by decide) ?_
  refine p0_26_0 S hK hI (va_up_self _ _ _) (v := .int 0) rfl rfl rfl (Nat.le_of_ble_eq_true rfl) dX0_init_31 (fun H locs hI => ?_)
  rw [up_up] at hI
  refine lv_aload_n hx hb dX0_init_34 rfl (lv_at hl 0 rfl) ?_
  refine lv_iload_n hx hb dX0_init_35 rfl (lv_at hl 1 rfl) ?_
  refine p0_29_0 S hK hI (va_up_self _ _ _) (v := .int f) rfl rfl rfl (Nat.le_of_ble_eq_true rfl) dX0_init_36 (fun H locs hI => ?_)
  rw [up_up] at hI
  refine lv_aload_n hx hb dX0_init_39 rfl (lv_at hl 0 rfl) ?_
  refine lv_iload_n hx hb dX0_init_40 rfl (lv_at hl 2 rfl) ?_
  refine p0_32_0 S hK hI (va_up_self _ _ _) (v := .int a) rfl rfl rfl (Nat.le_of_ble_eq_true rfl) dX0_init_41 (fun H locs hI => ?_)
  rw [up_up] at hI
  refine lv_aload_n hx hb dX0_init_44 rfl (lv_at hl 0 rfl) ?_
  refine lv_iload_n hx hb dX0_init_45 rfl (lv_at hl 3 rfl) ?_
  refine p0_35_0 S hK hI (va_up_self _ _ _) (v := .int q) rfl (by rcases hq with rfl | rfl <;> rfl) (by rcases hq with rfl | rfl <;> rfl) (Nat.le_of_ble_eq_true rfl) dX0_init_46 (fun H locs hI => ?_)
  rw [up_up] at hI
  exact tw_vret S hr hlocks hI dX0_init_49

def dkS (σ : Sg) (r c : Nat) (f a q : Int32) : Sg := sI (sI (sI (sI (sI (sI (sI (sI (sI σ 6 (4 * r + c) f) 7 (4 * r + c) a) 8 (4 * r + c) q) 9 (4 * r + c) 0) 10 (4 * r + c) (-1)) 11 (4 * r + c) 0) 12 (4 * r + c) 0) 13 (4 * r + c) (-1)) 5 r (nI (c + 1))
theorem acc_dkS (σ : Sg) (r c : Nat) (f a q : Int32) : acc (dkS σ r c f a q) = dkS (acc σ) r c f a q := by
  unfold dkS acc
  rw [sI_comm _ (show 5 ≠ 15 by decide), sI_comm _ (show 13 ≠ 15 by decide), sI_comm _ (show 12 ≠ 15 by decide), sI_comm _ (show 11 ≠ 15 by decide), sI_comm _ (show 10 ≠ 15 by decide), sI_comm _ (show 9 ≠ 15 by decide), sI_comm _ (show 8 ≠ 15 by decide), sI_comm _ (show 7 ≠ 15 by decide), sI_comm _ (show 6 ≠ 15 by decide)]
theorem dk_noroom {σ : Sg} {r f a q : Int32} (h : r < 0 ∨ 8 ≤ r) : deskM σ r f a q = (-2, refuseM σ (-2)) := by unfold deskM; rw [if_pos (room_no h), refuse_acc]
theorem dk_form {σ : Sg} {r : Nat} {f a q : Int32} (hr : r < 8) (hf : isFormF f = 0) : deskM σ (nI r) f a q = (-2, refuseM σ (-2)) := by
  unfold deskM
  rw [if_neg (room_yes hr), if_pos (show isInF f 0 13 = 0 from hf), refuse_acc]
theorem dk_act {σ : Sg} {r : Nat} {f a q : Int32} (hr : r < 8) (hf : ¬ isFormF f = 0) (ha : isActF a = 0) : deskM σ (nI r) f a q = (-2, refuseM σ (-2)) := by
  unfold deskM
  rw [if_neg (room_yes hr), if_neg (show ¬ isInF f 0 13 = 0 from hf), if_pos (show isInF a 0 4 = 0 from ha), refuse_acc]
theorem dk_full {σ : Sg} {r : Nat} {f a q : Int32} (hr : r < 8) (hf : ¬ isFormF f = 0) (ha : ¬ isActF a = 0) (h4 : σ.1 5 r = 4) : deskM σ (nI r) f a q = (-3, refuseM σ (-3)) := by
  unfold deskM
  rw [if_neg (room_yes hr), if_neg (show ¬ isInF f 0 13 = 0 from hf), if_neg (show ¬ isInF a 0 4 = 0 from ha), ixn (by omega), if_pos (show (acc σ).1 5 r = 4 from h4), refuse_acc]
theorem dk_ok {σ : Sg} {r c : Nat} {f a q : Int32} (hr : r < 8) (hf : ¬ isFormF f = 0) (ha : ¬ isActF a = 0) (hc : σ.1 5 r = nI c) (h4 : c < 4) : deskM σ (nI r) f a q = (nI c, acc (dkS σ r c f a q)) := by
  have e5 : (acc σ).1 5 r = nI c := hc
  have ed : desk4 (acc σ) (nI r) (4 * nI r + nI c) f a q = acc (dkS σ r c f a q) := by
    rw [acc_dkS]
    unfold desk4 desk3 settleM dkS
    rw [ix4n hr h4, ixn (by omega), e5, show nI c + 1 = nI (c + 1) from nA (a := c) (b := 1) (c := c + 1) rfl]
  unfold deskM
  rw [if_neg (room_yes hr), if_neg (show ¬ isInF f 0 13 = 0 from hf), if_neg (show ¬ isInF a 0 4 = 0 from ha), ixn (by omega), e5, if_neg (show ¬ nI c = 4 from nI_neq (b := 4) h4 (by decide)), ed]
  refine Prod.ext ?_ rfl
  show (acc (dkS σ r c f a q)).1 5 r - 1 = nI c
  rw [show (acc (dkS σ r c f a q)).1 5 r = nI (c + 1) from (show (dkS σ r c f a q).1 5 r = nI (c + 1) from by unfold dkS; exact sI_at _ 5 r _)]
  exact nI_pred c
theorem wX_noD {b : tw_W} {σ : Sg} {h : Int32} {Q : Nat → Int32} {r c : Nat} (hr : r < 8) (h4 : c < 4) (e : dcS σ r ≤ c) : wX b σ h Q (30 + (4 * r + c)) = none := by
  unfold wX
  rw [if_neg (by omega), if_neg (by omega), if_neg (by omega), if_neg (by omega), if_neg (by omega), if_neg (by omega), if_neg, if_neg (by omega), if_neg (by omega)]
  rw [show (30 + (4 * r + c) - 30) % 4 = c by omega, show (30 + (4 * r + c) - 30) / 4 = r by omega]
  omega
theorem cl_desk {b : tw_W} {σ : Sg} {h : Int32} {Q : Nat → Int32} {B r c : Nat} (hV : INV σ B) (hbk : b_ok b) (hr : r < 8) (h4 : c < 4) (e : dcS σ r ≤ c) : tw_cl (30 + (4 * r + c)) (wX b σ h Q) := by
  refine wX_cl hV hbk (by omega) (by omega) (by omega) (fun r' d hr' hd => ?_) (fun i hi => by omega) (fun i hi => by omega)
  have := (okD hV.1 hr').1
  intro e2
  have er : r' = r := by omega
  subst er
  omega
theorem g_newdesk {b : tw_W} {root : List Value} {n : Nat} {dc : Nat → Nat} {cnt : Nat → Int32} {desk : Nat → List Value} {item : Nat → tw_T} {arr : Nat → Option tw_T} {r c : Nat} (hr : r < 8) (h4 : c < 4) (e : dc r = c) (hdc : ∀ r : Nat, r < 8 → dc r ≤ 4) (dk : List Value) (v : Int32) : va_up (va_up (va_up (wXg b root n dc cnt desk item arr) (30 + (4 * r + c)) (some (.inr (0, dk)))) (20 + r) (some (.inl (3, 4, .inr (.inr (.inr (.inr (va_up (fun d => if d < dc r then some (30 + (4 * r + d)) else none) c (some (30 + (4 * r + c)))))))))) ) (10 + r) (some (.inr (3, [.ref (20 + r), .int v]))) = wXg b root n (va_up dc r (c + 1)) (va_up cnt r v) (va_up desk (4 * r + c) dk) item arr := by
  funext t
  by_cases c1 : t = 10 + r
  · subst c1
    rw [va_up_self]
    unfold wXg
    rw [if_neg (by omega), if_neg (by omega), if_neg (by omega), if_neg (by omega), if_pos (by omega), show 10 + r - 10 = r by omega, va_up_self]
  rw [va_up_ne _ _ c1]
  by_cases c2 : t = 20 + r
  · subst c2
    rw [va_up_self]
    unfold wXg
    rw [if_neg (by omega), if_neg (by omega), if_neg (by omega), if_neg (by omega), if_neg (by omega), if_pos (by omega), show 20 + r - 20 = r by omega, va_up_self, e]
    have ef : (va_up (fun d => if d < c then some (30 + (4 * r + d)) else none) c (some (30 + (4 * r + c)))) = fun d => if d < c + 1 then some (30 + (4 * r + d)) else none := by
      funext d
      by_cases hd : d = c
      · subst hd; rw [va_up_self, if_pos (by omega)]
      · rw [va_up_ne _ _ hd]
        by_cases h1 : d < c
        · rw [if_pos h1, if_pos (by omega)]
        · rw [if_neg h1, if_neg (by omega)]
    rw [ef]
  rw [va_up_ne _ _ c2]
  by_cases c3 : t = 30 + (4 * r + c)
  · subst c3
    rw [va_up_self]
    unfold wXg
    rw [if_neg (by omega), if_neg (by omega), if_neg (by omega), if_neg (by omega), if_neg (by omega), if_neg (by omega), show 30 + (4 * r + c) - 30 = 4 * r + c by omega, show (4 * r + c) % 4 = c by omega, show (4 * r + c) / 4 = r by omega, va_up_self, va_up_self, if_pos ⟨by omega, by omega, by omega⟩]
  rw [va_up_ne _ _ c3]
  unfold wXg
  by_cases d1 : 10 ≤ t ∧ t < 18
  · rw [if_neg (by omega), if_neg (by omega), if_neg (by omega), if_neg (by omega), if_pos d1, if_neg (by omega), if_neg (by omega), if_neg (by omega), if_neg (by omega), if_pos d1, va_up_ne cnt _ (show t - 10 ≠ r by omega)]
  rw [if_neg d1, if_neg d1]
  by_cases d2 : 20 ≤ t ∧ t < 28
  · rw [if_pos d2, if_pos d2, va_up_ne dc _ (show t - 20 ≠ r by omega)]
  rw [if_neg d2, if_neg d2]
  by_cases d3 : 30 ≤ t ∧ t < 62
  · have hq : (t - 30) / 4 = r → (t - 30) % 4 ≠ c := fun q1 q2 => c3 (by omega)
    have hdesk : va_up desk (4 * r + c) dk (t - 30) = desk (t - 30) := va_up_ne _ _ (by omega)
    rw [hdesk]
    by_cases q : (t - 30) / 4 = r
    · have hb := hdc r hr
      have hne := hq q
      by_cases d4 : 30 ≤ t ∧ t < 62 ∧ (t - 30) % 4 < dc ((t - 30) / 4)
      · rw [if_pos d4, if_pos (show 30 ≤ t ∧ t < 62 ∧ (t - 30) % 4 < va_up dc r (c + 1) ((t - 30) / 4) by rw [q, va_up_self]; rw [q] at d4; omega)]
      · rw [if_neg d4, if_neg (show ¬ (30 ≤ t ∧ t < 62 ∧ (t - 30) % 4 < va_up dc r (c + 1) ((t - 30) / 4)) by rw [q, va_up_self]; rw [q] at d4; omega)]
    · rw [va_up_ne dc _ q]
  · rw [if_neg (show ¬ (30 ≤ t ∧ t < 62 ∧ (t - 30) % 4 < dc ((t - 30) / 4)) by omega), if_neg (show ¬ (30 ≤ t ∧ t < 62 ∧ (t - 30) % 4 < va_up dc r (c + 1) ((t - 30) / 4)) by omega)]
theorem wX_newdesk {b : tw_W} {σ : Sg} {h : Int32} {Q : Nat → Int32} {B r c : Nat} {f a q : Int32} (hV : INV σ B) (hr : r < 8) (h4 : c < 4) (e : dcS σ r = c) : va_up (va_up (va_up (wX b σ h Q) (30 + (4 * r + c)) (some (.inr (0, [.int f, .int a, .int q, .int 0, .int 0, .null, .int 0, .null, .int 0])))) (20 + r) (some (.inl (3, 4, .inr (.inr (.inr (.inr (va_up (fun d => if d < dcS σ r then some (30 + (4 * r + d)) else none) c (some (30 + (4 * r + c)))))))))) ) (10 + r) (some (.inr (3, [.ref (20 + r), .int (nI (c + 1))]))) = wX b (dkS σ r c f a q) h (va_up Q (4 * r + c) 0) := by
  have h14 : σ.1 14 (4 * r + c) = 0 := (hV.2.2.2.2.2.2.1 r c hr h4).2 (by omega)
  have f5 : (dkS σ r c f a q).1 5 = va_up (σ.1 5) r (nI (c + 1)) := sI_row _ _ _ _
  have eD : xDesk (dkS σ r c f a q) h (va_up Q (4 * r + c) 0) (4 * r + c) = [.int f, .int a, .int q, .int 0, .int 0, .null, .int 0, .null, .int 0] := by
    unfold xDesk
    have e6 : (dkS σ r c f a q).1 6 (4 * r + c) = f := sI_at σ 6 _ _
    have e7 : (dkS σ r c f a q).1 7 (4 * r + c) = a := sI_at (sI σ 6 _ _) 7 _ _
    have e8 : (dkS σ r c f a q).1 8 (4 * r + c) = q := sI_at (sI (sI σ 6 _ _) 7 _ _) 8 _ _
    have e9 : (dkS σ r c f a q).1 9 (4 * r + c) = 0 := sI_at (sI (sI (sI σ 6 _ _) 7 _ _) 8 _ _) 9 _ _
    have e10 : (dkS σ r c f a q).1 10 (4 * r + c) = -1 := sI_at (sI (sI (sI (sI σ 6 _ _) 7 _ _) 8 _ _) 9 _ _) 10 _ _
    have e11 : (dkS σ r c f a q).1 11 (4 * r + c) = 0 := sI_at (sI (sI (sI (sI (sI σ 6 _ _) 7 _ _) 8 _ _) 9 _ _) 10 _ _) 11 _ _
    have e12 : (dkS σ r c f a q).1 12 (4 * r + c) = 0 := sI_at (sI (sI (sI (sI (sI (sI σ 6 _ _) 7 _ _) 8 _ _) 9 _ _) 10 _ _) 11 _ _) 12 _ _
    have e13 : (dkS σ r c f a q).1 13 (4 * r + c) = -1 := sI_at (sI (sI (sI (sI (sI (sI (sI σ 6 _ _) 7 _ _) 8 _ _) 9 _ _) 10 _ _) 11 _ _) 12 _ _) 13 _ _
    have ea : xAsk (dkS σ r c f a q) h (va_up Q (4 * r + c) 0) (4 * r + c) = 0 := by
      show (if σ.1 14 (4 * r + c) = 1 then h else va_up Q (4 * r + c) 0 (4 * r + c)) = 0
      rw [h14, if_neg (by decide), va_up_self]
    rw [e6, e7, e8, e9, e10, e11, e12, e13, ea, dec_m1]
    rfl
  rw [← eD, wX_g, g_newdesk hr h4 e (fun r hr => (okD hV.1 hr).1), wX_g, f5, up_eq (g := xDesk (dkS σ r c f a q) h (va_up Q (4 * r + c) 0)) (fun i hi => by
    unfold xDesk
    have e6 : (dkS σ r c f a q).1 6 i = σ.1 6 i := sI_off σ 6 _ hi
    have e7 : (dkS σ r c f a q).1 7 i = σ.1 7 i := sI_off (sI σ 6 _ _) 7 _ hi
    have e8 : (dkS σ r c f a q).1 8 i = σ.1 8 i := sI_off (sI (sI σ 6 _ _) 7 _ _) 8 _ hi
    have e9 : (dkS σ r c f a q).1 9 i = σ.1 9 i := sI_off (sI (sI (sI σ 6 _ _) 7 _ _) 8 _ _) 9 _ hi
    have e10 : (dkS σ r c f a q).1 10 i = σ.1 10 i := sI_off (sI (sI (sI (sI σ 6 _ _) 7 _ _) 8 _ _) 9 _ _) 10 _ hi
    have e11 : (dkS σ r c f a q).1 11 i = σ.1 11 i := sI_off (sI (sI (sI (sI (sI σ 6 _ _) 7 _ _) 8 _ _) 9 _ _) 10 _ _) 11 _ hi
    have e12 : (dkS σ r c f a q).1 12 i = σ.1 12 i := sI_off (sI (sI (sI (sI (sI (sI σ 6 _ _) 7 _ _) 8 _ _) 9 _ _) 10 _ _) 11 _ _) 12 _ hi
    have e13 : (dkS σ r c f a q).1 13 i = σ.1 13 i := sI_off (sI (sI (sI (sI (sI (sI (sI σ 6 _ _) 7 _ _) 8 _ _) 9 _ _) 10 _ _) 11 _ _) 12 _ _) 13 _ hi
    have ea : xAsk (dkS σ r c f a q) h (va_up Q (4 * r + c) 0) i = xAsk σ h Q i := by
      show (if σ.1 14 i = 1 then h else va_up Q (4 * r + c) 0 i) = (if σ.1 14 i = 1 then h else Q i)
      rw [va_up_ne _ _ hi]
    rw [e6, e7, e8, e9, e10, e11, e12, e13, ea])]
  have edc : va_up (dcS σ) r (c + 1) = dcS (dkS σ r c f a q) := by
    funext i
    unfold dcS
    rw [f5]
    by_cases hi : i = r
    · subst hi; rw [va_up_self, va_up_self]; exact (ixn (by omega)).symm
    · rw [va_up_ne _ _ hi, va_up_ne _ _ hi]
  rw [edc]
  rfl

set_option maxHeartbeats 2000000 in
set_option maxRecDepth 100000 in
theorem c_X6_desk_noroom (l : Launch) (D : tw_G) (ad : Nat → Nat) (b : tw_W) (σ : Sg) (h : Int32) (Q : Nat → Int32) (sz : Nat) (r f a q : Int32) (hv : r < 0 ∨ 8 ≤ r) : Met l yX6_desk (tw_w yX6_desk cX6_desk 7 (some .int)) (tw_R 3 1 9) (tw_Pc D ad (wX b σ h Q) sz [.ref (ad 0), .int r, .int f, .int a, .int q]) (tw_Qn D ad (wX b σ h Q) (wX b (deskM σ r f a q).2 h Q) (tw_A ad (wX b σ h Q) sz) (fun _ => some (.int (deskM σ r f a q).1))) 1 9 (tw_A ad (wX b σ h Q) sz) := by
  refine tw_met (by decide) rfl (by simp [lg_sl, Value.category]) (fun p e s m below meth c ls S hK hr hlocks hnm hsz hI hl => ?_)
  have hx := S.1
  have hb := S.2.1
  have hl : lv_has ls 7 [(0, .ref (ad 0)), (1, .int r), (2, .int f), (3, .int a), (4, .int q)] := hl
  refine lv_aload_n hx hb dX6_desk_0 rfl (lv_at hl 0 rfl) ?_
  refine lv_iload_n hx hb dX6_desk_1 rfl (lv_at hl 1 rfl) ?_
  refine tw_calla (tw_rV (As := [.int r]) (rest := []) S hK hI kX6_112 (c_X6_findRoom_none l D ad _ _ _ _ _ _ hv) wX_0 rfl rfl ⟨Nat.le_of_ble_eq_true rfl, Nat.le_of_ble_eq_true rfl⟩ ⟨Nat.le_of_ble_eq_true rfl, Nat.le_of_ble_eq_true rfl⟩ rfl hl.1 rfl (Nat.le_of_ble_eq_true rfl) dX6_desk_2) hI (fun H locs hI => ?_)
  refine lv_astoreN (lv' := [(5, .null), (0, .ref (ad 0)), (1, .int r), (2, .int f), (3, .int a), (4, .int q)]) hx hb dX6_desk_5 hl (by decide) rfl (fun ls hl => ?_)
  refine lv_aloadN hx hb dX6_desk_7 (lv_at hl 0 rfl) ?_
  refine lv_ifnullN (tgt := 26) hx hb dX6_desk_9 (by decide) ?_
  refine lv_aload_n hx hb dX6_desk_26 rfl (lv_at hl 1 rfl) ?_
  refine lv_bipush (v := (-2)) hx hb dX6_desk_27 (by decide) ?_
  refine tw_calli (tw_rV (As := [.int (-2)]) (rest := []) S hK hI kX6_50 (c_X6_refuse l D ad _ _ _ _ _ _) wX_0 rfl rfl ⟨Nat.le_of_ble_eq_true rfl, Nat.le_of_ble_eq_true rfl⟩ ⟨Nat.le_of_ble_eq_true rfl, Nat.le_of_ble_eq_true rfl⟩ rfl hl.1 rfl (Nat.le_of_ble_eq_true rfl) dX6_desk_29) hI (fun H locs hI => ?_)
  refine lv_topi (fun x1 e1 => ?_)
  subst e1
  rw [dk_noroom hv]
  refine W.widen (k := 1) (n := 9) (Nat.le_of_ble_eq_true rfl) (Nat.le_of_ble_eq_true rfl) ?_
  exact W.iret S.1 S.2.1 hr (fun t ht _ => tw_retN (r := fun _ => some (.int (-2))) hI (fun _ _ _ => rfl) ht) hI.2.2.1.2.2 dX6_desk_32 hlocks

set_option maxHeartbeats 2000000 in
set_option maxRecDepth 100000 in
theorem c_X6_desk_form (l : Launch) (D : tw_G) (ad : Nat → Nat) (b : tw_W) (σ : Sg) (h : Int32) (Q : Nat → Int32) (sz : Nat) (r : Nat) (f a q : Int32) (hr8 : r < 8) (hf : isFormF f = 0) : Met l yX6_desk (tw_w yX6_desk cX6_desk 7 (some .int)) (tw_R 3 1 9) (tw_Pc D ad (wX b σ h Q) sz [.ref (ad 0), .int (nI r), .int f, .int a, .int q]) (tw_Qn D ad (wX b σ h Q) (wX b (deskM σ (nI r) f a q).2 h Q) (tw_A ad (wX b σ h Q) sz) (fun _ => some (.int (deskM σ (nI r) f a q).1))) 1 9 (tw_A ad (wX b σ h Q) sz) := by
  refine tw_met (by decide) rfl (by simp [lg_sl, Value.category]) (fun p e s m below meth c ls S hK hr hlocks hnm hsz hI hl => ?_)
  have hx := S.1
  have hb := S.2.1
  have hl : lv_has ls 7 [(0, .ref (ad 0)), (1, .int (nI r)), (2, .int f), (3, .int a), (4, .int q)] := hl
  refine lv_aload_n hx hb dX6_desk_0 rfl (lv_at hl 0 rfl) ?_
  refine lv_iload_n hx hb dX6_desk_1 rfl (lv_at hl 1 rfl) ?_
  refine tw_calla (tw_rV (As := [.int (nI r)]) (rest := []) S hK hI kX6_112 (c_X6_findRoom_some l D ad _ _ _ _ _ _ hr8) wX_0 rfl rfl ⟨Nat.le_of_ble_eq_true rfl, Nat.le_of_ble_eq_true rfl⟩ ⟨Nat.le_of_ble_eq_true rfl, Nat.le_of_ble_eq_true rfl⟩ rfl hl.1 rfl (Nat.le_of_ble_eq_true rfl) dX6_desk_2) hI (fun H locs hI => ?_)
  refine lv_astore (lv' := [(5, .ref (ad (10 + r))), (0, .ref (ad 0)), (1, .int (nI r)), (2, .int f), (3, .int a), (4, .int q)]) hx hb dX6_desk_5 hl (by decide) rfl (fun ls hl => ?_)
  refine lv_aload hx hb dX6_desk_7 (lv_at hl 0 rfl) ?_
  refine lv_ifnull hx hb dX6_desk_9 ?_
  refine lv_iload_n hx hb dX6_desk_12 rfl (lv_at hl 3 rfl) ?_
  refine tw_calli (tw_rS (As := [.int f]) (rest := []) S hK hI kX6_101 (c_X6_isForm l D ad _ _ _) ⟨Nat.le_of_ble_eq_true rfl, Nat.le_of_ble_eq_true rfl⟩ ⟨Nat.le_of_ble_eq_true rfl, Nat.le_of_ble_eq_true rfl⟩ rfl hl.1 rfl (Nat.le_of_ble_eq_true rfl) dX6_desk_13) hI (fun H locs hI => ?_)
  refine lv_topi (fun x1 e1 => ?_)
  refine lv_if_eq (tgt := 26) hx hb dX6_desk_16 (by decide) (fun c2 => ?_) (fun c2 => ?_)
  · refine lv_aload_n hx hb dX6_desk_26 rfl (lv_at hl 1 rfl) ?_
    refine lv_bipush (v := (-2)) hx hb dX6_desk_27 (by decide) ?_
    refine tw_calli (tw_rV (As := [.int (-2)]) (rest := []) S hK hI kX6_50 (c_X6_refuse l D ad _ _ _ _ _ _) wX_0 rfl rfl ⟨Nat.le_of_ble_eq_true rfl, Nat.le_of_ble_eq_true rfl⟩ ⟨Nat.le_of_ble_eq_true rfl, Nat.le_of_ble_eq_true rfl⟩ rfl hl.1 rfl (Nat.le_of_ble_eq_true rfl) dX6_desk_29) hI (fun H locs hI => ?_)
    refine lv_topi (fun x3 e3 => ?_)
    subst e3
    subst e1
    rw [dk_form hr8 hf]
    refine W.widen (k := 1) (n := 9) (Nat.le_of_ble_eq_true rfl) (Nat.le_of_ble_eq_true rfl) ?_
    exact W.iret S.1 S.2.1 hr (fun t ht _ => tw_retN (r := fun _ => some (.int (-2))) hI (fun _ _ _ => rfl) ht) hI.2.2.1.2.2 dX6_desk_32 hlocks
  · exact (by subst e1; exact absurd hf c2)

set_option maxHeartbeats 2000000 in
set_option maxRecDepth 100000 in
theorem c_X6_desk_act (l : Launch) (D : tw_G) (ad : Nat → Nat) (b : tw_W) (σ : Sg) (h : Int32) (Q : Nat → Int32) (sz : Nat) (r : Nat) (f a q : Int32) (hr8 : r < 8) (hf : ¬ isFormF f = 0) (ha : isActF a = 0) : Met l yX6_desk (tw_w yX6_desk cX6_desk 7 (some .int)) (tw_R 3 1 9) (tw_Pc D ad (wX b σ h Q) sz [.ref (ad 0), .int (nI r), .int f, .int a, .int q]) (tw_Qn D ad (wX b σ h Q) (wX b (deskM σ (nI r) f a q).2 h Q) (tw_A ad (wX b σ h Q) sz) (fun _ => some (.int (deskM σ (nI r) f a q).1))) 1 9 (tw_A ad (wX b σ h Q) sz) := by
  refine tw_met (by decide) rfl (by simp [lg_sl, Value.category]) (fun p e s m below meth c ls S hK hr hlocks hnm hsz hI hl => ?_)
  have hx := S.1
  have hb := S.2.1
  have hl : lv_has ls 7 [(0, .ref (ad 0)), (1, .int (nI r)), (2, .int f), (3, .int a), (4, .int q)] := hl
  refine lv_aload_n hx hb dX6_desk_0 rfl (lv_at hl 0 rfl) ?_
  refine lv_iload_n hx hb dX6_desk_1 rfl (lv_at hl 1 rfl) ?_
  refine tw_calla (tw_rV (As := [.int (nI r)]) (rest := []) S hK hI kX6_112 (c_X6_findRoom_some l D ad _ _ _ _ _ _ hr8) wX_0 rfl rfl ⟨Nat.le_of_ble_eq_true rfl, Nat.le_of_ble_eq_true rfl⟩ ⟨Nat.le_of_ble_eq_true rfl, Nat.le_of_ble_eq_true rfl⟩ rfl hl.1 rfl (Nat.le_of_ble_eq_true rfl) dX6_desk_2) hI (fun H locs hI => ?_)
  refine lv_astore (lv' := [(5, .ref (ad (10 + r))), (0, .ref (ad 0)), (1, .int (nI r)), (2, .int f), (3, .int a), (4, .int q)]) hx hb dX6_desk_5 hl (by decide) rfl (fun ls hl => ?_)
  refine lv_aload hx hb dX6_desk_7 (lv_at hl 0 rfl) ?_
  refine lv_ifnull hx hb dX6_desk_9 ?_
  refine lv_iload_n hx hb dX6_desk_12 rfl (lv_at hl 3 rfl) ?_
  refine tw_calli (tw_rS (As := [.int f]) (rest := []) S hK hI kX6_101 (c_X6_isForm l D ad _ _ _) ⟨Nat.le_of_ble_eq_true rfl, Nat.le_of_ble_eq_true rfl⟩ ⟨Nat.le_of_ble_eq_true rfl, Nat.le_of_ble_eq_true rfl⟩ rfl hl.1 rfl (Nat.le_of_ble_eq_true rfl) dX6_desk_13) hI (fun H locs hI => ?_)
  refine lv_topi (fun x1 e1 => ?_)
  refine lv_if_eq (tgt := 26) hx hb dX6_desk_16 (by decide) (fun c2 => ?_) (fun c2 => ?_)
  · exact (by subst e1; exact absurd c2 hf)
  · refine lv_iload_n hx hb dX6_desk_19 rfl (lv_at hl 4 rfl) ?_
    refine tw_calli (tw_rS (As := [.int a]) (rest := []) S hK hI kX6_116 (c_X6_isAct l D ad _ _ _) ⟨Nat.le_of_ble_eq_true rfl, Nat.le_of_ble_eq_true rfl⟩ ⟨Nat.le_of_ble_eq_true rfl, Nat.le_of_ble_eq_true rfl⟩ rfl hl.1 rfl (Nat.le_of_ble_eq_true rfl) dX6_desk_20) hI (fun H locs hI => ?_)
    refine lv_topi (fun x3 e3 => ?_)
    refine lv_if_ne (tgt := 33) hx hb dX6_desk_23 (by decide) (fun c4 => ?_) (fun c4 => ?_)
    · exact (by subst e3; subst e1; exact absurd ha c4)
    · refine lv_aload_n hx hb dX6_desk_26 rfl (lv_at hl 1 rfl) ?_
      refine lv_bipush (v := (-2)) hx hb dX6_desk_27 (by decide) ?_
      refine tw_calli (tw_rV (As := [.int (-2)]) (rest := []) S hK hI kX6_50 (c_X6_refuse l D ad _ _ _ _ _ _) wX_0 rfl rfl ⟨Nat.le_of_ble_eq_true rfl, Nat.le_of_ble_eq_true rfl⟩ ⟨Nat.le_of_ble_eq_true rfl, Nat.le_of_ble_eq_true rfl⟩ rfl hl.1 rfl (Nat.le_of_ble_eq_true rfl) dX6_desk_29) hI (fun H locs hI => ?_)
      refine lv_topi (fun x5 e5 => ?_)
      subst e5
      subst e3
      subst e1
      rw [dk_act hr8 hf ha]
      refine W.widen (k := 1) (n := 9) (Nat.le_of_ble_eq_true rfl) (Nat.le_of_ble_eq_true rfl) ?_
      exact W.iret S.1 S.2.1 hr (fun t ht _ => tw_retN (r := fun _ => some (.int (-2))) hI (fun _ _ _ => rfl) ht) hI.2.2.1.2.2 dX6_desk_32 hlocks

set_option maxHeartbeats 2000000 in
set_option maxRecDepth 100000 in
theorem c_X6_desk_full (l : Launch) (D : tw_G) (ad : Nat → Nat) (b : tw_W) (σ : Sg) (h : Int32) (Q : Nat → Int32) (sz : Nat) (r : Nat) (f a q : Int32) (hr8 : r < 8) (hf : ¬ isFormF f = 0) (ha : ¬ isActF a = 0) (h4 : σ.1 5 r = 4) : Met l yX6_desk (tw_w yX6_desk cX6_desk 7 (some .int)) (tw_R 3 1 9) (tw_Pc D ad (wX b σ h Q) sz [.ref (ad 0), .int (nI r), .int f, .int a, .int q]) (tw_Qn D ad (wX b σ h Q) (wX b (deskM σ (nI r) f a q).2 h Q) (tw_A ad (wX b σ h Q) sz) (fun _ => some (.int (deskM σ (nI r) f a q).1))) 1 9 (tw_A ad (wX b σ h Q) sz) := by
  refine tw_met (by decide) rfl (by simp [lg_sl, Value.category]) (fun p e s m below meth c ls S hK hr hlocks hnm hsz hI hl => ?_)
  have hx := S.1
  have hb := S.2.1
  have hl : lv_has ls 7 [(0, .ref (ad 0)), (1, .int (nI r)), (2, .int f), (3, .int a), (4, .int q)] := hl
  refine lv_aload_n hx hb dX6_desk_0 rfl (lv_at hl 0 rfl) ?_
  refine lv_iload_n hx hb dX6_desk_1 rfl (lv_at hl 1 rfl) ?_
  refine tw_calla (tw_rV (As := [.int (nI r)]) (rest := []) S hK hI kX6_112 (c_X6_findRoom_some l D ad _ _ _ _ _ _ hr8) wX_0 rfl rfl ⟨Nat.le_of_ble_eq_true rfl, Nat.le_of_ble_eq_true rfl⟩ ⟨Nat.le_of_ble_eq_true rfl, Nat.le_of_ble_eq_true rfl⟩ rfl hl.1 rfl (Nat.le_of_ble_eq_true rfl) dX6_desk_2) hI (fun H locs hI => ?_)
  refine lv_astore (lv' := [(5, .ref (ad (10 + r))), (0, .ref (ad 0)), (1, .int (nI r)), (2, .int f), (3, .int a), (4, .int q)]) hx hb dX6_desk_5 hl (by decide) rfl (fun ls hl => ?_)
  refine lv_aload hx hb dX6_desk_7 (lv_at hl 0 rfl) ?_
  refine lv_ifnull hx hb dX6_desk_9 ?_
  refine lv_iload_n hx hb dX6_desk_12 rfl (lv_at hl 3 rfl) ?_
  refine tw_calli (tw_rS (As := [.int f]) (rest := []) S hK hI kX6_101 (c_X6_isForm l D ad _ _ _) ⟨Nat.le_of_ble_eq_true rfl, Nat.le_of_ble_eq_true rfl⟩ ⟨Nat.le_of_ble_eq_true rfl, Nat.le_of_ble_eq_true rfl⟩ rfl hl.1 rfl (Nat.le_of_ble_eq_true rfl) dX6_desk_13) hI (fun H locs hI => ?_)
  refine lv_topi (fun x1 e1 => ?_)
  refine lv_if_eq (tgt := 26) hx hb dX6_desk_16 (by decide) (fun c2 => ?_) (fun c2 => ?_)
  · exact (by subst e1; exact absurd c2 hf)
  · refine lv_iload_n hx hb dX6_desk_19 rfl (lv_at hl 4 rfl) ?_
    refine tw_calli (tw_rS (As := [.int a]) (rest := []) S hK hI kX6_116 (c_X6_isAct l D ad _ _ _) ⟨Nat.le_of_ble_eq_true rfl, Nat.le_of_ble_eq_true rfl⟩ ⟨Nat.le_of_ble_eq_true rfl, Nat.le_of_ble_eq_true rfl⟩ rfl hl.1 rfl (Nat.le_of_ble_eq_true rfl) dX6_desk_20) hI (fun H locs hI => ?_)
    refine lv_topi (fun x3 e3 => ?_)
    refine lv_if_ne (tgt := 33) hx hb dX6_desk_23 (by decide) (fun c4 => ?_) (fun c4 => ?_)
    · refine lv_aload hx hb dX6_desk_33 (lv_at hl 0 rfl) ?_
      refine f6_119_4 S hK hI (wX_room hr8) rfl (v' := .int (σ.1 5 r)) rfl dX6_desk_35 ?_
      refine lv_eqi (v := 4) h4 ?_
      refine lv_iconst (v := 4) hx hb dX6_desk_38 (by decide) ?_
      refine lv_icmp_lt (tgt := 49) hx hb dX6_desk_39 (by decide) (fun c5 => ?_) (fun c5 => ?_)
      · exact absurd c5 (by decide)
      · refine lv_aload_n hx hb dX6_desk_42 rfl (lv_at hl 1 rfl) ?_
        refine lv_bipush (v := (-3)) hx hb dX6_desk_43 (by decide) ?_
        refine tw_calli (tw_rV (As := [.int (-3)]) (rest := []) S hK hI kX6_50 (c_X6_refuse l D ad _ _ _ _ _ _) wX_0 rfl rfl ⟨Nat.le_of_ble_eq_true rfl, Nat.le_of_ble_eq_true rfl⟩ ⟨Nat.le_of_ble_eq_true rfl, Nat.le_of_ble_eq_true rfl⟩ rfl hl.1 rfl (Nat.le_of_ble_eq_true rfl) dX6_desk_45) hI (fun H locs hI => ?_)
        refine lv_topi (fun x6 e6 => ?_)
        subst e6
        subst e3
        subst e1
        rw [dk_full hr8 hf ha h4]
        refine W.widen (k := 1) (n := 9) (Nat.le_of_ble_eq_true rfl) (Nat.le_of_ble_eq_true rfl) ?_
        exact W.iret S.1 S.2.1 hr (fun t ht _ => tw_retN (r := fun _ => some (.int (-3))) hI (fun _ _ _ => rfl) ht) hI.2.2.1.2.2 dX6_desk_48 hlocks
    · exact (by subst e3; subst e1; exact absurd c4 ha)

set_option maxHeartbeats 2000000 in
set_option maxRecDepth 100000 in
theorem c_X6_desk_ok (l : Launch) (D : tw_G) (ad : Nat → Nat) (b : tw_W) (σ : Sg) (h : Int32) (Q : Nat → Int32) (sz : Nat) (r c : Nat) (f a q : Int32) (B : Nat) (hV : INV σ B) (hbk : b_ok b) (hr8 : r < 8) (hf : ¬ isFormF f = 0) (ha : ¬ isActF a = 0) (hq : q = 0 ∨ q = 1) (e5 : σ.1 5 r = nI c) (ec : dcS σ r = c) (h4 : c < 4) : Met l yX6_desk (tw_w yX6_desk cX6_desk 7 (some .int)) (tw_R 3 1 9) (tw_Pc D ad (wX b σ h Q) sz [.ref (ad 0), .int (nI r), .int f, .int a, .int q]) (tw_Qn D ad (wX b σ h Q) (wX b (deskM σ (nI r) f a q).2 h (va_up Q (4 * r + c) 0)) (tw_A ad (wX b σ h Q) sz) (fun _ => some (.int (deskM σ (nI r) f a q).1))) 1 9 (tw_A ad (wX b σ h Q) sz) := by
  refine tw_met (by decide) rfl (by simp [lg_sl, Value.category]) (fun p e s m below meth cd ls S hK hr hlocks hnm hsz hI hl => ?_)
  have hx := S.1
  have hb := S.2.1
  have hl : lv_has ls 7 [(0, .ref (ad 0)), (1, .int (nI r)), (2, .int f), (3, .int a), (4, .int q)] := hl
  refine lv_aload_n hx hb dX6_desk_0 rfl (lv_at hl 0 rfl) ?_
  refine lv_iload_n hx hb dX6_desk_1 rfl (lv_at hl 1 rfl) ?_
  refine tw_calla (tw_rV (As := [.int (nI r)]) (rest := []) S hK hI kX6_112 (c_X6_findRoom_some l D ad _ _ _ _ _ _ hr8) wX_0 rfl rfl ⟨Nat.le_of_ble_eq_true rfl, Nat.le_of_ble_eq_true rfl⟩ ⟨Nat.le_of_ble_eq_true rfl, Nat.le_of_ble_eq_true rfl⟩ rfl hl.1 rfl (Nat.le_of_ble_eq_true rfl) dX6_desk_2) hI (fun H locs hI => ?_)
  refine lv_astore (lv' := [(5, .ref (ad (10 + r))), (0, .ref (ad 0)), (1, .int (nI r)), (2, .int f), (3, .int a), (4, .int q)]) hx hb dX6_desk_5 hl (by decide) rfl (fun ls hl => ?_)
  refine lv_aload hx hb dX6_desk_7 (lv_at hl 0 rfl) ?_
  refine lv_ifnull hx hb dX6_desk_9 ?_
  refine lv_iload_n hx hb dX6_desk_12 rfl (lv_at hl 3 rfl) ?_
  refine tw_calli (tw_rS (As := [.int f]) (rest := []) S hK hI kX6_101 (c_X6_isForm l D ad _ _ _) ⟨Nat.le_of_ble_eq_true rfl, Nat.le_of_ble_eq_true rfl⟩ ⟨Nat.le_of_ble_eq_true rfl, Nat.le_of_ble_eq_true rfl⟩ rfl hl.1 rfl (Nat.le_of_ble_eq_true rfl) dX6_desk_13) hI (fun H locs hI => ?_)
  refine lv_topi (fun x1 e1 => ?_)
  refine lv_if_eq (tgt := 26) hx hb dX6_desk_16 (by decide) (fun c2 => ?_) (fun c2 => ?_)
  · exact (by subst e1; exact absurd c2 hf)
  · refine lv_iload_n hx hb dX6_desk_19 rfl (lv_at hl 4 rfl) ?_
    refine tw_calli (tw_rS (As := [.int a]) (rest := []) S hK hI kX6_116 (c_X6_isAct l D ad _ _ _) ⟨Nat.le_of_ble_eq_true rfl, Nat.le_of_ble_eq_true rfl⟩ ⟨Nat.le_of_ble_eq_true rfl, Nat.le_of_ble_eq_true rfl⟩ rfl hl.1 rfl (Nat.le_of_ble_eq_true rfl) dX6_desk_20) hI (fun H locs hI => ?_)
    refine lv_topi (fun x3 e3 => ?_)
    refine lv_if_ne (tgt := 33) hx hb dX6_desk_23 (by decide) (fun c4 => ?_) (fun c4 => ?_)
    · refine lv_aload hx hb dX6_desk_33 (lv_at hl 0 rfl) ?_
      refine f6_119_4 S hK hI (wX_room hr8) rfl (v' := .int (σ.1 5 r)) rfl dX6_desk_35 ?_
      refine lv_eqi (v := (nI c)) e5 ?_
      refine lv_iconst (v := 4) hx hb dX6_desk_38 (by decide) ?_
      refine lv_icmp_lt (tgt := 49) hx hb dX6_desk_39 (by decide) (fun c5 => ?_) (fun c5 => ?_)
      · refine lv_aload hx hb dX6_desk_49 (lv_at hl 0 rfl) ?_
        refine f6_119_4 S hK hI (wX_room hr8) rfl (v' := .int (σ.1 5 r)) rfl dX6_desk_51 ?_
        refine lv_eqi (v := (nI c)) e5 ?_
        refine lv_istore (lv' := [(6, .int (nI c)), (5, .ref (ad (10 + r))), (0, .ref (ad 0)), (1, .int (nI r)), (2, .int f), (3, .int a), (4, .int q)]) hx hb dX6_desk_54 hl (by decide) rfl (fun ls hl => ?_)
        refine lv_aload hx hb dX6_desk_56 (lv_at hl 1 rfl) ?_
        refine f6_122_4 S hK hI (wX_room hr8) rfl (v' := .ref (ad (20 + r))) rfl dX6_desk_58 ?_
        refine lv_iload hx hb dX6_desk_61 (lv_at hl 0 rfl) ?_
        refine tw_new S hK hI iT0 tyX0 tyX0_ok (tw_mem (by decide +kernel) rfl) (tw_mem (by decide +kernel) rfl) (tw_mem (by decide +kernel) rfl) (ci := 0) rfl (fs := [.int 0, .int 0, .int 0, .int 0, .int 0, .null, .int 0, .null, .int 0]) (fun j hj => by rcases (show j = 0 ∨ j = 1 ∨ j = 2 ∨ j = 3 ∨ j = 4 ∨ j = 5 ∨ j = 6 ∨ j = 7 ∨ j = 8 by omega) with rfl | rfl | rfl | rfl | rfl | rfl | rfl | rfl | rfl <;> rfl) (fun _ => rfl) ((30 + (4 * r + c))) (wX_noD hr8 h4 (by omega)) (cl_desk hV hbk hr8 h4 (by omega)) ((Nat.le_of_ble_eq_true rfl)) ((Nat.le_of_ble_eq_true rfl)) dX6_desk_63 (fun ad H had hI => ?_)
        refine W_stk (st' := [.ref (ad (30 + (4 * r + c))), .int (nI c), .ref (ad (20 + r))]) (by rw [had (20 + r) (by omega)]) ?_
        have hl : lv_has ls 7 [(6, .int (nI c)), (5, .ref (ad (10 + r))), (0, .ref (ad 0)), (1, .int (nI r)), (2, .int f), (3, .int a), (4, .int q)] := by rw [had (10 + r) (by omega), had 0 (by omega)]; exact hl
        refine lv_dup hx hb dX6_desk_66 rfl ?_
        refine lv_iload_n hx hb dX6_desk_67 rfl (lv_at hl 4 rfl) ?_
        refine lv_iload_n hx hb dX6_desk_68 rfl (lv_at hl 5 rfl) ?_
        refine lv_iload hx hb dX6_desk_69 (lv_at hl 6 rfl) ?_
        refine tw_callv (tw_rIN (As := [.int f, .int a, .int q]) (rest := [.ref (ad (30 + (4 * r + c))), .int (nI c), .ref (ad (20 + r))]) S hK hI kX6_128 (c_X0_init l D ad _ _ _ _ _ _ (va_up_self _ _ _) hq) ⟨Nat.le_of_ble_eq_true rfl, Nat.le_of_ble_eq_true rfl⟩ ⟨Nat.le_of_ble_eq_true rfl, Nat.le_of_ble_eq_true rfl⟩ rfl hl.1 rfl (Nat.le_of_ble_eq_true rfl) dX6_desk_71) hI (fun H locs hI => ?_)
        rw [up_up] at hI
        refine tw_aast S hK hI (t := 20 + r) ((va_up_ne _ _ (show 20 + r ≠ 30 + (4 * r + c) by omega)).trans (wX_darr hr8)) (k := 3) rfl (vp_in_nI h4 (by decide)) (some (30 + (4 * r + c))) rfl (fun y e => by cases e; exact tw_any hK hI (va_up_self _ _ _) rfl (Or.inr rfl)) dX6_desk_74 (fun H locs hI => ?_)
        rw [show (nI c).toNatClampNeg = c from nI_clamp (by omega)] at hI
        refine lv_aload hx hb dX6_desk_75 (lv_at hl 1 rfl) ?_
        refine lv_dup hx hb dX6_desk_77 rfl ?_
        refine f6_119_4 S hK hI ((va_up_ne _ _ (show 10 + r ≠ 20 + r by omega)).trans ((va_up_ne _ _ (show 10 + r ≠ 30 + (4 * r + c) by omega)).trans (wX_room hr8))) rfl (v' := .int (σ.1 5 r)) rfl dX6_desk_78 ?_
        refine lv_eqi (v := (nI c)) e5 ?_
        refine lv_iconst (v := 1) hx hb dX6_desk_81 (by decide) ?_
        refine lv_iadd hx hb dX6_desk_82 ?_
        refine lv_eqi (v := (nI (c + 1))) (nA (a := c) (b := 1) (c := c + 1) (by omega)) ?_
        refine p6_119_4 S hK hI ((va_up_ne _ _ (show 10 + r ≠ 20 + r by omega)).trans ((va_up_ne _ _ (show 10 + r ≠ 30 + (4 * r + c) by omega)).trans (wX_room hr8))) (v := .int (nI (c + 1))) rfl rfl rfl (Nat.le_of_ble_eq_true rfl) dX6_desk_83 (fun H locs hI => ?_)
        change tw_I D _ ad (va_up (va_up (va_up (wX b σ h Q) _ _) _ _) _ (some (.inr (3, [.ref (20 + r), .int (nI (c + 1))])))) s.heap H locs at hI
        rw [wX_newdesk hV hr8 h4 ec] at hI
        refine lv_aload_n hx hb dX6_desk_86 rfl (lv_at hl 2 rfl) ?_
        refine lv_iload hx hb dX6_desk_87 (lv_at hl 0 rfl) ?_
        refine tw_calli (tw_rV (As := [.int (nI c)]) (rest := []) S hK hI kX6_62 (c_X6_accept l D ad _ _ _ _ _ _) wX_0 rfl rfl ⟨Nat.le_of_ble_eq_true rfl, Nat.le_of_ble_eq_true rfl⟩ ⟨Nat.le_of_ble_eq_true rfl, Nat.le_of_ble_eq_true rfl⟩ rfl hl.1 rfl (Nat.le_of_ble_eq_true rfl) dX6_desk_89) hI (fun H locs hI => ?_)
        refine lv_topi (fun x6 e6 => ?_)
        subst e6
        subst e3
        subst e1
        rw [dk_ok hr8 hf ha e5 h4]
        refine W.widen (k := 1) (n := 9) (Nat.le_of_ble_eq_true rfl) (Nat.le_of_ble_eq_true rfl) ?_
        exact W.iret S.1 S.2.1 hr (fun t ht _ => tw_retN (r := fun _ => some (.int (nI c))) hI (fun t ε h => had t (fun e => by subst e; rw [wX_noD hr8 h4 (by omega)] at h; cases h)) ht) hI.2.2.1.2.2 dX6_desk_92 hlocks
      · exact absurd (nI_lt h4 (by decide)) c5
    · exact (by subst e3; subst e1; exact absurd c4 ha)
