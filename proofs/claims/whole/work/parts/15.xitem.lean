/-! the class: items one by one -/
theorem numK {κ : Int32} (h : isNumK κ = true) : ¬ 3 < κ := by
  unfold isNumK at h
  have := of_decide_eq_true h
  rw [Int32.le_iff_toInt_le] at this
  rw [Int32.lt_iff_toInt_lt]
  omega
theorem numK_not {κ : Int32} (h : isNumK κ = false) : 3 < κ := by
  unfold isNumK at h
  have := of_decide_eq_false h
  rw [Int32.le_iff_toInt_le] at this
  rw [Int32.lt_iff_toInt_lt]
  omega
def isOfX (κ f : Int32) : Int32 := if f = 5 then (if κ = 5 then 1 else if κ = 6 then 1 else 0) else if f = 6 then (if κ = f then 1 else 0) else if f = 7 then (if κ = f then 1 else 0) else if f = 8 then (if κ = 8 then 1 else if κ = 9 then 1 else 0) else if f = 9 then (if κ = f then 1 else 0) else if f = 10 then (if κ = 10 then 1 else if κ = 8 then 1 else if κ = 9 then 1 else 0) else if f = 11 then (if κ = 11 then 1 else if κ = 12 then 1 else 0) else if f = 12 then (if κ = f then 1 else 0) else if f = 13 then isPieceF κ else (if κ = f then 1 else 0)
theorem isOfX_b (κ f : Int32) : narrow .boolean (.int (isOfX κ f)) = .int (isOfX κ f) := by
  unfold isOfX isPieceF
  repeat' split
  all_goals rfl
def fitX (κ : Int32) (v : Int64) : Int64 := if κ = 0 then (v.toInt32.toUInt32 % 65536).toInt32.toInt64 else if κ = 1 then v.toInt32.toInt16.toInt32.toInt64 else if κ = 2 then v else if κ = 3 then (if lg_cmp v 0 = 0 then 0 else 1) else v
def takenX (κ : Int32) : Int32 := if κ = 4 then 0 else if κ = 5 then 8 else if κ = 6 then 8 else if κ = 7 then 8 else if κ = 8 then 5 else if κ = 9 then 5 else if κ = 10 then 13 else 8

set_option maxHeartbeats 2000000 in
set_option maxRecDepth 100000 in
theorem c_X6_numberOf_num (l : Launch) (D : tw_G) (ad : Nat → Nat) (b : tw_W) (σ : Sg) (h : Int32) (Q : Nat → Int32) (sz : Nat) (k : Nat) (hn : k < nS σ) (h6 : k < 60) (hN : isNumK (σ.1 1 k) = true) : Met l yX6_numberOf (tw_w yX6_numberOf cX6_numberOf 1 (some .int)) (tw_R 0 0 0) (tw_Pc D ad (wX b σ h Q) sz [.ref (ad (100 + k))]) (tw_Q D ad (wX b (σ) h Q) (tw_A ad (wX b σ h Q) sz) (some (.int (nI k)))) 0 0 (tw_A ad (wX b σ h Q) sz) := by
  refine tw_met (by decide) rfl (by simp [lg_sl, Value.category]) (fun p e s m below meth c ls S hK hr hlocks hnm hsz hI hl => ?_)
  have hx := S.1
  have hb := S.2.1
  have hl : lv_has ls 1 [(0, .ref (ad (100 + k)))] := hl
  refine lv_aload_n hx hb dX6_numberOf_0 rfl (lv_at hl 0 rfl) ?_
  refine lv_ifnonnull (tgt := 8) hx hb dX6_numberOf_1 (by decide) ?_
  refine lv_aload_n hx hb dX6_numberOf_8 rfl (lv_at hl 0 rfl) ?_
  refine f6_175_2 S hK hI (xI_num hn h6 hN) rfl (v' := .int (nI k)) rfl dX6_numberOf_9 ?_
  exact tw_iret S hr hlocks hI dX6_numberOf_12

set_option maxHeartbeats 2000000 in
set_option maxRecDepth 100000 in
theorem c_X6_numberOf_one (l : Launch) (D : tw_G) (ad : Nat → Nat) (b : tw_W) (σ : Sg) (h : Int32) (Q : Nat → Int32) (sz : Nat) (k : Nat) (hn : k < nS σ) (h6 : k < 60) (hN : isNumK (σ.1 1 k) = false) (hO : isOneK (σ.1 1 k) = true) : Met l yX6_numberOf (tw_w yX6_numberOf cX6_numberOf 1 (some .int)) (tw_R 0 0 0) (tw_Pc D ad (wX b σ h Q) sz [.ref (ad (100 + k))]) (tw_Q D ad (wX b (σ) h Q) (tw_A ad (wX b σ h Q) sz) (some (.int (nI k)))) 0 0 (tw_A ad (wX b σ h Q) sz) := by
  refine tw_met (by decide) rfl (by simp [lg_sl, Value.category]) (fun p e s m below meth c ls S hK hr hlocks hnm hsz hI hl => ?_)
  have hx := S.1
  have hb := S.2.1
  have hl : lv_has ls 1 [(0, .ref (ad (100 + k)))] := hl
  refine lv_aload_n hx hb dX6_numberOf_0 rfl (lv_at hl 0 rfl) ?_
  refine lv_ifnonnull (tgt := 8) hx hb dX6_numberOf_1 (by decide) ?_
  refine lv_aload_n hx hb dX6_numberOf_8 rfl (lv_at hl 0 rfl) ?_
  refine f6_175_3 S hK hI (xI_one hn h6 hN hO) rfl (v' := .int (nI k)) rfl dX6_numberOf_9 ?_
  exact tw_iret S hr hlocks hI dX6_numberOf_12

set_option maxHeartbeats 2000000 in
set_option maxRecDepth 100000 in
theorem c_X6_numberOf_th (l : Launch) (D : tw_G) (ad : Nat → Nat) (b : tw_W) (σ : Sg) (h : Int32) (Q : Nat → Int32) (sz : Nat) (k : Nat) (hn : k < nS σ) (h6 : k < 60) (hN : isNumK (σ.1 1 k) = false) (hO : isOneK (σ.1 1 k) = false) : Met l yX6_numberOf (tw_w yX6_numberOf cX6_numberOf 1 (some .int)) (tw_R 0 0 0) (tw_Pc D ad (wX b σ h Q) sz [.ref (ad (100 + k))]) (tw_Q D ad (wX b (σ) h Q) (tw_A ad (wX b σ h Q) sz) (some (.int (nI k)))) 0 0 (tw_A ad (wX b σ h Q) sz) := by
  refine tw_met (by decide) rfl (by simp [lg_sl, Value.category]) (fun p e s m below meth c ls S hK hr hlocks hnm hsz hI hl => ?_)
  have hx := S.1
  have hb := S.2.1
  have hl : lv_has ls 1 [(0, .ref (ad (100 + k)))] := hl
  refine lv_aload_n hx hb dX6_numberOf_0 rfl (lv_at hl 0 rfl) ?_
  refine lv_ifnonnull (tgt := 8) hx hb dX6_numberOf_1 (by decide) ?_
  refine lv_aload_n hx hb dX6_numberOf_8 rfl (lv_at hl 0 rfl) ?_
  refine f6_175_5 S hK hI (xI_th hn h6 hN hO) rfl (v' := .int (nI k)) rfl dX6_numberOf_9 ?_
  exact tw_iret S hr hlocks hI dX6_numberOf_12

theorem c_X6_numberOf_some (l : Launch) (D : tw_G) (ad : Nat → Nat) (b : tw_W) (σ : Sg) (h : Int32) (Q : Nat → Int32) (sz : Nat) (k : Nat) (hn : k < nS σ) (h6 : k < 60) : Met l yX6_numberOf (tw_w yX6_numberOf cX6_numberOf 1 (some .int)) (tw_R 0 0 0) (tw_Pc D ad (wX b σ h Q) sz [.ref (ad (100 + k))]) (tw_Q D ad (wX b σ h Q) (tw_A ad (wX b σ h Q) sz) (some (.int (nI k)))) 0 0 (tw_A ad (wX b σ h Q) sz) := by
  cases hN : isNumK (σ.1 1 k) with
  | true => exact c_X6_numberOf_num l D ad b σ h Q sz k hn h6 hN
  | false =>
    cases hO : isOneK (σ.1 1 k) with
    | true => exact c_X6_numberOf_one l D ad b σ h Q sz k hn h6 hN hO
    | false => exact c_X6_numberOf_th l D ad b σ h Q sz k hn h6 hN hO
set_option maxHeartbeats 2000000 in
set_option maxRecDepth 100000 in
theorem c_X6_numberOf_none (l : Launch) (D : tw_G) (ad : Nat → Nat) (b : tw_W) (σ : Sg) (h : Int32) (Q : Nat → Int32) (sz : Nat)  : Met l yX6_numberOf (tw_w yX6_numberOf cX6_numberOf 1 (some .int)) (tw_R 0 0 0) (tw_Pc D ad (wX b σ h Q) sz [.null]) (tw_Q D ad (wX b (σ) h Q) (tw_A ad (wX b σ h Q) sz) (some (.int (-1)))) 0 0 (tw_A ad (wX b σ h Q) sz) := by
  refine tw_met (by decide) rfl (by simp [lg_sl, Value.category]) (fun p e s m below meth c ls S hK hr hlocks hnm hsz hI hl => ?_)
  have hx := S.1
  have hb := S.2.1
  have hl : lv_has ls 1 [(0, .null)] := hl
  refine lv_aload_nN hx hb dX6_numberOf_0 rfl (lv_at hl 0 rfl) ?_
  refine lv_ifnonnullN hx hb dX6_numberOf_1 ?_
  refine lv_iconst (v := (-1)) hx hb dX6_numberOf_4 (by decide) ?_
  refine lv_goto (tgt := 12) hx hb dX6_numberOf_5 (by decide) ?_
  exact tw_iret S hr hlocks hI dX6_numberOf_12

set_option maxHeartbeats 2000000 in
set_option maxRecDepth 100000 in
theorem c_X1_isOf_num (l : Launch) (D : tw_G) (ad : Nat → Nat) (b : tw_W) (σ : Sg) (h : Int32) (Q : Nat → Int32) (sz : Nat) (k : Nat) (f : Int32) (hn : k < nS σ) (h6 : k < 60) (hN : isNumK (σ.1 1 k) = true) : Met l yX1_isOf (tw_w yX1_isOf cX1_isOf 2 (some .boolean)) (tw_R 1 0 0) (tw_Pc D ad (wX b σ h Q) sz [.ref (ad (100 + k)), .int f]) (tw_Q D ad (wX b (σ) h Q) (tw_A ad (wX b σ h Q) sz) (some (.int (isOfX (σ.1 1 k) f)))) 0 0 (tw_A ad (wX b σ h Q) sz) := by
  refine tw_met (by decide) rfl (by simp [lg_sl, Value.category]) (fun p e s m below meth c ls S hK hr hlocks hnm hsz hI hl => ?_)
  have hx := S.1
  have hb := S.2.1
  have hl : lv_has ls 2 [(0, .ref (ad (100 + k))), (1, .int f)] := hl
  refine lv_iload_n hx hb dX1_isOf_0 rfl (lv_at hl 1 rfl) ?_
  rcases tsw_5_13 f with h1 | h1 | h1 | h1 | h1 | h1 | h1 | h1 | h1 | ⟨h1, n1_5, n1_6, n1_7, n1_8, n1_9, n1_10, n1_11, n1_12, n1_13⟩
  · have n1_6 : ¬ f = 6 := by rw [h1]; decide
    have n1_7 : ¬ f = 7 := by rw [h1]; decide
    have n1_8 : ¬ f = 8 := by rw [h1]; decide
    have n1_9 : ¬ f = 9 := by rw [h1]; decide
    have n1_10 : ¬ f = 10 := by rw [h1]; decide
    have n1_11 : ¬ f = 11 := by rw [h1]; decide
    have n1_12 : ¬ f = 12 := by rw [h1]; decide
    have n1_13 : ¬ f = 13 := by rw [h1]; decide
    refine lv_tableIn (off := 51) (tgt := 52) hx hb dX1_isOf_1 (by rw [h1]; decide) (by rw [h1]; decide) (by rw [h1]; decide) (by decide) ?_
    refine lv_aload_n hx hb dX1_isOf_52 rfl (lv_at hl 0 rfl) ?_
    refine f1_15_2 S hK hI (xI_num hn h6 hN) rfl (v' := .int (σ.1 1 k)) rfl dX1_isOf_53 ?_
    refine lv_topi (fun x2 e2 => ?_)
    refine lv_iconst (v := 5) hx hb dX1_isOf_56 (by decide) ?_
    refine lv_icmp_eq (tgt := 69) hx hb dX1_isOf_57 (by decide) (fun c3 => ?_) (fun c3 => ?_)
    · refine lv_iconst (v := 1) hx hb dX1_isOf_69 (by decide) ?_
      refine lv_goto (tgt := 74) hx hb dX1_isOf_70 (by decide) ?_
      subst e2
      unfold isOfX
      try rw [if_pos h1]
      try rw [if_pos c3]
      exact tw_zret S hr (by decide) hlocks hI dX1_isOf_74
    · refine lv_aload_n hx hb dX1_isOf_60 rfl (lv_at hl 0 rfl) ?_
      refine f1_15_2 S hK hI (xI_num hn h6 hN) rfl (v' := .int (σ.1 1 k)) rfl dX1_isOf_61 ?_
      refine lv_topi (fun x4 e4 => ?_)
      refine lv_bipush (v := 6) hx hb dX1_isOf_64 (by decide) ?_
      refine lv_icmp_ne (tgt := 73) hx hb dX1_isOf_66 (by decide) (fun c5 => ?_) (fun c5 => ?_)
      · refine lv_iconst (v := 0) hx hb dX1_isOf_73 (by decide) ?_
        subst e4
        subst e2
        unfold isOfX
        try rw [if_pos h1]
        try rw [if_neg c3]
        try rw [if_neg c5]
        exact tw_zret S hr (by decide) hlocks hI dX1_isOf_74
      · refine lv_iconst (v := 1) hx hb dX1_isOf_69 (by decide) ?_
        refine lv_goto (tgt := 74) hx hb dX1_isOf_70 (by decide) ?_
        subst e4
        subst e2
        unfold isOfX
        try rw [if_pos h1]
        try rw [if_neg c3]
        try rw [if_pos c5]
        exact tw_zret S hr (by decide) hlocks hI dX1_isOf_74
  · have n1_5 : ¬ f = 5 := by rw [h1]; decide
    have n1_7 : ¬ f = 7 := by rw [h1]; decide
    have n1_8 : ¬ f = 8 := by rw [h1]; decide
    have n1_9 : ¬ f = 9 := by rw [h1]; decide
    have n1_10 : ¬ f = 10 := by rw [h1]; decide
    have n1_11 : ¬ f = 11 := by rw [h1]; decide
    have n1_12 : ¬ f = 12 := by rw [h1]; decide
    have n1_13 : ¬ f = 13 := by rw [h1]; decide
    refine lv_tableIn (off := 163) (tgt := 164) hx hb dX1_isOf_1 (by rw [h1]; decide) (by rw [h1]; decide) (by rw [h1]; decide) (by decide) ?_
    refine lv_aload_n hx hb dX1_isOf_164 rfl (lv_at hl 0 rfl) ?_
    refine f1_15_2 S hK hI (xI_num hn h6 hN) rfl (v' := .int (σ.1 1 k)) rfl dX1_isOf_165 ?_
    refine lv_topi (fun x6 e6 => ?_)
    refine lv_iload_n hx hb dX1_isOf_168 rfl (lv_at hl 1 rfl) ?_
    refine lv_icmp_ne (tgt := 176) hx hb dX1_isOf_169 (by decide) (fun c7 => ?_) (fun c7 => ?_)
    · refine lv_iconst (v := 0) hx hb dX1_isOf_176 (by decide) ?_
      subst e6
      unfold isOfX
      try rw [if_neg n1_5]
      try rw [if_pos h1]
      try rw [if_neg c7]
      exact tw_zret S hr (by decide) hlocks hI dX1_isOf_177
    · refine lv_iconst (v := 1) hx hb dX1_isOf_172 (by decide) ?_
      refine lv_goto (tgt := 177) hx hb dX1_isOf_173 (by decide) ?_
      subst e6
      unfold isOfX
      try rw [if_neg n1_5]
      try rw [if_pos h1]
      try rw [if_pos c7]
      exact tw_zret S hr (by decide) hlocks hI dX1_isOf_177
  · have n1_5 : ¬ f = 5 := by rw [h1]; decide
    have n1_6 : ¬ f = 6 := by rw [h1]; decide
    have n1_8 : ¬ f = 8 := by rw [h1]; decide
    have n1_9 : ¬ f = 9 := by rw [h1]; decide
    have n1_10 : ¬ f = 10 := by rw [h1]; decide
    have n1_11 : ¬ f = 11 := by rw [h1]; decide
    have n1_12 : ¬ f = 12 := by rw [h1]; decide
    have n1_13 : ¬ f = 13 := by rw [h1]; decide
    refine lv_tableIn (off := 163) (tgt := 164) hx hb dX1_isOf_1 (by rw [h1]; decide) (by rw [h1]; decide) (by rw [h1]; decide) (by decide) ?_
    refine lv_aload_n hx hb dX1_isOf_164 rfl (lv_at hl 0 rfl) ?_
    refine f1_15_2 S hK hI (xI_num hn h6 hN) rfl (v' := .int (σ.1 1 k)) rfl dX1_isOf_165 ?_
    refine lv_topi (fun x8 e8 => ?_)
    refine lv_iload_n hx hb dX1_isOf_168 rfl (lv_at hl 1 rfl) ?_
    refine lv_icmp_ne (tgt := 176) hx hb dX1_isOf_169 (by decide) (fun c9 => ?_) (fun c9 => ?_)
    · refine lv_iconst (v := 0) hx hb dX1_isOf_176 (by decide) ?_
      subst e8
      unfold isOfX
      try rw [if_neg n1_5]
      try rw [if_neg n1_6]
      try rw [if_pos h1]
      try rw [if_neg c9]
      exact tw_zret S hr (by decide) hlocks hI dX1_isOf_177
    · refine lv_iconst (v := 1) hx hb dX1_isOf_172 (by decide) ?_
      refine lv_goto (tgt := 177) hx hb dX1_isOf_173 (by decide) ?_
      subst e8
      unfold isOfX
      try rw [if_neg n1_5]
      try rw [if_neg n1_6]
      try rw [if_pos h1]
      try rw [if_pos c9]
      exact tw_zret S hr (by decide) hlocks hI dX1_isOf_177
  · have n1_5 : ¬ f = 5 := by rw [h1]; decide
    have n1_6 : ¬ f = 6 := by rw [h1]; decide
    have n1_7 : ¬ f = 7 := by rw [h1]; decide
    have n1_9 : ¬ f = 9 := by rw [h1]; decide
    have n1_10 : ¬ f = 10 := by rw [h1]; decide
    have n1_11 : ¬ f = 11 := by rw [h1]; decide
    have n1_12 : ¬ f = 12 := by rw [h1]; decide
    have n1_13 : ¬ f = 13 := by rw [h1]; decide
    refine lv_tableIn (off := 74) (tgt := 75) hx hb dX1_isOf_1 (by rw [h1]; decide) (by rw [h1]; decide) (by rw [h1]; decide) (by decide) ?_
    refine lv_aload_n hx hb dX1_isOf_75 rfl (lv_at hl 0 rfl) ?_
    refine f1_15_2 S hK hI (xI_num hn h6 hN) rfl (v' := .int (σ.1 1 k)) rfl dX1_isOf_76 ?_
    refine lv_topi (fun x10 e10 => ?_)
    refine lv_bipush (v := 8) hx hb dX1_isOf_79 (by decide) ?_
    refine lv_icmp_eq (tgt := 93) hx hb dX1_isOf_81 (by decide) (fun c11 => ?_) (fun c11 => ?_)
    · refine lv_iconst (v := 1) hx hb dX1_isOf_93 (by decide) ?_
      refine lv_goto (tgt := 98) hx hb dX1_isOf_94 (by decide) ?_
      subst e10
      unfold isOfX
      try rw [if_neg n1_5]
      try rw [if_neg n1_6]
      try rw [if_neg n1_7]
      try rw [if_pos h1]
      try rw [if_pos c11]
      exact tw_zret S hr (by decide) hlocks hI dX1_isOf_98
    · refine lv_aload_n hx hb dX1_isOf_84 rfl (lv_at hl 0 rfl) ?_
      refine f1_15_2 S hK hI (xI_num hn h6 hN) rfl (v' := .int (σ.1 1 k)) rfl dX1_isOf_85 ?_
      refine lv_topi (fun x12 e12 => ?_)
      refine lv_bipush (v := 9) hx hb dX1_isOf_88 (by decide) ?_
      refine lv_icmp_ne (tgt := 97) hx hb dX1_isOf_90 (by decide) (fun c13 => ?_) (fun c13 => ?_)
      · refine lv_iconst (v := 0) hx hb dX1_isOf_97 (by decide) ?_
        subst e12
        subst e10
        unfold isOfX
        try rw [if_neg n1_5]
        try rw [if_neg n1_6]
        try rw [if_neg n1_7]
        try rw [if_pos h1]
        try rw [if_neg c11]
        try rw [if_neg c13]
        exact tw_zret S hr (by decide) hlocks hI dX1_isOf_98
      · refine lv_iconst (v := 1) hx hb dX1_isOf_93 (by decide) ?_
        refine lv_goto (tgt := 98) hx hb dX1_isOf_94 (by decide) ?_
        subst e12
        subst e10
        unfold isOfX
        try rw [if_neg n1_5]
        try rw [if_neg n1_6]
        try rw [if_neg n1_7]
        try rw [if_pos h1]
        try rw [if_neg c11]
        try rw [if_pos c13]
        exact tw_zret S hr (by decide) hlocks hI dX1_isOf_98
  · have n1_5 : ¬ f = 5 := by rw [h1]; decide
    have n1_6 : ¬ f = 6 := by rw [h1]; decide
    have n1_7 : ¬ f = 7 := by rw [h1]; decide
    have n1_8 : ¬ f = 8 := by rw [h1]; decide
    have n1_10 : ¬ f = 10 := by rw [h1]; decide
    have n1_11 : ¬ f = 11 := by rw [h1]; decide
    have n1_12 : ¬ f = 12 := by rw [h1]; decide
    have n1_13 : ¬ f = 13 := by rw [h1]; decide
    refine lv_tableIn (off := 163) (tgt := 164) hx hb dX1_isOf_1 (by rw [h1]; decide) (by rw [h1]; decide) (by rw [h1]; decide) (by decide) ?_
    refine lv_aload_n hx hb dX1_isOf_164 rfl (lv_at hl 0 rfl) ?_
    refine f1_15_2 S hK hI (xI_num hn h6 hN) rfl (v' := .int (σ.1 1 k)) rfl dX1_isOf_165 ?_
    refine lv_topi (fun x14 e14 => ?_)
    refine lv_iload_n hx hb dX1_isOf_168 rfl (lv_at hl 1 rfl) ?_
    refine lv_icmp_ne (tgt := 176) hx hb dX1_isOf_169 (by decide) (fun c15 => ?_) (fun c15 => ?_)
    · refine lv_iconst (v := 0) hx hb dX1_isOf_176 (by decide) ?_
      subst e14
      unfold isOfX
      try rw [if_neg n1_5]
      try rw [if_neg n1_6]
      try rw [if_neg n1_7]
      try rw [if_neg n1_8]
      try rw [if_pos h1]
      try rw [if_neg c15]
      exact tw_zret S hr (by decide) hlocks hI dX1_isOf_177
    · refine lv_iconst (v := 1) hx hb dX1_isOf_172 (by decide) ?_
      refine lv_goto (tgt := 177) hx hb dX1_isOf_173 (by decide) ?_
      subst e14
      unfold isOfX
      try rw [if_neg n1_5]
      try rw [if_neg n1_6]
      try rw [if_neg n1_7]
      try rw [if_neg n1_8]
      try rw [if_pos h1]
      try rw [if_pos c15]
      exact tw_zret S hr (by decide) hlocks hI dX1_isOf_177
  · have n1_5 : ¬ f = 5 := by rw [h1]; decide
    have n1_6 : ¬ f = 6 := by rw [h1]; decide
    have n1_7 : ¬ f = 7 := by rw [h1]; decide
    have n1_8 : ¬ f = 8 := by rw [h1]; decide
    have n1_9 : ¬ f = 9 := by rw [h1]; decide
    have n1_11 : ¬ f = 11 := by rw [h1]; decide
    have n1_12 : ¬ f = 12 := by rw [h1]; decide
    have n1_13 : ¬ f = 13 := by rw [h1]; decide
    refine lv_tableIn (off := 98) (tgt := 99) hx hb dX1_isOf_1 (by rw [h1]; decide) (by rw [h1]; decide) (by rw [h1]; decide) (by decide) ?_
    refine lv_aload_n hx hb dX1_isOf_99 rfl (lv_at hl 0 rfl) ?_
    refine f1_15_2 S hK hI (xI_num hn h6 hN) rfl (v' := .int (σ.1 1 k)) rfl dX1_isOf_100 ?_
    refine lv_topi (fun x16 e16 => ?_)
    refine lv_bipush (v := 10) hx hb dX1_isOf_103 (by decide) ?_
    refine lv_icmp_eq (tgt := 126) hx hb dX1_isOf_105 (by decide) (fun c17 => ?_) (fun c17 => ?_)
    · refine lv_iconst (v := 1) hx hb dX1_isOf_126 (by decide) ?_
      refine lv_goto (tgt := 131) hx hb dX1_isOf_127 (by decide) ?_
      subst e16
      unfold isOfX
      try rw [if_neg n1_5]
      try rw [if_neg n1_6]
      try rw [if_neg n1_7]
      try rw [if_neg n1_8]
      try rw [if_neg n1_9]
      try rw [if_pos h1]
      try rw [if_pos c17]
      exact tw_zret S hr (by decide) hlocks hI dX1_isOf_131
    · refine lv_aload_n hx hb dX1_isOf_108 rfl (lv_at hl 0 rfl) ?_
      refine f1_15_2 S hK hI (xI_num hn h6 hN) rfl (v' := .int (σ.1 1 k)) rfl dX1_isOf_109 ?_
      refine lv_topi (fun x18 e18 => ?_)
      refine lv_bipush (v := 8) hx hb dX1_isOf_112 (by decide) ?_
      refine lv_icmp_eq (tgt := 126) hx hb dX1_isOf_114 (by decide) (fun c19 => ?_) (fun c19 => ?_)
      · refine lv_iconst (v := 1) hx hb dX1_isOf_126 (by decide) ?_
        refine lv_goto (tgt := 131) hx hb dX1_isOf_127 (by decide) ?_
        subst e18
        subst e16
        unfold isOfX
        try rw [if_neg n1_5]
        try rw [if_neg n1_6]
        try rw [if_neg n1_7]
        try rw [if_neg n1_8]
        try rw [if_neg n1_9]
        try rw [if_pos h1]
        try rw [if_neg c17]
        try rw [if_pos c19]
        exact tw_zret S hr (by decide) hlocks hI dX1_isOf_131
      · refine lv_aload_n hx hb dX1_isOf_117 rfl (lv_at hl 0 rfl) ?_
        refine f1_15_2 S hK hI (xI_num hn h6 hN) rfl (v' := .int (σ.1 1 k)) rfl dX1_isOf_118 ?_
        refine lv_topi (fun x20 e20 => ?_)
        refine lv_bipush (v := 9) hx hb dX1_isOf_121 (by decide) ?_
        refine lv_icmp_ne (tgt := 130) hx hb dX1_isOf_123 (by decide) (fun c21 => ?_) (fun c21 => ?_)
        · refine lv_iconst (v := 0) hx hb dX1_isOf_130 (by decide) ?_
          subst e20
          subst e18
          subst e16
          unfold isOfX
          try rw [if_neg n1_5]
          try rw [if_neg n1_6]
          try rw [if_neg n1_7]
          try rw [if_neg n1_8]
          try rw [if_neg n1_9]
          try rw [if_pos h1]
          try rw [if_neg c17]
          try rw [if_neg c19]
          try rw [if_neg c21]
          exact tw_zret S hr (by decide) hlocks hI dX1_isOf_131
        · refine lv_iconst (v := 1) hx hb dX1_isOf_126 (by decide) ?_
          refine lv_goto (tgt := 131) hx hb dX1_isOf_127 (by decide) ?_
          subst e20
          subst e18
          subst e16
          unfold isOfX
          try rw [if_neg n1_5]
          try rw [if_neg n1_6]
          try rw [if_neg n1_7]
          try rw [if_neg n1_8]
          try rw [if_neg n1_9]
          try rw [if_pos h1]
          try rw [if_neg c17]
          try rw [if_neg c19]
          try rw [if_pos c21]
          exact tw_zret S hr (by decide) hlocks hI dX1_isOf_131
  · have n1_5 : ¬ f = 5 := by rw [h1]; decide
    have n1_6 : ¬ f = 6 := by rw [h1]; decide
    have n1_7 : ¬ f = 7 := by rw [h1]; decide
    have n1_8 : ¬ f = 8 := by rw [h1]; decide
    have n1_9 : ¬ f = 9 := by rw [h1]; decide
    have n1_10 : ¬ f = 10 := by rw [h1]; decide
    have n1_12 : ¬ f = 12 := by rw [h1]; decide
    have n1_13 : ¬ f = 13 := by rw [h1]; decide
    refine lv_tableIn (off := 131) (tgt := 132) hx hb dX1_isOf_1 (by rw [h1]; decide) (by rw [h1]; decide) (by rw [h1]; decide) (by decide) ?_
    refine lv_aload_n hx hb dX1_isOf_132 rfl (lv_at hl 0 rfl) ?_
    refine f1_15_2 S hK hI (xI_num hn h6 hN) rfl (v' := .int (σ.1 1 k)) rfl dX1_isOf_133 ?_
    refine lv_topi (fun x22 e22 => ?_)
    refine lv_bipush (v := 11) hx hb dX1_isOf_136 (by decide) ?_
    refine lv_icmp_eq (tgt := 150) hx hb dX1_isOf_138 (by decide) (fun c23 => ?_) (fun c23 => ?_)
    · refine lv_iconst (v := 1) hx hb dX1_isOf_150 (by decide) ?_
      refine lv_goto (tgt := 155) hx hb dX1_isOf_151 (by decide) ?_
      subst e22
      unfold isOfX
      try rw [if_neg n1_5]
      try rw [if_neg n1_6]
      try rw [if_neg n1_7]
      try rw [if_neg n1_8]
      try rw [if_neg n1_9]
      try rw [if_neg n1_10]
      try rw [if_pos h1]
      try rw [if_pos c23]
      exact tw_zret S hr (by decide) hlocks hI dX1_isOf_155
    · refine lv_aload_n hx hb dX1_isOf_141 rfl (lv_at hl 0 rfl) ?_
      refine f1_15_2 S hK hI (xI_num hn h6 hN) rfl (v' := .int (σ.1 1 k)) rfl dX1_isOf_142 ?_
      refine lv_topi (fun x24 e24 => ?_)
      refine lv_bipush (v := 12) hx hb dX1_isOf_145 (by decide) ?_
      refine lv_icmp_ne (tgt := 154) hx hb dX1_isOf_147 (by decide) (fun c25 => ?_) (fun c25 => ?_)
      · refine lv_iconst (v := 0) hx hb dX1_isOf_154 (by decide) ?_
        subst e24
        subst e22
        unfold isOfX
        try rw [if_neg n1_5]
        try rw [if_neg n1_6]
        try rw [if_neg n1_7]
        try rw [if_neg n1_8]
        try rw [if_neg n1_9]
        try rw [if_neg n1_10]
        try rw [if_pos h1]
        try rw [if_neg c23]
        try rw [if_neg c25]
        exact tw_zret S hr (by decide) hlocks hI dX1_isOf_155
      · refine lv_iconst (v := 1) hx hb dX1_isOf_150 (by decide) ?_
        refine lv_goto (tgt := 155) hx hb dX1_isOf_151 (by decide) ?_
        subst e24
        subst e22
        unfold isOfX
        try rw [if_neg n1_5]
        try rw [if_neg n1_6]
        try rw [if_neg n1_7]
        try rw [if_neg n1_8]
        try rw [if_neg n1_9]
        try rw [if_neg n1_10]
        try rw [if_pos h1]
        try rw [if_neg c23]
        try rw [if_pos c25]
        exact tw_zret S hr (by decide) hlocks hI dX1_isOf_155
  · have n1_5 : ¬ f = 5 := by rw [h1]; decide
    have n1_6 : ¬ f = 6 := by rw [h1]; decide
    have n1_7 : ¬ f = 7 := by rw [h1]; decide
    have n1_8 : ¬ f = 8 := by rw [h1]; decide
    have n1_9 : ¬ f = 9 := by rw [h1]; decide
    have n1_10 : ¬ f = 10 := by rw [h1]; decide
    have n1_11 : ¬ f = 11 := by rw [h1]; decide
    have n1_13 : ¬ f = 13 := by rw [h1]; decide
    refine lv_tableIn (off := 163) (tgt := 164) hx hb dX1_isOf_1 (by rw [h1]; decide) (by rw [h1]; decide) (by rw [h1]; decide) (by decide) ?_
    refine lv_aload_n hx hb dX1_isOf_164 rfl (lv_at hl 0 rfl) ?_
    refine f1_15_2 S hK hI (xI_num hn h6 hN) rfl (v' := .int (σ.1 1 k)) rfl dX1_isOf_165 ?_
    refine lv_topi (fun x26 e26 => ?_)
    refine lv_iload_n hx hb dX1_isOf_168 rfl (lv_at hl 1 rfl) ?_
    refine lv_icmp_ne (tgt := 176) hx hb dX1_isOf_169 (by decide) (fun c27 => ?_) (fun c27 => ?_)
    · refine lv_iconst (v := 0) hx hb dX1_isOf_176 (by decide) ?_
      subst e26
      unfold isOfX
      try rw [if_neg n1_5]
      try rw [if_neg n1_6]
      try rw [if_neg n1_7]
      try rw [if_neg n1_8]
      try rw [if_neg n1_9]
      try rw [if_neg n1_10]
      try rw [if_neg n1_11]
      try rw [if_pos h1]
      try rw [if_neg c27]
      exact tw_zret S hr (by decide) hlocks hI dX1_isOf_177
    · refine lv_iconst (v := 1) hx hb dX1_isOf_172 (by decide) ?_
      refine lv_goto (tgt := 177) hx hb dX1_isOf_173 (by decide) ?_
      subst e26
      unfold isOfX
      try rw [if_neg n1_5]
      try rw [if_neg n1_6]
      try rw [if_neg n1_7]
      try rw [if_neg n1_8]
      try rw [if_neg n1_9]
      try rw [if_neg n1_10]
      try rw [if_neg n1_11]
      try rw [if_pos h1]
      try rw [if_pos c27]
      exact tw_zret S hr (by decide) hlocks hI dX1_isOf_177
  · have n1_5 : ¬ f = 5 := by rw [h1]; decide
    have n1_6 : ¬ f = 6 := by rw [h1]; decide
    have n1_7 : ¬ f = 7 := by rw [h1]; decide
    have n1_8 : ¬ f = 8 := by rw [h1]; decide
    have n1_9 : ¬ f = 9 := by rw [h1]; decide
    have n1_10 : ¬ f = 10 := by rw [h1]; decide
    have n1_11 : ¬ f = 11 := by rw [h1]; decide
    have n1_12 : ¬ f = 12 := by rw [h1]; decide
    refine lv_tableIn (off := 155) (tgt := 156) hx hb dX1_isOf_1 (by rw [h1]; decide) (by rw [h1]; decide) (by rw [h1]; decide) (by decide) ?_
    refine lv_aload_n hx hb dX1_isOf_156 rfl (lv_at hl 0 rfl) ?_
    refine f1_15_2 S hK hI (xI_num hn h6 hN) rfl (v' := .int (σ.1 1 k)) rfl dX1_isOf_157 ?_
    refine lv_topi (fun x28 e28 => ?_)
    refine tw_calli (tw_rSN (As := [.int x28]) (rest := []) S hK hI kX1_18 (c_X6_isPiece l D ad _ _ _) ⟨Nat.le_of_ble_eq_true rfl, Nat.le_of_ble_eq_true rfl⟩ ⟨Nat.le_of_ble_eq_true rfl, Nat.le_of_ble_eq_true rfl⟩ rfl hl.1 rfl (Nat.le_of_ble_eq_true rfl) dX1_isOf_160) hI (fun H locs hI => ?_)
    refine lv_topi (fun x29 e29 => ?_)
    subst e29
    subst e28
    unfold isOfX
    try rw [if_neg n1_5]
    try rw [if_neg n1_6]
    try rw [if_neg n1_7]
    try rw [if_neg n1_8]
    try rw [if_neg n1_9]
    try rw [if_neg n1_10]
    try rw [if_neg n1_11]
    try rw [if_neg n1_12]
    try rw [if_pos h1]
    exact tw_zret S hr (isPieceF_b _) hlocks hI dX1_isOf_163
  · refine lv_tableOut (tgt := 164) hx hb dX1_isOf_1 h1 (by decide) ?_
    refine lv_aload_n hx hb dX1_isOf_164 rfl (lv_at hl 0 rfl) ?_
    refine f1_15_2 S hK hI (xI_num hn h6 hN) rfl (v' := .int (σ.1 1 k)) rfl dX1_isOf_165 ?_
    refine lv_topi (fun x30 e30 => ?_)
    refine lv_iload_n hx hb dX1_isOf_168 rfl (lv_at hl 1 rfl) ?_
    refine lv_icmp_ne (tgt := 176) hx hb dX1_isOf_169 (by decide) (fun c31 => ?_) (fun c31 => ?_)
    · refine lv_iconst (v := 0) hx hb dX1_isOf_176 (by decide) ?_
      subst e30
      unfold isOfX
      try rw [if_neg n1_5]
      try rw [if_neg n1_6]
      try rw [if_neg n1_7]
      try rw [if_neg n1_8]
      try rw [if_neg n1_9]
      try rw [if_neg n1_10]
      try rw [if_neg n1_11]
      try rw [if_neg n1_12]
      try rw [if_neg n1_13]
      try rw [if_neg c31]
      exact tw_zret S hr (by decide) hlocks hI dX1_isOf_177
    · refine lv_iconst (v := 1) hx hb dX1_isOf_172 (by decide) ?_
      refine lv_goto (tgt := 177) hx hb dX1_isOf_173 (by decide) ?_
      subst e30
      unfold isOfX
      try rw [if_neg n1_5]
      try rw [if_neg n1_6]
      try rw [if_neg n1_7]
      try rw [if_neg n1_8]
      try rw [if_neg n1_9]
      try rw [if_neg n1_10]
      try rw [if_neg n1_11]
      try rw [if_neg n1_12]
      try rw [if_neg n1_13]
      try rw [if_pos c31]
      exact tw_zret S hr (by decide) hlocks hI dX1_isOf_177

set_option maxHeartbeats 2000000 in
set_option maxRecDepth 100000 in
theorem c_X1_isOf_one (l : Launch) (D : tw_G) (ad : Nat → Nat) (b : tw_W) (σ : Sg) (h : Int32) (Q : Nat → Int32) (sz : Nat) (k : Nat) (f : Int32) (hn : k < nS σ) (h6 : k < 60) (hN : isNumK (σ.1 1 k) = false) (hO : isOneK (σ.1 1 k) = true) : Met l yX1_isOf (tw_w yX1_isOf cX1_isOf 2 (some .boolean)) (tw_R 1 0 0) (tw_Pc D ad (wX b σ h Q) sz [.ref (ad (100 + k)), .int f]) (tw_Q D ad (wX b (σ) h Q) (tw_A ad (wX b σ h Q) sz) (some (.int (isOfX (σ.1 1 k) f)))) 0 0 (tw_A ad (wX b σ h Q) sz) := by
  refine tw_met (by decide) rfl (by simp [lg_sl, Value.category]) (fun p e s m below meth c ls S hK hr hlocks hnm hsz hI hl => ?_)
  have hx := S.1
  have hb := S.2.1
  have hl : lv_has ls 2 [(0, .ref (ad (100 + k))), (1, .int f)] := hl
  refine lv_iload_n hx hb dX1_isOf_0 rfl (lv_at hl 1 rfl) ?_
  rcases tsw_5_13 f with h1 | h1 | h1 | h1 | h1 | h1 | h1 | h1 | h1 | ⟨h1, n1_5, n1_6, n1_7, n1_8, n1_9, n1_10, n1_11, n1_12, n1_13⟩
  · have n1_6 : ¬ f = 6 := by rw [h1]; decide
    have n1_7 : ¬ f = 7 := by rw [h1]; decide
    have n1_8 : ¬ f = 8 := by rw [h1]; decide
    have n1_9 : ¬ f = 9 := by rw [h1]; decide
    have n1_10 : ¬ f = 10 := by rw [h1]; decide
    have n1_11 : ¬ f = 11 := by rw [h1]; decide
    have n1_12 : ¬ f = 12 := by rw [h1]; decide
    have n1_13 : ¬ f = 13 := by rw [h1]; decide
    refine lv_tableIn (off := 51) (tgt := 52) hx hb dX1_isOf_1 (by rw [h1]; decide) (by rw [h1]; decide) (by rw [h1]; decide) (by decide) ?_
    refine lv_aload_n hx hb dX1_isOf_52 rfl (lv_at hl 0 rfl) ?_
    refine f1_15_3 S hK hI (xI_one hn h6 hN hO) rfl (v' := .int (σ.1 1 k)) rfl dX1_isOf_53 ?_
    refine lv_topi (fun x2 e2 => ?_)
    refine lv_iconst (v := 5) hx hb dX1_isOf_56 (by decide) ?_
    refine lv_icmp_eq (tgt := 69) hx hb dX1_isOf_57 (by decide) (fun c3 => ?_) (fun c3 => ?_)
    · refine lv_iconst (v := 1) hx hb dX1_isOf_69 (by decide) ?_
      refine lv_goto (tgt := 74) hx hb dX1_isOf_70 (by decide) ?_
      subst e2
      unfold isOfX
      try rw [if_pos h1]
      try rw [if_pos c3]
      exact tw_zret S hr (by decide) hlocks hI dX1_isOf_74
    · refine lv_aload_n hx hb dX1_isOf_60 rfl (lv_at hl 0 rfl) ?_
      refine f1_15_3 S hK hI (xI_one hn h6 hN hO) rfl (v' := .int (σ.1 1 k)) rfl dX1_isOf_61 ?_
      refine lv_topi (fun x4 e4 => ?_)
      refine lv_bipush (v := 6) hx hb dX1_isOf_64 (by decide) ?_
      refine lv_icmp_ne (tgt := 73) hx hb dX1_isOf_66 (by decide) (fun c5 => ?_) (fun c5 => ?_)
      · refine lv_iconst (v := 0) hx hb dX1_isOf_73 (by decide) ?_
        subst e4
        subst e2
        unfold isOfX
        try rw [if_pos h1]
        try rw [if_neg c3]
        try rw [if_neg c5]
        exact tw_zret S hr (by decide) hlocks hI dX1_isOf_74
      · refine lv_iconst (v := 1) hx hb dX1_isOf_69 (by decide) ?_
        refine lv_goto (tgt := 74) hx hb dX1_isOf_70 (by decide) ?_
        subst e4
        subst e2
        unfold isOfX
        try rw [if_pos h1]
        try rw [if_neg c3]
        try rw [if_pos c5]
        exact tw_zret S hr (by decide) hlocks hI dX1_isOf_74
  · have n1_5 : ¬ f = 5 := by rw [h1]; decide
    have n1_7 : ¬ f = 7 := by rw [h1]; decide
    have n1_8 : ¬ f = 8 := by rw [h1]; decide
    have n1_9 : ¬ f = 9 := by rw [h1]; decide
    have n1_10 : ¬ f = 10 := by rw [h1]; decide
    have n1_11 : ¬ f = 11 := by rw [h1]; decide
    have n1_12 : ¬ f = 12 := by rw [h1]; decide
    have n1_13 : ¬ f = 13 := by rw [h1]; decide
    refine lv_tableIn (off := 163) (tgt := 164) hx hb dX1_isOf_1 (by rw [h1]; decide) (by rw [h1]; decide) (by rw [h1]; decide) (by decide) ?_
    refine lv_aload_n hx hb dX1_isOf_164 rfl (lv_at hl 0 rfl) ?_
    refine f1_15_3 S hK hI (xI_one hn h6 hN hO) rfl (v' := .int (σ.1 1 k)) rfl dX1_isOf_165 ?_
    refine lv_topi (fun x6 e6 => ?_)
    refine lv_iload_n hx hb dX1_isOf_168 rfl (lv_at hl 1 rfl) ?_
    refine lv_icmp_ne (tgt := 176) hx hb dX1_isOf_169 (by decide) (fun c7 => ?_) (fun c7 => ?_)
    · refine lv_iconst (v := 0) hx hb dX1_isOf_176 (by decide) ?_
      subst e6
      unfold isOfX
      try rw [if_neg n1_5]
      try rw [if_pos h1]
      try rw [if_neg c7]
      exact tw_zret S hr (by decide) hlocks hI dX1_isOf_177
    · refine lv_iconst (v := 1) hx hb dX1_isOf_172 (by decide) ?_
      refine lv_goto (tgt := 177) hx hb dX1_isOf_173 (by decide) ?_
      subst e6
      unfold isOfX
      try rw [if_neg n1_5]
      try rw [if_pos h1]
      try rw [if_pos c7]
      exact tw_zret S hr (by decide) hlocks hI dX1_isOf_177
  · have n1_5 : ¬ f = 5 := by rw [h1]; decide
    have n1_6 : ¬ f = 6 := by rw [h1]; decide
    have n1_8 : ¬ f = 8 := by rw [h1]; decide
    have n1_9 : ¬ f = 9 := by rw [h1]; decide
    have n1_10 : ¬ f = 10 := by rw [h1]; decide
    have n1_11 : ¬ f = 11 := by rw [h1]; decide
    have n1_12 : ¬ f = 12 := by rw [h1]; decide
    have n1_13 : ¬ f = 13 := by rw [h1]; decide
    refine lv_tableIn (off := 163) (tgt := 164) hx hb dX1_isOf_1 (by rw [h1]; decide) (by rw [h1]; decide) (by rw [h1]; decide) (by decide) ?_
    refine lv_aload_n hx hb dX1_isOf_164 rfl (lv_at hl 0 rfl) ?_
    refine f1_15_3 S hK hI (xI_one hn h6 hN hO) rfl (v' := .int (σ.1 1 k)) rfl dX1_isOf_165 ?_
    refine lv_topi (fun x8 e8 => ?_)
    refine lv_iload_n hx hb dX1_isOf_168 rfl (lv_at hl 1 rfl) ?_
    refine lv_icmp_ne (tgt := 176) hx hb dX1_isOf_169 (by decide) (fun c9 => ?_) (fun c9 => ?_)
    · refine lv_iconst (v := 0) hx hb dX1_isOf_176 (by decide) ?_
      subst e8
      unfold isOfX
      try rw [if_neg n1_5]
      try rw [if_neg n1_6]
      try rw [if_pos h1]
      try rw [if_neg c9]
      exact tw_zret S hr (by decide) hlocks hI dX1_isOf_177
    · refine lv_iconst (v := 1) hx hb dX1_isOf_172 (by decide) ?_
      refine lv_goto (tgt := 177) hx hb dX1_isOf_173 (by decide) ?_
      subst e8
      unfold isOfX
      try rw [if_neg n1_5]
      try rw [if_neg n1_6]
      try rw [if_pos h1]
      try rw [if_pos c9]
      exact tw_zret S hr (by decide) hlocks hI dX1_isOf_177
  · have n1_5 : ¬ f = 5 := by rw [h1]; decide
    have n1_6 : ¬ f = 6 := by rw [h1]; decide
    have n1_7 : ¬ f = 7 := by rw [h1]; decide
    have n1_9 : ¬ f = 9 := by rw [h1]; decide
    have n1_10 : ¬ f = 10 := by rw [h1]; decide
    have n1_11 : ¬ f = 11 := by rw [h1]; decide
    have n1_12 : ¬ f = 12 := by rw [h1]; decide
    have n1_13 : ¬ f = 13 := by rw [h1]; decide
    refine lv_tableIn (off := 74) (tgt := 75) hx hb dX1_isOf_1 (by rw [h1]; decide) (by rw [h1]; decide) (by rw [h1]; decide) (by decide) ?_
    refine lv_aload_n hx hb dX1_isOf_75 rfl (lv_at hl 0 rfl) ?_
    refine f1_15_3 S hK hI (xI_one hn h6 hN hO) rfl (v' := .int (σ.1 1 k)) rfl dX1_isOf_76 ?_
    refine lv_topi (fun x10 e10 => ?_)
    refine lv_bipush (v := 8) hx hb dX1_isOf_79 (by decide) ?_
    refine lv_icmp_eq (tgt := 93) hx hb dX1_isOf_81 (by decide) (fun c11 => ?_) (fun c11 => ?_)
    · refine lv_iconst (v := 1) hx hb dX1_isOf_93 (by decide) ?_
      refine lv_goto (tgt := 98) hx hb dX1_isOf_94 (by decide) ?_
      subst e10
      unfold isOfX
      try rw [if_neg n1_5]
      try rw [if_neg n1_6]
      try rw [if_neg n1_7]
      try rw [if_pos h1]
      try rw [if_pos c11]
      exact tw_zret S hr (by decide) hlocks hI dX1_isOf_98
    · refine lv_aload_n hx hb dX1_isOf_84 rfl (lv_at hl 0 rfl) ?_
      refine f1_15_3 S hK hI (xI_one hn h6 hN hO) rfl (v' := .int (σ.1 1 k)) rfl dX1_isOf_85 ?_
      refine lv_topi (fun x12 e12 => ?_)
      refine lv_bipush (v := 9) hx hb dX1_isOf_88 (by decide) ?_
      refine lv_icmp_ne (tgt := 97) hx hb dX1_isOf_90 (by decide) (fun c13 => ?_) (fun c13 => ?_)
      · refine lv_iconst (v := 0) hx hb dX1_isOf_97 (by decide) ?_
        subst e12
        subst e10
        unfold isOfX
        try rw [if_neg n1_5]
        try rw [if_neg n1_6]
        try rw [if_neg n1_7]
        try rw [if_pos h1]
        try rw [if_neg c11]
        try rw [if_neg c13]
        exact tw_zret S hr (by decide) hlocks hI dX1_isOf_98
      · refine lv_iconst (v := 1) hx hb dX1_isOf_93 (by decide) ?_
        refine lv_goto (tgt := 98) hx hb dX1_isOf_94 (by decide) ?_
        subst e12
        subst e10
        unfold isOfX
        try rw [if_neg n1_5]
        try rw [if_neg n1_6]
        try rw [if_neg n1_7]
        try rw [if_pos h1]
        try rw [if_neg c11]
        try rw [if_pos c13]
        exact tw_zret S hr (by decide) hlocks hI dX1_isOf_98
  · have n1_5 : ¬ f = 5 := by rw [h1]; decide
    have n1_6 : ¬ f = 6 := by rw [h1]; decide
    have n1_7 : ¬ f = 7 := by rw [h1]; decide
    have n1_8 : ¬ f = 8 := by rw [h1]; decide
    have n1_10 : ¬ f = 10 := by rw [h1]; decide
    have n1_11 : ¬ f = 11 := by rw [h1]; decide
    have n1_12 : ¬ f = 12 := by rw [h1]; decide
    have n1_13 : ¬ f = 13 := by rw [h1]; decide
    refine lv_tableIn (off := 163) (tgt := 164) hx hb dX1_isOf_1 (by rw [h1]; decide) (by rw [h1]; decide) (by rw [h1]; decide) (by decide) ?_
    refine lv_aload_n hx hb dX1_isOf_164 rfl (lv_at hl 0 rfl) ?_
    refine f1_15_3 S hK hI (xI_one hn h6 hN hO) rfl (v' := .int (σ.1 1 k)) rfl dX1_isOf_165 ?_
    refine lv_topi (fun x14 e14 => ?_)
    refine lv_iload_n hx hb dX1_isOf_168 rfl (lv_at hl 1 rfl) ?_
    refine lv_icmp_ne (tgt := 176) hx hb dX1_isOf_169 (by decide) (fun c15 => ?_) (fun c15 => ?_)
    · refine lv_iconst (v := 0) hx hb dX1_isOf_176 (by decide) ?_
      subst e14
      unfold isOfX
      try rw [if_neg n1_5]
      try rw [if_neg n1_6]
      try rw [if_neg n1_7]
      try rw [if_neg n1_8]
      try rw [if_pos h1]
      try rw [if_neg c15]
      exact tw_zret S hr (by decide) hlocks hI dX1_isOf_177
    · refine lv_iconst (v := 1) hx hb dX1_isOf_172 (by decide) ?_
      refine lv_goto (tgt := 177) hx hb dX1_isOf_173 (by decide) ?_
      subst e14
      unfold isOfX
      try rw [if_neg n1_5]
      try rw [if_neg n1_6]
      try rw [if_neg n1_7]
      try rw [if_neg n1_8]
      try rw [if_pos h1]
      try rw [if_pos c15]
      exact tw_zret S hr (by decide) hlocks hI dX1_isOf_177
  · have n1_5 : ¬ f = 5 := by rw [h1]; decide
    have n1_6 : ¬ f = 6 := by rw [h1]; decide
    have n1_7 : ¬ f = 7 := by rw [h1]; decide
    have n1_8 : ¬ f = 8 := by rw [h1]; decide
    have n1_9 : ¬ f = 9 := by rw [h1]; decide
    have n1_11 : ¬ f = 11 := by rw [h1]; decide
    have n1_12 : ¬ f = 12 := by rw [h1]; decide
    have n1_13 : ¬ f = 13 := by rw [h1]; decide
    refine lv_tableIn (off := 98) (tgt := 99) hx hb dX1_isOf_1 (by rw [h1]; decide) (by rw [h1]; decide) (by rw [h1]; decide) (by decide) ?_
    refine lv_aload_n hx hb dX1_isOf_99 rfl (lv_at hl 0 rfl) ?_
    refine f1_15_3 S hK hI (xI_one hn h6 hN hO) rfl (v' := .int (σ.1 1 k)) rfl dX1_isOf_100 ?_
    refine lv_topi (fun x16 e16 => ?_)
    refine lv_bipush (v := 10) hx hb dX1_isOf_103 (by decide) ?_
    refine lv_icmp_eq (tgt := 126) hx hb dX1_isOf_105 (by decide) (fun c17 => ?_) (fun c17 => ?_)
    · refine lv_iconst (v := 1) hx hb dX1_isOf_126 (by decide) ?_
      refine lv_goto (tgt := 131) hx hb dX1_isOf_127 (by decide) ?_
      subst e16
      unfold isOfX
      try rw [if_neg n1_5]
      try rw [if_neg n1_6]
      try rw [if_neg n1_7]
      try rw [if_neg n1_8]
      try rw [if_neg n1_9]
      try rw [if_pos h1]
      try rw [if_pos c17]
      exact tw_zret S hr (by decide) hlocks hI dX1_isOf_131
    · refine lv_aload_n hx hb dX1_isOf_108 rfl (lv_at hl 0 rfl) ?_
      refine f1_15_3 S hK hI (xI_one hn h6 hN hO) rfl (v' := .int (σ.1 1 k)) rfl dX1_isOf_109 ?_
      refine lv_topi (fun x18 e18 => ?_)
      refine lv_bipush (v := 8) hx hb dX1_isOf_112 (by decide) ?_
      refine lv_icmp_eq (tgt := 126) hx hb dX1_isOf_114 (by decide) (fun c19 => ?_) (fun c19 => ?_)
      · refine lv_iconst (v := 1) hx hb dX1_isOf_126 (by decide) ?_
        refine lv_goto (tgt := 131) hx hb dX1_isOf_127 (by decide) ?_
        subst e18
        subst e16
        unfold isOfX
        try rw [if_neg n1_5]
        try rw [if_neg n1_6]
        try rw [if_neg n1_7]
        try rw [if_neg n1_8]
        try rw [if_neg n1_9]
        try rw [if_pos h1]
        try rw [if_neg c17]
        try rw [if_pos c19]
        exact tw_zret S hr (by decide) hlocks hI dX1_isOf_131
      · refine lv_aload_n hx hb dX1_isOf_117 rfl (lv_at hl 0 rfl) ?_
        refine f1_15_3 S hK hI (xI_one hn h6 hN hO) rfl (v' := .int (σ.1 1 k)) rfl dX1_isOf_118 ?_
        refine lv_topi (fun x20 e20 => ?_)
        refine lv_bipush (v := 9) hx hb dX1_isOf_121 (by decide) ?_
        refine lv_icmp_ne (tgt := 130) hx hb dX1_isOf_123 (by decide) (fun c21 => ?_) (fun c21 => ?_)
        · refine lv_iconst (v := 0) hx hb dX1_isOf_130 (by decide) ?_
          subst e20
          subst e18
          subst e16
          unfold isOfX
          try rw [if_neg n1_5]
          try rw [if_neg n1_6]
          try rw [if_neg n1_7]
          try rw [if_neg n1_8]
          try rw [if_neg n1_9]
          try rw [if_pos h1]
          try rw [if_neg c17]
          try rw [if_neg c19]
          try rw [if_neg c21]
          exact tw_zret S hr (by decide) hlocks hI dX1_isOf_131
        · refine lv_iconst (v := 1) hx hb dX1_isOf_126 (by decide) ?_
          refine lv_goto (tgt := 131) hx hb dX1_isOf_127 (by decide) ?_
          subst e20
          subst e18
          subst e16
          unfold isOfX
          try rw [if_neg n1_5]
          try rw [if_neg n1_6]
          try rw [if_neg n1_7]
          try rw [if_neg n1_8]
          try rw [if_neg n1_9]
          try rw [if_pos h1]
          try rw [if_neg c17]
          try rw [if_neg c19]
          try rw [if_pos c21]
          exact tw_zret S hr (by decide) hlocks hI dX1_isOf_131
  · have n1_5 : ¬ f = 5 := by rw [h1]; decide
    have n1_6 : ¬ f = 6 := by rw [h1]; decide
    have n1_7 : ¬ f = 7 := by rw [h1]; decide
    have n1_8 : ¬ f = 8 := by rw [h1]; decide
    have n1_9 : ¬ f = 9 := by rw [h1]; decide
    have n1_10 : ¬ f = 10 := by rw [h1]; decide
    have n1_12 : ¬ f = 12 := by rw [h1]; decide
    have n1_13 : ¬ f = 13 := by rw [h1]; decide
    refine lv_tableIn (off := 131) (tgt := 132) hx hb dX1_isOf_1 (by rw [h1]; decide) (by rw [h1]; decide) (by rw [h1]; decide) (by decide) ?_
    refine lv_aload_n hx hb dX1_isOf_132 rfl (lv_at hl 0 rfl) ?_
    refine f1_15_3 S hK hI (xI_one hn h6 hN hO) rfl (v' := .int (σ.1 1 k)) rfl dX1_isOf_133 ?_
    refine lv_topi (fun x22 e22 => ?_)
    refine lv_bipush (v := 11) hx hb dX1_isOf_136 (by decide) ?_
    refine lv_icmp_eq (tgt := 150) hx hb dX1_isOf_138 (by decide) (fun c23 => ?_) (fun c23 => ?_)
    · refine lv_iconst (v := 1) hx hb dX1_isOf_150 (by decide) ?_
      refine lv_goto (tgt := 155) hx hb dX1_isOf_151 (by decide) ?_
      subst e22
      unfold isOfX
      try rw [if_neg n1_5]
      try rw [if_neg n1_6]
      try rw [if_neg n1_7]
      try rw [if_neg n1_8]
      try rw [if_neg n1_9]
      try rw [if_neg n1_10]
      try rw [if_pos h1]
      try rw [if_pos c23]
      exact tw_zret S hr (by decide) hlocks hI dX1_isOf_155
    · refine lv_aload_n hx hb dX1_isOf_141 rfl (lv_at hl 0 rfl) ?_
      refine f1_15_3 S hK hI (xI_one hn h6 hN hO) rfl (v' := .int (σ.1 1 k)) rfl dX1_isOf_142 ?_
      refine lv_topi (fun x24 e24 => ?_)
      refine lv_bipush (v := 12) hx hb dX1_isOf_145 (by decide) ?_
      refine lv_icmp_ne (tgt := 154) hx hb dX1_isOf_147 (by decide) (fun c25 => ?_) (fun c25 => ?_)
      · refine lv_iconst (v := 0) hx hb dX1_isOf_154 (by decide) ?_
        subst e24
        subst e22
        unfold isOfX
        try rw [if_neg n1_5]
        try rw [if_neg n1_6]
        try rw [if_neg n1_7]
        try rw [if_neg n1_8]
        try rw [if_neg n1_9]
        try rw [if_neg n1_10]
        try rw [if_pos h1]
        try rw [if_neg c23]
        try rw [if_neg c25]
        exact tw_zret S hr (by decide) hlocks hI dX1_isOf_155
      · refine lv_iconst (v := 1) hx hb dX1_isOf_150 (by decide) ?_
        refine lv_goto (tgt := 155) hx hb dX1_isOf_151 (by decide) ?_
        subst e24
        subst e22
        unfold isOfX
        try rw [if_neg n1_5]
        try rw [if_neg n1_6]
        try rw [if_neg n1_7]
        try rw [if_neg n1_8]
        try rw [if_neg n1_9]
        try rw [if_neg n1_10]
        try rw [if_pos h1]
        try rw [if_neg c23]
        try rw [if_pos c25]
        exact tw_zret S hr (by decide) hlocks hI dX1_isOf_155
  · have n1_5 : ¬ f = 5 := by rw [h1]; decide
    have n1_6 : ¬ f = 6 := by rw [h1]; decide
    have n1_7 : ¬ f = 7 := by rw [h1]; decide
    have n1_8 : ¬ f = 8 := by rw [h1]; decide
    have n1_9 : ¬ f = 9 := by rw [h1]; decide
    have n1_10 : ¬ f = 10 := by rw [h1]; decide
    have n1_11 : ¬ f = 11 := by rw [h1]; decide
    have n1_13 : ¬ f = 13 := by rw [h1]; decide
    refine lv_tableIn (off := 163) (tgt := 164) hx hb dX1_isOf_1 (by rw [h1]; decide) (by rw [h1]; decide) (by rw [h1]; decide) (by decide) ?_
    refine lv_aload_n hx hb dX1_isOf_164 rfl (lv_at hl 0 rfl) ?_
    refine f1_15_3 S hK hI (xI_one hn h6 hN hO) rfl (v' := .int (σ.1 1 k)) rfl dX1_isOf_165 ?_
    refine lv_topi (fun x26 e26 => ?_)
    refine lv_iload_n hx hb dX1_isOf_168 rfl (lv_at hl 1 rfl) ?_
    refine lv_icmp_ne (tgt := 176) hx hb dX1_isOf_169 (by decide) (fun c27 => ?_) (fun c27 => ?_)
    · refine lv_iconst (v := 0) hx hb dX1_isOf_176 (by decide) ?_
      subst e26
      unfold isOfX
      try rw [if_neg n1_5]
      try rw [if_neg n1_6]
      try rw [if_neg n1_7]
      try rw [if_neg n1_8]
      try rw [if_neg n1_9]
      try rw [if_neg n1_10]
      try rw [if_neg n1_11]
      try rw [if_pos h1]
      try rw [if_neg c27]
      exact tw_zret S hr (by decide) hlocks hI dX1_isOf_177
    · refine lv_iconst (v := 1) hx hb dX1_isOf_172 (by decide) ?_
      refine lv_goto (tgt := 177) hx hb dX1_isOf_173 (by decide) ?_
      subst e26
      unfold isOfX
      try rw [if_neg n1_5]
      try rw [if_neg n1_6]
      try rw [if_neg n1_7]
      try rw [if_neg n1_8]
      try rw [if_neg n1_9]
      try rw [if_neg n1_10]
      try rw [if_neg n1_11]
      try rw [if_pos h1]
      try rw [if_pos c27]
      exact tw_zret S hr (by decide) hlocks hI dX1_isOf_177
  · have n1_5 : ¬ f = 5 := by rw [h1]; decide
    have n1_6 : ¬ f = 6 := by rw [h1]; decide
    have n1_7 : ¬ f = 7 := by rw [h1]; decide
    have n1_8 : ¬ f = 8 := by rw [h1]; decide
    have n1_9 : ¬ f = 9 := by rw [h1]; decide
    have n1_10 : ¬ f = 10 := by rw [h1]; decide
    have n1_11 : ¬ f = 11 := by rw [h1]; decide
    have n1_12 : ¬ f = 12 := by rw [h1]; decide
    refine lv_tableIn (off := 155) (tgt := 156) hx hb dX1_isOf_1 (by rw [h1]; decide) (by rw [h1]; decide) (by rw [h1]; decide) (by decide) ?_
    refine lv_aload_n hx hb dX1_isOf_156 rfl (lv_at hl 0 rfl) ?_
    refine f1_15_3 S hK hI (xI_one hn h6 hN hO) rfl (v' := .int (σ.1 1 k)) rfl dX1_isOf_157 ?_
    refine lv_topi (fun x28 e28 => ?_)
    refine tw_calli (tw_rSN (As := [.int x28]) (rest := []) S hK hI kX1_18 (c_X6_isPiece l D ad _ _ _) ⟨Nat.le_of_ble_eq_true rfl, Nat.le_of_ble_eq_true rfl⟩ ⟨Nat.le_of_ble_eq_true rfl, Nat.le_of_ble_eq_true rfl⟩ rfl hl.1 rfl (Nat.le_of_ble_eq_true rfl) dX1_isOf_160) hI (fun H locs hI => ?_)
    refine lv_topi (fun x29 e29 => ?_)
    subst e29
    subst e28
    unfold isOfX
    try rw [if_neg n1_5]
    try rw [if_neg n1_6]
    try rw [if_neg n1_7]
    try rw [if_neg n1_8]
    try rw [if_neg n1_9]
    try rw [if_neg n1_10]
    try rw [if_neg n1_11]
    try rw [if_neg n1_12]
    try rw [if_pos h1]
    exact tw_zret S hr (isPieceF_b _) hlocks hI dX1_isOf_163
  · refine lv_tableOut (tgt := 164) hx hb dX1_isOf_1 h1 (by decide) ?_
    refine lv_aload_n hx hb dX1_isOf_164 rfl (lv_at hl 0 rfl) ?_
    refine f1_15_3 S hK hI (xI_one hn h6 hN hO) rfl (v' := .int (σ.1 1 k)) rfl dX1_isOf_165 ?_
    refine lv_topi (fun x30 e30 => ?_)
    refine lv_iload_n hx hb dX1_isOf_168 rfl (lv_at hl 1 rfl) ?_
    refine lv_icmp_ne (tgt := 176) hx hb dX1_isOf_169 (by decide) (fun c31 => ?_) (fun c31 => ?_)
    · refine lv_iconst (v := 0) hx hb dX1_isOf_176 (by decide) ?_
      subst e30
      unfold isOfX
      try rw [if_neg n1_5]
      try rw [if_neg n1_6]
      try rw [if_neg n1_7]
      try rw [if_neg n1_8]
      try rw [if_neg n1_9]
      try rw [if_neg n1_10]
      try rw [if_neg n1_11]
      try rw [if_neg n1_12]
      try rw [if_neg n1_13]
      try rw [if_neg c31]
      exact tw_zret S hr (by decide) hlocks hI dX1_isOf_177
    · refine lv_iconst (v := 1) hx hb dX1_isOf_172 (by decide) ?_
      refine lv_goto (tgt := 177) hx hb dX1_isOf_173 (by decide) ?_
      subst e30
      unfold isOfX
      try rw [if_neg n1_5]
      try rw [if_neg n1_6]
      try rw [if_neg n1_7]
      try rw [if_neg n1_8]
      try rw [if_neg n1_9]
      try rw [if_neg n1_10]
      try rw [if_neg n1_11]
      try rw [if_neg n1_12]
      try rw [if_neg n1_13]
      try rw [if_pos c31]
      exact tw_zret S hr (by decide) hlocks hI dX1_isOf_177

set_option maxHeartbeats 2000000 in
set_option maxRecDepth 100000 in
theorem c_X1_isOf_th (l : Launch) (D : tw_G) (ad : Nat → Nat) (b : tw_W) (σ : Sg) (h : Int32) (Q : Nat → Int32) (sz : Nat) (k : Nat) (f : Int32) (hn : k < nS σ) (h6 : k < 60) (hN : isNumK (σ.1 1 k) = false) (hO : isOneK (σ.1 1 k) = false) : Met l yX1_isOf (tw_w yX1_isOf cX1_isOf 2 (some .boolean)) (tw_R 1 0 0) (tw_Pc D ad (wX b σ h Q) sz [.ref (ad (100 + k)), .int f]) (tw_Q D ad (wX b (σ) h Q) (tw_A ad (wX b σ h Q) sz) (some (.int (isOfX (σ.1 1 k) f)))) 0 0 (tw_A ad (wX b σ h Q) sz) := by
  refine tw_met (by decide) rfl (by simp [lg_sl, Value.category]) (fun p e s m below meth c ls S hK hr hlocks hnm hsz hI hl => ?_)
  have hx := S.1
  have hb := S.2.1
  have hl : lv_has ls 2 [(0, .ref (ad (100 + k))), (1, .int f)] := hl
  refine lv_iload_n hx hb dX1_isOf_0 rfl (lv_at hl 1 rfl) ?_
  rcases tsw_5_13 f with h1 | h1 | h1 | h1 | h1 | h1 | h1 | h1 | h1 | ⟨h1, n1_5, n1_6, n1_7, n1_8, n1_9, n1_10, n1_11, n1_12, n1_13⟩
  · have n1_6 : ¬ f = 6 := by rw [h1]; decide
    have n1_7 : ¬ f = 7 := by rw [h1]; decide
    have n1_8 : ¬ f = 8 := by rw [h1]; decide
    have n1_9 : ¬ f = 9 := by rw [h1]; decide
    have n1_10 : ¬ f = 10 := by rw [h1]; decide
    have n1_11 : ¬ f = 11 := by rw [h1]; decide
    have n1_12 : ¬ f = 12 := by rw [h1]; decide
    have n1_13 : ¬ f = 13 := by rw [h1]; decide
    refine lv_tableIn (off := 51) (tgt := 52) hx hb dX1_isOf_1 (by rw [h1]; decide) (by rw [h1]; decide) (by rw [h1]; decide) (by decide) ?_
    refine lv_aload_n hx hb dX1_isOf_52 rfl (lv_at hl 0 rfl) ?_
    refine f1_15_5 S hK hI (xI_th hn h6 hN hO) rfl (v' := .int (σ.1 1 k)) rfl dX1_isOf_53 ?_
    refine lv_topi (fun x2 e2 => ?_)
    refine lv_iconst (v := 5) hx hb dX1_isOf_56 (by decide) ?_
    refine lv_icmp_eq (tgt := 69) hx hb dX1_isOf_57 (by decide) (fun c3 => ?_) (fun c3 => ?_)
    · refine lv_iconst (v := 1) hx hb dX1_isOf_69 (by decide) ?_
      refine lv_goto (tgt := 74) hx hb dX1_isOf_70 (by decide) ?_
      subst e2
      unfold isOfX
      try rw [if_pos h1]
      try rw [if_pos c3]
      exact tw_zret S hr (by decide) hlocks hI dX1_isOf_74
    · refine lv_aload_n hx hb dX1_isOf_60 rfl (lv_at hl 0 rfl) ?_
      refine f1_15_5 S hK hI (xI_th hn h6 hN hO) rfl (v' := .int (σ.1 1 k)) rfl dX1_isOf_61 ?_
      refine lv_topi (fun x4 e4 => ?_)
      refine lv_bipush (v := 6) hx hb dX1_isOf_64 (by decide) ?_
      refine lv_icmp_ne (tgt := 73) hx hb dX1_isOf_66 (by decide) (fun c5 => ?_) (fun c5 => ?_)
      · refine lv_iconst (v := 0) hx hb dX1_isOf_73 (by decide) ?_
        subst e4
        subst e2
        unfold isOfX
        try rw [if_pos h1]
        try rw [if_neg c3]
        try rw [if_neg c5]
        exact tw_zret S hr (by decide) hlocks hI dX1_isOf_74
      · refine lv_iconst (v := 1) hx hb dX1_isOf_69 (by decide) ?_
        refine lv_goto (tgt := 74) hx hb dX1_isOf_70 (by decide) ?_
        subst e4
        subst e2
        unfold isOfX
        try rw [if_pos h1]
        try rw [if_neg c3]
        try rw [if_pos c5]
        exact tw_zret S hr (by decide) hlocks hI dX1_isOf_74
  · have n1_5 : ¬ f = 5 := by rw [h1]; decide
    have n1_7 : ¬ f = 7 := by rw [h1]; decide
    have n1_8 : ¬ f = 8 := by rw [h1]; decide
    have n1_9 : ¬ f = 9 := by rw [h1]; decide
    have n1_10 : ¬ f = 10 := by rw [h1]; decide
    have n1_11 : ¬ f = 11 := by rw [h1]; decide
    have n1_12 : ¬ f = 12 := by rw [h1]; decide
    have n1_13 : ¬ f = 13 := by rw [h1]; decide
    refine lv_tableIn (off := 163) (tgt := 164) hx hb dX1_isOf_1 (by rw [h1]; decide) (by rw [h1]; decide) (by rw [h1]; decide) (by decide) ?_
    refine lv_aload_n hx hb dX1_isOf_164 rfl (lv_at hl 0 rfl) ?_
    refine f1_15_5 S hK hI (xI_th hn h6 hN hO) rfl (v' := .int (σ.1 1 k)) rfl dX1_isOf_165 ?_
    refine lv_topi (fun x6 e6 => ?_)
    refine lv_iload_n hx hb dX1_isOf_168 rfl (lv_at hl 1 rfl) ?_
    refine lv_icmp_ne (tgt := 176) hx hb dX1_isOf_169 (by decide) (fun c7 => ?_) (fun c7 => ?_)
    · refine lv_iconst (v := 0) hx hb dX1_isOf_176 (by decide) ?_
      subst e6
      unfold isOfX
      try rw [if_neg n1_5]
      try rw [if_pos h1]
      try rw [if_neg c7]
      exact tw_zret S hr (by decide) hlocks hI dX1_isOf_177
    · refine lv_iconst (v := 1) hx hb dX1_isOf_172 (by decide) ?_
      refine lv_goto (tgt := 177) hx hb dX1_isOf_173 (by decide) ?_
      subst e6
      unfold isOfX
      try rw [if_neg n1_5]
      try rw [if_pos h1]
      try rw [if_pos c7]
      exact tw_zret S hr (by decide) hlocks hI dX1_isOf_177
  · have n1_5 : ¬ f = 5 := by rw [h1]; decide
    have n1_6 : ¬ f = 6 := by rw [h1]; decide
    have n1_8 : ¬ f = 8 := by rw [h1]; decide
    have n1_9 : ¬ f = 9 := by rw [h1]; decide
    have n1_10 : ¬ f = 10 := by rw [h1]; decide
    have n1_11 : ¬ f = 11 := by rw [h1]; decide
    have n1_12 : ¬ f = 12 := by rw [h1]; decide
    have n1_13 : ¬ f = 13 := by rw [h1]; decide
    refine lv_tableIn (off := 163) (tgt := 164) hx hb dX1_isOf_1 (by rw [h1]; decide) (by rw [h1]; decide) (by rw [h1]; decide) (by decide) ?_
    refine lv_aload_n hx hb dX1_isOf_164 rfl (lv_at hl 0 rfl) ?_
    refine f1_15_5 S hK hI (xI_th hn h6 hN hO) rfl (v' := .int (σ.1 1 k)) rfl dX1_isOf_165 ?_
    refine lv_topi (fun x8 e8 => ?_)
    refine lv_iload_n hx hb dX1_isOf_168 rfl (lv_at hl 1 rfl) ?_
    refine lv_icmp_ne (tgt := 176) hx hb dX1_isOf_169 (by decide) (fun c9 => ?_) (fun c9 => ?_)
    · refine lv_iconst (v := 0) hx hb dX1_isOf_176 (by decide) ?_
      subst e8
      unfold isOfX
      try rw [if_neg n1_5]
      try rw [if_neg n1_6]
      try rw [if_pos h1]
      try rw [if_neg c9]
      exact tw_zret S hr (by decide) hlocks hI dX1_isOf_177
    · refine lv_iconst (v := 1) hx hb dX1_isOf_172 (by decide) ?_
      refine lv_goto (tgt := 177) hx hb dX1_isOf_173 (by decide) ?_
      subst e8
      unfold isOfX
      try rw [if_neg n1_5]
      try rw [if_neg n1_6]
      try rw [if_pos h1]
      try rw [if_pos c9]
      exact tw_zret S hr (by decide) hlocks hI dX1_isOf_177
  · have n1_5 : ¬ f = 5 := by rw [h1]; decide
    have n1_6 : ¬ f = 6 := by rw [h1]; decide
    have n1_7 : ¬ f = 7 := by rw [h1]; decide
    have n1_9 : ¬ f = 9 := by rw [h1]; decide
    have n1_10 : ¬ f = 10 := by rw [h1]; decide
    have n1_11 : ¬ f = 11 := by rw [h1]; decide
    have n1_12 : ¬ f = 12 := by rw [h1]; decide
    have n1_13 : ¬ f = 13 := by rw [h1]; decide
    refine lv_tableIn (off := 74) (tgt := 75) hx hb dX1_isOf_1 (by rw [h1]; decide) (by rw [h1]; decide) (by rw [h1]; decide) (by decide) ?_
    refine lv_aload_n hx hb dX1_isOf_75 rfl (lv_at hl 0 rfl) ?_
    refine f1_15_5 S hK hI (xI_th hn h6 hN hO) rfl (v' := .int (σ.1 1 k)) rfl dX1_isOf_76 ?_
    refine lv_topi (fun x10 e10 => ?_)
    refine lv_bipush (v := 8) hx hb dX1_isOf_79 (by decide) ?_
    refine lv_icmp_eq (tgt := 93) hx hb dX1_isOf_81 (by decide) (fun c11 => ?_) (fun c11 => ?_)
    · refine lv_iconst (v := 1) hx hb dX1_isOf_93 (by decide) ?_
      refine lv_goto (tgt := 98) hx hb dX1_isOf_94 (by decide) ?_
      subst e10
      unfold isOfX
      try rw [if_neg n1_5]
      try rw [if_neg n1_6]
      try rw [if_neg n1_7]
      try rw [if_pos h1]
      try rw [if_pos c11]
      exact tw_zret S hr (by decide) hlocks hI dX1_isOf_98
    · refine lv_aload_n hx hb dX1_isOf_84 rfl (lv_at hl 0 rfl) ?_
      refine f1_15_5 S hK hI (xI_th hn h6 hN hO) rfl (v' := .int (σ.1 1 k)) rfl dX1_isOf_85 ?_
      refine lv_topi (fun x12 e12 => ?_)
      refine lv_bipush (v := 9) hx hb dX1_isOf_88 (by decide) ?_
      refine lv_icmp_ne (tgt := 97) hx hb dX1_isOf_90 (by decide) (fun c13 => ?_) (fun c13 => ?_)
      · refine lv_iconst (v := 0) hx hb dX1_isOf_97 (by decide) ?_
        subst e12
        subst e10
        unfold isOfX
        try rw [if_neg n1_5]
        try rw [if_neg n1_6]
        try rw [if_neg n1_7]
        try rw [if_pos h1]
        try rw [if_neg c11]
        try rw [if_neg c13]
        exact tw_zret S hr (by decide) hlocks hI dX1_isOf_98
      · refine lv_iconst (v := 1) hx hb dX1_isOf_93 (by decide) ?_
        refine lv_goto (tgt := 98) hx hb dX1_isOf_94 (by decide) ?_
        subst e12
        subst e10
        unfold isOfX
        try rw [if_neg n1_5]
        try rw [if_neg n1_6]
        try rw [if_neg n1_7]
        try rw [if_pos h1]
        try rw [if_neg c11]
        try rw [if_pos c13]
        exact tw_zret S hr (by decide) hlocks hI dX1_isOf_98
  · have n1_5 : ¬ f = 5 := by rw [h1]; decide
    have n1_6 : ¬ f = 6 := by rw [h1]; decide
    have n1_7 : ¬ f = 7 := by rw [h1]; decide
    have n1_8 : ¬ f = 8 := by rw [h1]; decide
    have n1_10 : ¬ f = 10 := by rw [h1]; decide
    have n1_11 : ¬ f = 11 := by rw [h1]; decide
    have n1_12 : ¬ f = 12 := by rw [h1]; decide
    have n1_13 : ¬ f = 13 := by rw [h1]; decide
    refine lv_tableIn (off := 163) (tgt := 164) hx hb dX1_isOf_1 (by rw [h1]; decide) (by rw [h1]; decide) (by rw [h1]; decide) (by decide) ?_
    refine lv_aload_n hx hb dX1_isOf_164 rfl (lv_at hl 0 rfl) ?_
    refine f1_15_5 S hK hI (xI_th hn h6 hN hO) rfl (v' := .int (σ.1 1 k)) rfl dX1_isOf_165 ?_
    refine lv_topi (fun x14 e14 => ?_)
    refine lv_iload_n hx hb dX1_isOf_168 rfl (lv_at hl 1 rfl) ?_
    refine lv_icmp_ne (tgt := 176) hx hb dX1_isOf_169 (by decide) (fun c15 => ?_) (fun c15 => ?_)
    · refine lv_iconst (v := 0) hx hb dX1_isOf_176 (by decide) ?_
      subst e14
      unfold isOfX
      try rw [if_neg n1_5]
      try rw [if_neg n1_6]
      try rw [if_neg n1_7]
      try rw [if_neg n1_8]
      try rw [if_pos h1]
      try rw [if_neg c15]
      exact tw_zret S hr (by decide) hlocks hI dX1_isOf_177
    · refine lv_iconst (v := 1) hx hb dX1_isOf_172 (by decide) ?_
      refine lv_goto (tgt := 177) hx hb dX1_isOf_173 (by decide) ?_
      subst e14
      unfold isOfX
      try rw [if_neg n1_5]
      try rw [if_neg n1_6]
      try rw [if_neg n1_7]
      try rw [if_neg n1_8]
      try rw [if_pos h1]
      try rw [if_pos c15]
      exact tw_zret S hr (by decide) hlocks hI dX1_isOf_177
  · have n1_5 : ¬ f = 5 := by rw [h1]; decide
    have n1_6 : ¬ f = 6 := by rw [h1]; decide
    have n1_7 : ¬ f = 7 := by rw [h1]; decide
    have n1_8 : ¬ f = 8 := by rw [h1]; decide
    have n1_9 : ¬ f = 9 := by rw [h1]; decide
    have n1_11 : ¬ f = 11 := by rw [h1]; decide
    have n1_12 : ¬ f = 12 := by rw [h1]; decide
    have n1_13 : ¬ f = 13 := by rw [h1]; decide
    refine lv_tableIn (off := 98) (tgt := 99) hx hb dX1_isOf_1 (by rw [h1]; decide) (by rw [h1]; decide) (by rw [h1]; decide) (by decide) ?_
    refine lv_aload_n hx hb dX1_isOf_99 rfl (lv_at hl 0 rfl) ?_
    refine f1_15_5 S hK hI (xI_th hn h6 hN hO) rfl (v' := .int (σ.1 1 k)) rfl dX1_isOf_100 ?_
    refine lv_topi (fun x16 e16 => ?_)
    refine lv_bipush (v := 10) hx hb dX1_isOf_103 (by decide) ?_
    refine lv_icmp_eq (tgt := 126) hx hb dX1_isOf_105 (by decide) (fun c17 => ?_) (fun c17 => ?_)
    · refine lv_iconst (v := 1) hx hb dX1_isOf_126 (by decide) ?_
      refine lv_goto (tgt := 131) hx hb dX1_isOf_127 (by decide) ?_
      subst e16
      unfold isOfX
      try rw [if_neg n1_5]
      try rw [if_neg n1_6]
      try rw [if_neg n1_7]
      try rw [if_neg n1_8]
      try rw [if_neg n1_9]
      try rw [if_pos h1]
      try rw [if_pos c17]
      exact tw_zret S hr (by decide) hlocks hI dX1_isOf_131
    · refine lv_aload_n hx hb dX1_isOf_108 rfl (lv_at hl 0 rfl) ?_
      refine f1_15_5 S hK hI (xI_th hn h6 hN hO) rfl (v' := .int (σ.1 1 k)) rfl dX1_isOf_109 ?_
      refine lv_topi (fun x18 e18 => ?_)
      refine lv_bipush (v := 8) hx hb dX1_isOf_112 (by decide) ?_
      refine lv_icmp_eq (tgt := 126) hx hb dX1_isOf_114 (by decide) (fun c19 => ?_) (fun c19 => ?_)
      · refine lv_iconst (v := 1) hx hb dX1_isOf_126 (by decide) ?_
        refine lv_goto (tgt := 131) hx hb dX1_isOf_127 (by decide) ?_
        subst e18
        subst e16
        unfold isOfX
        try rw [if_neg n1_5]
        try rw [if_neg n1_6]
        try rw [if_neg n1_7]
        try rw [if_neg n1_8]
        try rw [if_neg n1_9]
        try rw [if_pos h1]
        try rw [if_neg c17]
        try rw [if_pos c19]
        exact tw_zret S hr (by decide) hlocks hI dX1_isOf_131
      · refine lv_aload_n hx hb dX1_isOf_117 rfl (lv_at hl 0 rfl) ?_
        refine f1_15_5 S hK hI (xI_th hn h6 hN hO) rfl (v' := .int (σ.1 1 k)) rfl dX1_isOf_118 ?_
        refine lv_topi (fun x20 e20 => ?_)
        refine lv_bipush (v := 9) hx hb dX1_isOf_121 (by decide) ?_
        refine lv_icmp_ne (tgt := 130) hx hb dX1_isOf_123 (by decide) (fun c21 => ?_) (fun c21 => ?_)
        · refine lv_iconst (v := 0) hx hb dX1_isOf_130 (by decide) ?_
          subst e20
          subst e18
          subst e16
          unfold isOfX
          try rw [if_neg n1_5]
          try rw [if_neg n1_6]
          try rw [if_neg n1_7]
          try rw [if_neg n1_8]
          try rw [if_neg n1_9]
          try rw [if_pos h1]
          try rw [if_neg c17]
          try rw [if_neg c19]
          try rw [if_neg c21]
          exact tw_zret S hr (by decide) hlocks hI dX1_isOf_131
        · refine lv_iconst (v := 1) hx hb dX1_isOf_126 (by decide) ?_
          refine lv_goto (tgt := 131) hx hb dX1_isOf_127 (by decide) ?_
          subst e20
          subst e18
          subst e16
          unfold isOfX
          try rw [if_neg n1_5]
          try rw [if_neg n1_6]
          try rw [if_neg n1_7]
          try rw [if_neg n1_8]
          try rw [if_neg n1_9]
          try rw [if_pos h1]
          try rw [if_neg c17]
          try rw [if_neg c19]
          try rw [if_pos c21]
          exact tw_zret S hr (by decide) hlocks hI dX1_isOf_131
  · have n1_5 : ¬ f = 5 := by rw [h1]; decide
    have n1_6 : ¬ f = 6 := by rw [h1]; decide
    have n1_7 : ¬ f = 7 := by rw [h1]; decide
    have n1_8 : ¬ f = 8 := by rw [h1]; decide
    have n1_9 : ¬ f = 9 := by rw [h1]; decide
    have n1_10 : ¬ f = 10 := by rw [h1]; decide
    have n1_12 : ¬ f = 12 := by rw [h1]; decide
    have n1_13 : ¬ f = 13 := by rw [h1]; decide
    refine lv_tableIn (off := 131) (tgt := 132) hx hb dX1_isOf_1 (by rw [h1]; decide) (by rw [h1]; decide) (by rw [h1]; decide) (by decide) ?_
    refine lv_aload_n hx hb dX1_isOf_132 rfl (lv_at hl 0 rfl) ?_
    refine f1_15_5 S hK hI (xI_th hn h6 hN hO) rfl (v' := .int (σ.1 1 k)) rfl dX1_isOf_133 ?_
    refine lv_topi (fun x22 e22 => ?_)
    refine lv_bipush (v := 11) hx hb dX1_isOf_136 (by decide) ?_
    refine lv_icmp_eq (tgt := 150) hx hb dX1_isOf_138 (by decide) (fun c23 => ?_) (fun c23 => ?_)
    · refine lv_iconst (v := 1) hx hb dX1_isOf_150 (by decide) ?_
      refine lv_goto (tgt := 155) hx hb dX1_isOf_151 (by decide) ?_
      subst e22
      unfold isOfX
      try rw [if_neg n1_5]
      try rw [if_neg n1_6]
      try rw [if_neg n1_7]
      try rw [if_neg n1_8]
      try rw [if_neg n1_9]
      try rw [if_neg n1_10]
      try rw [if_pos h1]
      try rw [if_pos c23]
      exact tw_zret S hr (by decide) hlocks hI dX1_isOf_155
    · refine lv_aload_n hx hb dX1_isOf_141 rfl (lv_at hl 0 rfl) ?_
      refine f1_15_5 S hK hI (xI_th hn h6 hN hO) rfl (v' := .int (σ.1 1 k)) rfl dX1_isOf_142 ?_
      refine lv_topi (fun x24 e24 => ?_)
      refine lv_bipush (v := 12) hx hb dX1_isOf_145 (by decide) ?_
      refine lv_icmp_ne (tgt := 154) hx hb dX1_isOf_147 (by decide) (fun c25 => ?_) (fun c25 => ?_)
      · refine lv_iconst (v := 0) hx hb dX1_isOf_154 (by decide) ?_
        subst e24
        subst e22
        unfold isOfX
        try rw [if_neg n1_5]
        try rw [if_neg n1_6]
        try rw [if_neg n1_7]
        try rw [if_neg n1_8]
        try rw [if_neg n1_9]
        try rw [if_neg n1_10]
        try rw [if_pos h1]
        try rw [if_neg c23]
        try rw [if_neg c25]
        exact tw_zret S hr (by decide) hlocks hI dX1_isOf_155
      · refine lv_iconst (v := 1) hx hb dX1_isOf_150 (by decide) ?_
        refine lv_goto (tgt := 155) hx hb dX1_isOf_151 (by decide) ?_
        subst e24
        subst e22
        unfold isOfX
        try rw [if_neg n1_5]
        try rw [if_neg n1_6]
        try rw [if_neg n1_7]
        try rw [if_neg n1_8]
        try rw [if_neg n1_9]
        try rw [if_neg n1_10]
        try rw [if_pos h1]
        try rw [if_neg c23]
        try rw [if_pos c25]
        exact tw_zret S hr (by decide) hlocks hI dX1_isOf_155
  · have n1_5 : ¬ f = 5 := by rw [h1]; decide
    have n1_6 : ¬ f = 6 := by rw [h1]; decide
    have n1_7 : ¬ f = 7 := by rw [h1]; decide
    have n1_8 : ¬ f = 8 := by rw [h1]; decide
    have n1_9 : ¬ f = 9 := by rw [h1]; decide
    have n1_10 : ¬ f = 10 := by rw [h1]; decide
    have n1_11 : ¬ f = 11 := by rw [h1]; decide
    have n1_13 : ¬ f = 13 := by rw [h1]; decide
    refine lv_tableIn (off := 163) (tgt := 164) hx hb dX1_isOf_1 (by rw [h1]; decide) (by rw [h1]; decide) (by rw [h1]; decide) (by decide) ?_
    refine lv_aload_n hx hb dX1_isOf_164 rfl (lv_at hl 0 rfl) ?_
    refine f1_15_5 S hK hI (xI_th hn h6 hN hO) rfl (v' := .int (σ.1 1 k)) rfl dX1_isOf_165 ?_
    refine lv_topi (fun x26 e26 => ?_)
    refine lv_iload_n hx hb dX1_isOf_168 rfl (lv_at hl 1 rfl) ?_
    refine lv_icmp_ne (tgt := 176) hx hb dX1_isOf_169 (by decide) (fun c27 => ?_) (fun c27 => ?_)
    · refine lv_iconst (v := 0) hx hb dX1_isOf_176 (by decide) ?_
      subst e26
      unfold isOfX
      try rw [if_neg n1_5]
      try rw [if_neg n1_6]
      try rw [if_neg n1_7]
      try rw [if_neg n1_8]
      try rw [if_neg n1_9]
      try rw [if_neg n1_10]
      try rw [if_neg n1_11]
      try rw [if_pos h1]
      try rw [if_neg c27]
      exact tw_zret S hr (by decide) hlocks hI dX1_isOf_177
    · refine lv_iconst (v := 1) hx hb dX1_isOf_172 (by decide) ?_
      refine lv_goto (tgt := 177) hx hb dX1_isOf_173 (by decide) ?_
      subst e26
      unfold isOfX
      try rw [if_neg n1_5]
      try rw [if_neg n1_6]
      try rw [if_neg n1_7]
      try rw [if_neg n1_8]
      try rw [if_neg n1_9]
      try rw [if_neg n1_10]
      try rw [if_neg n1_11]
      try rw [if_pos h1]
      try rw [if_pos c27]
      exact tw_zret S hr (by decide) hlocks hI dX1_isOf_177
  · have n1_5 : ¬ f = 5 := by rw [h1]; decide
    have n1_6 : ¬ f = 6 := by rw [h1]; decide
    have n1_7 : ¬ f = 7 := by rw [h1]; decide
    have n1_8 : ¬ f = 8 := by rw [h1]; decide
    have n1_9 : ¬ f = 9 := by rw [h1]; decide
    have n1_10 : ¬ f = 10 := by rw [h1]; decide
    have n1_11 : ¬ f = 11 := by rw [h1]; decide
    have n1_12 : ¬ f = 12 := by rw [h1]; decide
    refine lv_tableIn (off := 155) (tgt := 156) hx hb dX1_isOf_1 (by rw [h1]; decide) (by rw [h1]; decide) (by rw [h1]; decide) (by decide) ?_
    refine lv_aload_n hx hb dX1_isOf_156 rfl (lv_at hl 0 rfl) ?_
    refine f1_15_5 S hK hI (xI_th hn h6 hN hO) rfl (v' := .int (σ.1 1 k)) rfl dX1_isOf_157 ?_
    refine lv_topi (fun x28 e28 => ?_)
    refine tw_calli (tw_rSN (As := [.int x28]) (rest := []) S hK hI kX1_18 (c_X6_isPiece l D ad _ _ _) ⟨Nat.le_of_ble_eq_true rfl, Nat.le_of_ble_eq_true rfl⟩ ⟨Nat.le_of_ble_eq_true rfl, Nat.le_of_ble_eq_true rfl⟩ rfl hl.1 rfl (Nat.le_of_ble_eq_true rfl) dX1_isOf_160) hI (fun H locs hI => ?_)
    refine lv_topi (fun x29 e29 => ?_)
    subst e29
    subst e28
    unfold isOfX
    try rw [if_neg n1_5]
    try rw [if_neg n1_6]
    try rw [if_neg n1_7]
    try rw [if_neg n1_8]
    try rw [if_neg n1_9]
    try rw [if_neg n1_10]
    try rw [if_neg n1_11]
    try rw [if_neg n1_12]
    try rw [if_pos h1]
    exact tw_zret S hr (isPieceF_b _) hlocks hI dX1_isOf_163
  · refine lv_tableOut (tgt := 164) hx hb dX1_isOf_1 h1 (by decide) ?_
    refine lv_aload_n hx hb dX1_isOf_164 rfl (lv_at hl 0 rfl) ?_
    refine f1_15_5 S hK hI (xI_th hn h6 hN hO) rfl (v' := .int (σ.1 1 k)) rfl dX1_isOf_165 ?_
    refine lv_topi (fun x30 e30 => ?_)
    refine lv_iload_n hx hb dX1_isOf_168 rfl (lv_at hl 1 rfl) ?_
    refine lv_icmp_ne (tgt := 176) hx hb dX1_isOf_169 (by decide) (fun c31 => ?_) (fun c31 => ?_)
    · refine lv_iconst (v := 0) hx hb dX1_isOf_176 (by decide) ?_
      subst e30
      unfold isOfX
      try rw [if_neg n1_5]
      try rw [if_neg n1_6]
      try rw [if_neg n1_7]
      try rw [if_neg n1_8]
      try rw [if_neg n1_9]
      try rw [if_neg n1_10]
      try rw [if_neg n1_11]
      try rw [if_neg n1_12]
      try rw [if_neg n1_13]
      try rw [if_neg c31]
      exact tw_zret S hr (by decide) hlocks hI dX1_isOf_177
    · refine lv_iconst (v := 1) hx hb dX1_isOf_172 (by decide) ?_
      refine lv_goto (tgt := 177) hx hb dX1_isOf_173 (by decide) ?_
      subst e30
      unfold isOfX
      try rw [if_neg n1_5]
      try rw [if_neg n1_6]
      try rw [if_neg n1_7]
      try rw [if_neg n1_8]
      try rw [if_neg n1_9]
      try rw [if_neg n1_10]
      try rw [if_neg n1_11]
      try rw [if_neg n1_12]
      try rw [if_neg n1_13]
      try rw [if_pos c31]
      exact tw_zret S hr (by decide) hlocks hI dX1_isOf_177

theorem c_X1_isOf (l : Launch) (D : tw_G) (ad : Nat → Nat) (b : tw_W) (σ : Sg) (h : Int32) (Q : Nat → Int32) (sz : Nat) (k : Nat) (f : Int32) (hn : k < nS σ) (h6 : k < 60) : Met l yX1_isOf (tw_w yX1_isOf cX1_isOf 2 (some .boolean)) (tw_R 1 0 0) (tw_Pc D ad (wX b σ h Q) sz [.ref (ad (100 + k)), .int f]) (tw_Q D ad (wX b σ h Q) (tw_A ad (wX b σ h Q) sz) (some (.int (isOfX (σ.1 1 k) f)))) 0 0 (tw_A ad (wX b σ h Q) sz) := by
  cases hN : isNumK (σ.1 1 k) with
  | true => exact c_X1_isOf_num l D ad b σ h Q sz k f hn h6 hN
  | false =>
    cases hO : isOneK (σ.1 1 k) with
    | true => exact c_X1_isOf_one l D ad b σ h Q sz k f hn h6 hN hO
    | false => exact c_X1_isOf_th l D ad b σ h Q sz k f hn h6 hN hO
set_option maxHeartbeats 2000000 in
set_option maxRecDepth 100000 in
theorem c_X2_places (l : Launch) (D : tw_G) (ad : Nat → Nat) (b : tw_W) (σ : Sg) (h : Int32) (Q : Nat → Int32) (sz : Nat) (k : Nat) (hn : k < nS σ) (h6 : k < 60) (hN : isNumK (σ.1 1 k) = true) : Met l yX2_places (tw_w yX2_places cX2_places 1 (some .int)) (tw_R 0 0 0) (tw_Pc D ad (wX b σ h Q) sz [.ref (ad (100 + k))]) (tw_Q D ad (wX b (σ) h Q) (tw_A ad (wX b σ h Q) sz) (some (.int (nI (szS σ k))))) 0 0 (tw_A ad (wX b σ h Q) sz) := by
  refine tw_met (by decide) rfl (by simp [lg_sl, Value.category]) (fun p e s m below meth c ls S hK hr hlocks hnm hsz hI hl => ?_)
  have hx := S.1
  have hb := S.2.1
  have hl : lv_has ls 1 [(0, .ref (ad (100 + k)))] := hl
  refine lv_aload_n hx hb dX2_places_0 rfl (lv_at hl 0 rfl) ?_
  refine f2_9_2 S hK hI (xI_num hn h6 hN) rfl (v' := .ref (ad (200 + k))) rfl dX2_places_1 ?_
  refine tw_alen S hK hI (t := 200 + k) (xA_num hn h6 hN) rfl (v := nI (szS σ k)) rfl dX2_places_4 ?_
  exact tw_iret S hr hlocks hI dX2_places_5

set_option maxHeartbeats 2000000 in
set_option maxRecDepth 100000 in
theorem c_X2_hasPlace_in (l : Launch) (D : tw_G) (ad : Nat → Nat) (b : tw_W) (σ : Sg) (h : Int32) (Q : Nat → Int32) (sz : Nat) (k i : Nat) (hn : k < nS σ) (h6 : k < 60) (hN : isNumK (σ.1 1 k) = true) (hi : i < szS σ k) (hz : szS σ k ≤ 3) : Met l yX2_hasPlace (tw_w yX2_hasPlace cX2_hasPlace 2 (some .boolean)) (tw_R 0 0 0) (tw_Pc D ad (wX b σ h Q) sz [.ref (ad (100 + k)), .int (nI i)]) (tw_Q D ad (wX b (σ) h Q) (tw_A ad (wX b σ h Q) sz) (some (.int 1))) 0 0 (tw_A ad (wX b σ h Q) sz) := by
  refine tw_met (by decide) rfl (by simp [lg_sl, Value.category]) (fun p e s m below meth c ls S hK hr hlocks hnm hsz hI hl => ?_)
  have hx := S.1
  have hb := S.2.1
  have hl : lv_has ls 2 [(0, .ref (ad (100 + k))), (1, .int (nI i))] := hl
  refine lv_iload_n hx hb dX2_hasPlace_0 rfl (lv_at hl 1 rfl) ?_
  refine lv_if_lt (tgt := 17) hx hb dX2_hasPlace_1 (by decide) (fun c1 => ?_) (fun c1 => ?_)
  · exact absurd c1 (nI_pos (by omega))
  · refine lv_iload_n hx hb dX2_hasPlace_4 rfl (lv_at hl 1 rfl) ?_
    refine lv_aload_n hx hb dX2_hasPlace_5 rfl (lv_at hl 0 rfl) ?_
    refine f2_9_2 S hK hI (xI_num hn h6 hN) rfl (v' := .ref (ad (200 + k))) rfl dX2_hasPlace_6 ?_
    refine tw_alen S hK hI (t := 200 + k) (xA_num hn h6 hN) rfl (v := nI (szS σ k)) rfl dX2_hasPlace_9 ?_
    refine lv_icmp_ge (tgt := 17) hx hb dX2_hasPlace_10 (by decide) (fun c2 => ?_) (fun c2 => ?_)
    · exact absurd c2 (nI_ge hi (by omega))
    · refine lv_iconst (v := 1) hx hb dX2_hasPlace_13 (by decide) ?_
      refine lv_goto (tgt := 18) hx hb dX2_hasPlace_14 (by decide) ?_
      exact tw_zret S hr (by decide) hlocks hI dX2_hasPlace_18

set_option maxHeartbeats 2000000 in
set_option maxRecDepth 100000 in
theorem c_X2_hasPlace_out (l : Launch) (D : tw_G) (ad : Nat → Nat) (b : tw_W) (σ : Sg) (h : Int32) (Q : Nat → Int32) (sz : Nat) (k : Nat) (i : Int32) (hn : k < nS σ) (h6 : k < 60) (hN : isNumK (σ.1 1 k) = true) (hi : i < 0 ∨ nI (szS σ k) ≤ i) : Met l yX2_hasPlace (tw_w yX2_hasPlace cX2_hasPlace 2 (some .boolean)) (tw_R 0 0 0) (tw_Pc D ad (wX b σ h Q) sz [.ref (ad (100 + k)), .int i]) (tw_Q D ad (wX b (σ) h Q) (tw_A ad (wX b σ h Q) sz) (some (.int 0))) 0 0 (tw_A ad (wX b σ h Q) sz) := by
  refine tw_met (by decide) rfl (by simp [lg_sl, Value.category]) (fun p e s m below meth c ls S hK hr hlocks hnm hsz hI hl => ?_)
  have hx := S.1
  have hb := S.2.1
  have hl : lv_has ls 2 [(0, .ref (ad (100 + k))), (1, .int i)] := hl
  refine lv_iload_n hx hb dX2_hasPlace_0 rfl (lv_at hl 1 rfl) ?_
  refine lv_if_lt (tgt := 17) hx hb dX2_hasPlace_1 (by decide) (fun c1 => ?_) (fun c1 => ?_)
  · refine lv_iconst (v := 0) hx hb dX2_hasPlace_17 (by decide) ?_
    try rw [if_pos c1]
    exact tw_zret S hr (by decide) hlocks hI dX2_hasPlace_18
  · refine lv_iload_n hx hb dX2_hasPlace_4 rfl (lv_at hl 1 rfl) ?_
    refine lv_aload_n hx hb dX2_hasPlace_5 rfl (lv_at hl 0 rfl) ?_
    refine f2_9_2 S hK hI (xI_num hn h6 hN) rfl (v' := .ref (ad (200 + k))) rfl dX2_hasPlace_6 ?_
    refine tw_alen S hK hI (t := 200 + k) (xA_num hn h6 hN) rfl (v := nI (szS σ k)) rfl dX2_hasPlace_9 ?_
    refine lv_icmp_ge (tgt := 17) hx hb dX2_hasPlace_10 (by decide) (fun c2 => ?_) (fun c2 => ?_)
    · refine lv_iconst (v := 0) hx hb dX2_hasPlace_17 (by decide) ?_
      try rw [if_neg c1]
      try rw [if_pos c2]
      exact tw_zret S hr (by decide) hlocks hI dX2_hasPlace_18
    · exact absurd hi (fun q => q.elim c1 c2)

set_option maxHeartbeats 2000000 in
set_option maxRecDepth 100000 in
theorem c_X5_places (l : Launch) (D : tw_G) (ad : Nat → Nat) (b : tw_W) (σ : Sg) (h : Int32) (Q : Nat → Int32) (sz : Nat) (k : Nat) (hn : k < nS σ) (h6 : k < 60) (hN : isNumK (σ.1 1 k) = false) (hO : isOneK (σ.1 1 k) = false) : Met l yX5_places (tw_w yX5_places cX5_places 1 (some .int)) (tw_R 0 0 0) (tw_Pc D ad (wX b σ h Q) sz [.ref (ad (100 + k))]) (tw_Q D ad (wX b (σ) h Q) (tw_A ad (wX b σ h Q) sz) (some (.int (nI (szS σ k))))) 0 0 (tw_A ad (wX b σ h Q) sz) := by
  refine tw_met (by decide) rfl (by simp [lg_sl, Value.category]) (fun p e s m below meth c ls S hK hr hlocks hnm hsz hI hl => ?_)
  have hx := S.1
  have hb := S.2.1
  have hl : lv_has ls 1 [(0, .ref (ad (100 + k)))] := hl
  refine lv_aload_n hx hb dX5_places_0 rfl (lv_at hl 0 rfl) ?_
  refine f5_9_5 S hK hI (xI_th hn h6 hN hO) rfl (v' := .ref (ad (200 + k))) rfl dX5_places_1 ?_
  refine tw_alen S hK hI (t := 200 + k) (xA_th hn h6 hN hO) rfl (v := nI (szS σ k)) rfl dX5_places_4 ?_
  exact tw_iret S hr hlocks hI dX5_places_5

set_option maxHeartbeats 2000000 in
set_option maxRecDepth 100000 in
theorem c_X5_hasPlace_in (l : Launch) (D : tw_G) (ad : Nat → Nat) (b : tw_W) (σ : Sg) (h : Int32) (Q : Nat → Int32) (sz : Nat) (k i : Nat) (hn : k < nS σ) (h6 : k < 60) (hN : isNumK (σ.1 1 k) = false) (hO : isOneK (σ.1 1 k) = false) (hi : i < szS σ k) (hz : szS σ k ≤ 3) : Met l yX5_hasPlace (tw_w yX5_hasPlace cX5_hasPlace 2 (some .boolean)) (tw_R 0 0 0) (tw_Pc D ad (wX b σ h Q) sz [.ref (ad (100 + k)), .int (nI i)]) (tw_Q D ad (wX b (σ) h Q) (tw_A ad (wX b σ h Q) sz) (some (.int 1))) 0 0 (tw_A ad (wX b σ h Q) sz) := by
  refine tw_met (by decide) rfl (by simp [lg_sl, Value.category]) (fun p e s m below meth c ls S hK hr hlocks hnm hsz hI hl => ?_)
  have hx := S.1
  have hb := S.2.1
  have hl : lv_has ls 2 [(0, .ref (ad (100 + k))), (1, .int (nI i))] := hl
  refine lv_iload_n hx hb dX5_hasPlace_0 rfl (lv_at hl 1 rfl) ?_
  refine lv_if_lt (tgt := 17) hx hb dX5_hasPlace_1 (by decide) (fun c1 => ?_) (fun c1 => ?_)
  · exact absurd c1 (nI_pos (by omega))
  · refine lv_iload_n hx hb dX5_hasPlace_4 rfl (lv_at hl 1 rfl) ?_
    refine lv_aload_n hx hb dX5_hasPlace_5 rfl (lv_at hl 0 rfl) ?_
    refine f5_9_5 S hK hI (xI_th hn h6 hN hO) rfl (v' := .ref (ad (200 + k))) rfl dX5_hasPlace_6 ?_
    refine tw_alen S hK hI (t := 200 + k) (xA_th hn h6 hN hO) rfl (v := nI (szS σ k)) rfl dX5_hasPlace_9 ?_
    refine lv_icmp_ge (tgt := 17) hx hb dX5_hasPlace_10 (by decide) (fun c2 => ?_) (fun c2 => ?_)
    · exact absurd c2 (nI_ge hi (by omega))
    · refine lv_iconst (v := 1) hx hb dX5_hasPlace_13 (by decide) ?_
      refine lv_goto (tgt := 18) hx hb dX5_hasPlace_14 (by decide) ?_
      exact tw_zret S hr (by decide) hlocks hI dX5_hasPlace_18

set_option maxHeartbeats 2000000 in
set_option maxRecDepth 100000 in
theorem c_X5_hasPlace_out (l : Launch) (D : tw_G) (ad : Nat → Nat) (b : tw_W) (σ : Sg) (h : Int32) (Q : Nat → Int32) (sz : Nat) (k : Nat) (i : Int32) (hn : k < nS σ) (h6 : k < 60) (hN : isNumK (σ.1 1 k) = false) (hO : isOneK (σ.1 1 k) = false) (hi : i < 0 ∨ nI (szS σ k) ≤ i) : Met l yX5_hasPlace (tw_w yX5_hasPlace cX5_hasPlace 2 (some .boolean)) (tw_R 0 0 0) (tw_Pc D ad (wX b σ h Q) sz [.ref (ad (100 + k)), .int i]) (tw_Q D ad (wX b (σ) h Q) (tw_A ad (wX b σ h Q) sz) (some (.int 0))) 0 0 (tw_A ad (wX b σ h Q) sz) := by
  refine tw_met (by decide) rfl (by simp [lg_sl, Value.category]) (fun p e s m below meth c ls S hK hr hlocks hnm hsz hI hl => ?_)
  have hx := S.1
  have hb := S.2.1
  have hl : lv_has ls 2 [(0, .ref (ad (100 + k))), (1, .int i)] := hl
  refine lv_iload_n hx hb dX5_hasPlace_0 rfl (lv_at hl 1 rfl) ?_
  refine lv_if_lt (tgt := 17) hx hb dX5_hasPlace_1 (by decide) (fun c1 => ?_) (fun c1 => ?_)
  · refine lv_iconst (v := 0) hx hb dX5_hasPlace_17 (by decide) ?_
    try rw [if_pos c1]
    exact tw_zret S hr (by decide) hlocks hI dX5_hasPlace_18
  · refine lv_iload_n hx hb dX5_hasPlace_4 rfl (lv_at hl 1 rfl) ?_
    refine lv_aload_n hx hb dX5_hasPlace_5 rfl (lv_at hl 0 rfl) ?_
    refine f5_9_5 S hK hI (xI_th hn h6 hN hO) rfl (v' := .ref (ad (200 + k))) rfl dX5_hasPlace_6 ?_
    refine tw_alen S hK hI (t := 200 + k) (xA_th hn h6 hN hO) rfl (v := nI (szS σ k)) rfl dX5_hasPlace_9 ?_
    refine lv_icmp_ge (tgt := 17) hx hb dX5_hasPlace_10 (by decide) (fun c2 => ?_) (fun c2 => ?_)
    · refine lv_iconst (v := 0) hx hb dX5_hasPlace_17 (by decide) ?_
      try rw [if_neg c1]
      try rw [if_pos c2]
      exact tw_zret S hr (by decide) hlocks hI dX5_hasPlace_18
    · exact absurd hi (fun q => q.elim c1 c2)

set_option maxHeartbeats 2000000 in
set_option maxRecDepth 100000 in
theorem c_X3_places (l : Launch) (D : tw_G) (ad : Nat → Nat) (b : tw_W) (σ : Sg) (h : Int32) (Q : Nat → Int32) (sz : Nat) (k : Nat) : Met l yX3_places (tw_w yX3_places cX3_places 1 (some .int)) (tw_R 0 0 0) (tw_Pc D ad (wX b σ h Q) sz [.ref (ad (100 + k))]) (tw_Q D ad (wX b (σ) h Q) (tw_A ad (wX b σ h Q) sz) (some (.int 1))) 0 0 (tw_A ad (wX b σ h Q) sz) := by
  refine tw_met (by decide) rfl (by simp [lg_sl, Value.category]) (fun p e s m below meth c ls S hK hr hlocks hnm hsz hI hl => ?_)
  have hx := S.1
  have hb := S.2.1
  have hl : lv_has ls 1 [(0, .ref (ad (100 + k)))] := hl
  refine lv_iconst (v := 1) hx hb dX3_places_0 (by decide) ?_
  exact tw_iret S hr hlocks hI dX3_places_1

set_option maxHeartbeats 2000000 in
set_option maxRecDepth 100000 in
theorem c_X3_turn (l : Launch) (D : tw_G) (ad : Nat → Nat) (b : tw_W) (σ : Sg) (h : Int32) (Q : Nat → Int32) (sz : Nat) (k : Nat) : Met l yX3_turn (tw_w yX3_turn cX3_turn 1 none) (tw_R 0 0 0) (tw_Pc D ad (wX b σ h Q) sz [.ref (ad (100 + k))]) (tw_Q D ad (wX b (σ) h Q) (tw_A ad (wX b σ h Q) sz) none) 0 0 (tw_A ad (wX b σ h Q) sz) := by
  refine tw_met (by decide) rfl (by simp [lg_sl, Value.category]) (fun p e s m below meth c ls S hK hr hlocks hnm hsz hI hl => ?_)
  have hx := S.1
  have hb := S.2.1
  have hl : lv_has ls 1 [(0, .ref (ad (100 + k)))] := hl
  exact tw_vret S hr hlocks hI dX3_turn_0

set_option maxHeartbeats 2000000 in
set_option maxRecDepth 100000 in
theorem c_X2_fit (l : Launch) (D : tw_G) (ad : Nat → Nat) (b : tw_W) (σ : Sg) (h : Int32) (Q : Nat → Int32) (sz : Nat) (k : Nat) (v : Int64) (hn : k < nS σ) (h6 : k < 60) (hN : isNumK (σ.1 1 k) = true) : Met l yX2_fit (tw_w yX2_fit cX2_fit 3 (some .long)) (tw_R 0 0 0) (tw_Pc D ad (wX b σ h Q) sz [.ref (ad (100 + k)), .long v]) (tw_Q D ad (wX b (σ) h Q) (tw_A ad (wX b σ h Q) sz) (some (.long (fitX (σ.1 1 k) v)))) 0 0 (tw_A ad (wX b σ h Q) sz) := by
  refine tw_met (by decide) rfl (by simp [lg_sl, Value.category]) (fun p e s m below meth c ls S hK hr hlocks hnm hsz hI hl => ?_)
  have hx := S.1
  have hb := S.2.1
  have hl : lv_has ls 3 [(0, .ref (ad (100 + k))), (1, .long v)] := hl
  refine lv_aload_n hx hb dX2_fit_0 rfl (lv_at hl 0 rfl) ?_
  refine f2_32_2 S hK hI (xI_num hn h6 hN) rfl (v' := .int (σ.1 1 k)) rfl dX2_fit_1 ?_
  refine lv_topi (fun x1 e1 => ?_)
  rcases tsw_0_3 x1 with h2 | h2 | h2 | h2 | ⟨h2, n2_0, n2_1, n2_2, n2_3⟩
  · have n2_1 : ¬ x1 = 1 := by rw [h2]; decide
    have n2_2 : ¬ x1 = 2 := by rw [h2]; decide
    have n2_3 : ¬ x1 = 3 := by rw [h2]; decide
    refine lv_tableIn (off := 32) (tgt := 36) hx hb dX2_fit_4 (by rw [h2]; decide) (by rw [h2]; decide) (by rw [h2]; decide) (by decide) ?_
    refine lv_lload_n hx hb dX2_fit_36 rfl (lv_at hl 1 rfl) ?_
    refine lv_l2i hx hb dX2_fit_37 rfl ?_
    refine lv_topi (fun x3 e3 => ?_)
    refine lv_i2c hx hb dX2_fit_38 rfl ?_
    refine lv_topi (fun x4 e4 => ?_)
    refine lv_i2l hx hb dX2_fit_39 rfl ?_
    refine lv_topl (fun x5 e5 => ?_)
    subst e5
    subst e4
    subst e3
    subst e1
    unfold fitX
    try rw [if_pos h2]
    exact tw_lret S hr hlocks hI dX2_fit_40
  · have n2_0 : ¬ x1 = 0 := by rw [h2]; decide
    have n2_2 : ¬ x1 = 2 := by rw [h2]; decide
    have n2_3 : ¬ x1 = 3 := by rw [h2]; decide
    refine lv_tableIn (off := 37) (tgt := 41) hx hb dX2_fit_4 (by rw [h2]; decide) (by rw [h2]; decide) (by rw [h2]; decide) (by decide) ?_
    refine lv_lload_n hx hb dX2_fit_41 rfl (lv_at hl 1 rfl) ?_
    refine lv_l2i hx hb dX2_fit_42 rfl ?_
    refine lv_topi (fun x6 e6 => ?_)
    refine lv_i2s hx hb dX2_fit_43 rfl ?_
    refine lv_topi (fun x7 e7 => ?_)
    refine lv_i2l hx hb dX2_fit_44 rfl ?_
    refine lv_topl (fun x8 e8 => ?_)
    subst e8
    subst e7
    subst e6
    subst e1
    unfold fitX
    try rw [if_neg n2_0]
    try rw [if_pos h2]
    exact tw_lret S hr hlocks hI dX2_fit_45
  · have n2_0 : ¬ x1 = 0 := by rw [h2]; decide
    have n2_1 : ¬ x1 = 1 := by rw [h2]; decide
    have n2_3 : ¬ x1 = 3 := by rw [h2]; decide
    refine lv_tableIn (off := 54) (tgt := 58) hx hb dX2_fit_4 (by rw [h2]; decide) (by rw [h2]; decide) (by rw [h2]; decide) (by decide) ?_
    refine lv_lload_n hx hb dX2_fit_58 rfl (lv_at hl 1 rfl) ?_
    subst e1
    unfold fitX
    try rw [if_neg n2_0]
    try rw [if_neg n2_1]
    try rw [if_pos h2]
    exact tw_lret S hr hlocks hI dX2_fit_59
  · have n2_0 : ¬ x1 = 0 := by rw [h2]; decide
    have n2_1 : ¬ x1 = 1 := by rw [h2]; decide
    have n2_2 : ¬ x1 = 2 := by rw [h2]; decide
    refine lv_tableIn (off := 42) (tgt := 46) hx hb dX2_fit_4 (by rw [h2]; decide) (by rw [h2]; decide) (by rw [h2]; decide) (by decide) ?_
    refine lv_lload_n hx hb dX2_fit_46 rfl (lv_at hl 1 rfl) ?_
    refine lv_lconst (v := 0) hx hb dX2_fit_47 (by decide) ?_
    refine W.lcmp hx hb dX2_fit_48 ?_
    refine lv_topi (fun x9 e9 => ?_)
    refine lv_if_eq (tgt := 56) hx hb dX2_fit_49 (by decide) (fun c10 => ?_) (fun c10 => ?_)
    · refine lv_lconst (v := 0) hx hb dX2_fit_56 (by decide) ?_
      subst e9
      subst e1
      unfold fitX
      try rw [if_neg n2_0]
      try rw [if_neg n2_1]
      try rw [if_neg n2_2]
      try rw [if_pos h2]
      try rw [if_pos c10]
      exact tw_lret S hr hlocks hI dX2_fit_57
    · refine lv_lconst (v := 1) hx hb dX2_fit_52 (by decide) ?_
      refine lv_goto (tgt := 57) hx hb dX2_fit_53 (by decide) ?_
      subst e9
      subst e1
      unfold fitX
      try rw [if_neg n2_0]
      try rw [if_neg n2_1]
      try rw [if_neg n2_2]
      try rw [if_pos h2]
      try rw [if_neg c10]
      exact tw_lret S hr hlocks hI dX2_fit_57
  · refine lv_tableOut (tgt := 58) hx hb dX2_fit_4 h2 (by decide) ?_
    refine lv_lload_n hx hb dX2_fit_58 rfl (lv_at hl 1 rfl) ?_
    subst e1
    unfold fitX
    try rw [if_neg n2_0]
    try rw [if_neg n2_1]
    try rw [if_neg n2_2]
    try rw [if_neg n2_3]
    exact tw_lret S hr hlocks hI dX2_fit_59

set_option maxHeartbeats 2000000 in
set_option maxRecDepth 100000 in
theorem c_X5_takenForm (l : Launch) (D : tw_G) (ad : Nat → Nat) (b : tw_W) (σ : Sg) (h : Int32) (Q : Nat → Int32) (sz : Nat) (k : Nat) (hn : k < nS σ) (h6 : k < 60) (hN : isNumK (σ.1 1 k) = false) (hO : isOneK (σ.1 1 k) = false) : Met l yX5_takenForm (tw_w yX5_takenForm cX5_takenForm 1 (some .int)) (tw_R 0 0 0) (tw_Pc D ad (wX b σ h Q) sz [.ref (ad (100 + k))]) (tw_Q D ad (wX b (σ) h Q) (tw_A ad (wX b σ h Q) sz) (some (.int (takenX (σ.1 1 k))))) 0 0 (tw_A ad (wX b σ h Q) sz) := by
  refine tw_met (by decide) rfl (by simp [lg_sl, Value.category]) (fun p e s m below meth c ls S hK hr hlocks hnm hsz hI hl => ?_)
  have hx := S.1
  have hb := S.2.1
  have hl : lv_has ls 1 [(0, .ref (ad (100 + k)))] := hl
  refine lv_aload_n hx hb dX5_takenForm_0 rfl (lv_at hl 0 rfl) ?_
  refine f5_23_5 S hK hI (xI_th hn h6 hN hO) rfl (v' := .int (σ.1 1 k)) rfl dX5_takenForm_1 ?_
  refine lv_topi (fun x1 e1 => ?_)
  rcases tsw_4_10 x1 with h2 | h2 | h2 | h2 | h2 | h2 | h2 | ⟨h2, n2_4, n2_5, n2_6, n2_7, n2_8, n2_9, n2_10⟩
  · have n2_5 : ¬ x1 = 5 := by rw [h2]; decide
    have n2_6 : ¬ x1 = 6 := by rw [h2]; decide
    have n2_7 : ¬ x1 = 7 := by rw [h2]; decide
    have n2_8 : ¬ x1 = 8 := by rw [h2]; decide
    have n2_9 : ¬ x1 = 9 := by rw [h2]; decide
    have n2_10 : ¬ x1 = 10 := by rw [h2]; decide
    refine lv_tableIn (off := 44) (tgt := 48) hx hb dX5_takenForm_4 (by rw [h2]; decide) (by rw [h2]; decide) (by rw [h2]; decide) (by decide) ?_
    refine lv_iconst (v := 0) hx hb dX5_takenForm_48 (by decide) ?_
    subst e1
    unfold takenX
    try rw [if_pos h2]
    exact tw_iret S hr hlocks hI dX5_takenForm_49
  · have n2_4 : ¬ x1 = 4 := by rw [h2]; decide
    have n2_6 : ¬ x1 = 6 := by rw [h2]; decide
    have n2_7 : ¬ x1 = 7 := by rw [h2]; decide
    have n2_8 : ¬ x1 = 8 := by rw [h2]; decide
    have n2_9 : ¬ x1 = 9 := by rw [h2]; decide
    have n2_10 : ¬ x1 = 10 := by rw [h2]; decide
    refine lv_tableIn (off := 53) (tgt := 57) hx hb dX5_takenForm_4 (by rw [h2]; decide) (by rw [h2]; decide) (by rw [h2]; decide) (by decide) ?_
    refine lv_bipush (v := 8) hx hb dX5_takenForm_57 (by decide) ?_
    subst e1
    unfold takenX
    try rw [if_neg n2_4]
    try rw [if_pos h2]
    exact tw_iret S hr hlocks hI dX5_takenForm_59
  · have n2_4 : ¬ x1 = 4 := by rw [h2]; decide
    have n2_5 : ¬ x1 = 5 := by rw [h2]; decide
    have n2_7 : ¬ x1 = 7 := by rw [h2]; decide
    have n2_8 : ¬ x1 = 8 := by rw [h2]; decide
    have n2_9 : ¬ x1 = 9 := by rw [h2]; decide
    have n2_10 : ¬ x1 = 10 := by rw [h2]; decide
    refine lv_tableIn (off := 53) (tgt := 57) hx hb dX5_takenForm_4 (by rw [h2]; decide) (by rw [h2]; decide) (by rw [h2]; decide) (by decide) ?_
    refine lv_bipush (v := 8) hx hb dX5_takenForm_57 (by decide) ?_
    subst e1
    unfold takenX
    try rw [if_neg n2_4]
    try rw [if_neg n2_5]
    try rw [if_pos h2]
    exact tw_iret S hr hlocks hI dX5_takenForm_59
  · have n2_4 : ¬ x1 = 4 := by rw [h2]; decide
    have n2_5 : ¬ x1 = 5 := by rw [h2]; decide
    have n2_6 : ¬ x1 = 6 := by rw [h2]; decide
    have n2_8 : ¬ x1 = 8 := by rw [h2]; decide
    have n2_9 : ¬ x1 = 9 := by rw [h2]; decide
    have n2_10 : ¬ x1 = 10 := by rw [h2]; decide
    refine lv_tableIn (off := 53) (tgt := 57) hx hb dX5_takenForm_4 (by rw [h2]; decide) (by rw [h2]; decide) (by rw [h2]; decide) (by decide) ?_
    refine lv_bipush (v := 8) hx hb dX5_takenForm_57 (by decide) ?_
    subst e1
    unfold takenX
    try rw [if_neg n2_4]
    try rw [if_neg n2_5]
    try rw [if_neg n2_6]
    try rw [if_pos h2]
    exact tw_iret S hr hlocks hI dX5_takenForm_59
  · have n2_4 : ¬ x1 = 4 := by rw [h2]; decide
    have n2_5 : ¬ x1 = 5 := by rw [h2]; decide
    have n2_6 : ¬ x1 = 6 := by rw [h2]; decide
    have n2_7 : ¬ x1 = 7 := by rw [h2]; decide
    have n2_9 : ¬ x1 = 9 := by rw [h2]; decide
    have n2_10 : ¬ x1 = 10 := by rw [h2]; decide
    refine lv_tableIn (off := 46) (tgt := 50) hx hb dX5_takenForm_4 (by rw [h2]; decide) (by rw [h2]; decide) (by rw [h2]; decide) (by decide) ?_
    refine lv_iconst (v := 5) hx hb dX5_takenForm_50 (by decide) ?_
    subst e1
    unfold takenX
    try rw [if_neg n2_4]
    try rw [if_neg n2_5]
    try rw [if_neg n2_6]
    try rw [if_neg n2_7]
    try rw [if_pos h2]
    exact tw_iret S hr hlocks hI dX5_takenForm_51
  · have n2_4 : ¬ x1 = 4 := by rw [h2]; decide
    have n2_5 : ¬ x1 = 5 := by rw [h2]; decide
    have n2_6 : ¬ x1 = 6 := by rw [h2]; decide
    have n2_7 : ¬ x1 = 7 := by rw [h2]; decide
    have n2_8 : ¬ x1 = 8 := by rw [h2]; decide
    have n2_10 : ¬ x1 = 10 := by rw [h2]; decide
    refine lv_tableIn (off := 48) (tgt := 52) hx hb dX5_takenForm_4 (by rw [h2]; decide) (by rw [h2]; decide) (by rw [h2]; decide) (by decide) ?_
    refine lv_iconst (v := 5) hx hb dX5_takenForm_52 (by decide) ?_
    subst e1
    unfold takenX
    try rw [if_neg n2_4]
    try rw [if_neg n2_5]
    try rw [if_neg n2_6]
    try rw [if_neg n2_7]
    try rw [if_neg n2_8]
    try rw [if_pos h2]
    exact tw_iret S hr hlocks hI dX5_takenForm_53
  · have n2_4 : ¬ x1 = 4 := by rw [h2]; decide
    have n2_5 : ¬ x1 = 5 := by rw [h2]; decide
    have n2_6 : ¬ x1 = 6 := by rw [h2]; decide
    have n2_7 : ¬ x1 = 7 := by rw [h2]; decide
    have n2_8 : ¬ x1 = 8 := by rw [h2]; decide
    have n2_9 : ¬ x1 = 9 := by rw [h2]; decide
    refine lv_tableIn (off := 50) (tgt := 54) hx hb dX5_takenForm_4 (by rw [h2]; decide) (by rw [h2]; decide) (by rw [h2]; decide) (by decide) ?_
    refine lv_bipush (v := 13) hx hb dX5_takenForm_54 (by decide) ?_
    subst e1
    unfold takenX
    try rw [if_neg n2_4]
    try rw [if_neg n2_5]
    try rw [if_neg n2_6]
    try rw [if_neg n2_7]
    try rw [if_neg n2_8]
    try rw [if_neg n2_9]
    try rw [if_pos h2]
    exact tw_iret S hr hlocks hI dX5_takenForm_56
  · refine lv_tableOut (tgt := 57) hx hb dX5_takenForm_4 h2 (by decide) ?_
    refine lv_bipush (v := 8) hx hb dX5_takenForm_57 (by decide) ?_
    subst e1
    unfold takenX
    try rw [if_neg n2_4]
    try rw [if_neg n2_5]
    try rw [if_neg n2_6]
    try rw [if_neg n2_7]
    try rw [if_neg n2_8]
    try rw [if_neg n2_9]
    try rw [if_neg n2_10]
    exact tw_iret S hr hlocks hI dX5_takenForm_59
