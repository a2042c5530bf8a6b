/-! the reference: static methods -/
theorem tsw_5_12 (x : Int32) : x = 5 ∨ x = 6 ∨ x = 7 ∨ x = 8 ∨ x = 9 ∨ x = 10 ∨ x = 11 ∨ x = 12 ∨ ((x.toInt < 5 ∨ 12 < x.toInt) ∧ ¬ x = 5 ∧ ¬ x = 6 ∧ ¬ x = 7 ∧ ¬ x = 8 ∧ ¬ x = 9 ∧ ¬ x = 10 ∧ ¬ x = 11 ∧ ¬ x = 12) := by
  by_cases n5 : x = 5
  · simp [n5]
  by_cases n6 : x = 6
  · simp [n6]
  by_cases n7 : x = 7
  · simp [n7]
  by_cases n8 : x = 8
  · simp [n8]
  by_cases n9 : x = 9
  · simp [n9]
  by_cases n10 : x = 10
  · simp [n10]
  by_cases n11 : x = 11
  · simp [n11]
  by_cases n12 : x = 12
  · simp [n12]
  have m5 := lv_neT n5 (a := 5) (by decide)
  have m6 := lv_neT n6 (a := 6) (by decide)
  have m7 := lv_neT n7 (a := 7) (by decide)
  have m8 := lv_neT n8 (a := 8) (by decide)
  have m9 := lv_neT n9 (a := 9) (by decide)
  have m10 := lv_neT n10 (a := 10) (by decide)
  have m11 := lv_neT n11 (a := 11) (by decide)
  have m12 := lv_neT n12 (a := 12) (by decide)
  exact Or.inr (Or.inr (Or.inr (Or.inr (Or.inr (Or.inr (Or.inr (Or.inr (⟨by omega, n5, n6, n7, n8, n9, n10, n11, n12⟩))))))))
theorem tsw_0_4 (x : Int32) : x = 0 ∨ x = 1 ∨ x = 2 ∨ x = 3 ∨ x = 4 ∨ ((x.toInt < 0 ∨ 4 < x.toInt) ∧ ¬ x = 0 ∧ ¬ x = 1 ∧ ¬ x = 2 ∧ ¬ x = 3 ∧ ¬ x = 4) := by
  by_cases n0 : x = 0
  · simp [n0]
  by_cases n1 : x = 1
  · simp [n1]
  by_cases n2 : x = 2
  · simp [n2]
  by_cases n3 : x = 3
  · simp [n3]
  by_cases n4 : x = 4
  · simp [n4]
  have m0 := lv_neT n0 (a := 0) (by decide)
  have m1 := lv_neT n1 (a := 1) (by decide)
  have m2 := lv_neT n2 (a := 2) (by decide)
  have m3 := lv_neT n3 (a := 3) (by decide)
  have m4 := lv_neT n4 (a := 4) (by decide)
  exact Or.inr (Or.inr (Or.inr (Or.inr (Or.inr (⟨by omega, n0, n1, n2, n3, n4⟩)))))
theorem tsw_0_3 (x : Int32) : x = 0 ∨ x = 1 ∨ x = 2 ∨ x = 3 ∨ ((x.toInt < 0 ∨ 3 < x.toInt) ∧ ¬ x = 0 ∧ ¬ x = 1 ∧ ¬ x = 2 ∧ ¬ x = 3) := by
  by_cases n0 : x = 0
  · simp [n0]
  by_cases n1 : x = 1
  · simp [n1]
  by_cases n2 : x = 2
  · simp [n2]
  by_cases n3 : x = 3
  · simp [n3]
  have m0 := lv_neT n0 (a := 0) (by decide)
  have m1 := lv_neT n1 (a := 1) (by decide)
  have m2 := lv_neT n2 (a := 2) (by decide)
  have m3 := lv_neT n3 (a := 3) (by decide)
  exact Or.inr (Or.inr (Or.inr (Or.inr (⟨by omega, n0, n1, n2, n3⟩))))
theorem tsw_4_10 (x : Int32) : x = 4 ∨ x = 5 ∨ x = 6 ∨ x = 7 ∨ x = 8 ∨ x = 9 ∨ x = 10 ∨ ((x.toInt < 4 ∨ 10 < x.toInt) ∧ ¬ x = 4 ∧ ¬ x = 5 ∧ ¬ x = 6 ∧ ¬ x = 7 ∧ ¬ x = 8 ∧ ¬ x = 9 ∧ ¬ x = 10) := by
  by_cases n4 : x = 4
  · simp [n4]
  by_cases n5 : x = 5
  · simp [n5]
  by_cases n6 : x = 6
  · simp [n6]
  by_cases n7 : x = 7
  · simp [n7]
  by_cases n8 : x = 8
  · simp [n8]
  by_cases n9 : x = 9
  · simp [n9]
  by_cases n10 : x = 10
  · simp [n10]
  have m4 := lv_neT n4 (a := 4) (by decide)
  have m5 := lv_neT n5 (a := 5) (by decide)
  have m6 := lv_neT n6 (a := 6) (by decide)
  have m7 := lv_neT n7 (a := 7) (by decide)
  have m8 := lv_neT n8 (a := 8) (by decide)
  have m9 := lv_neT n9 (a := 9) (by decide)
  have m10 := lv_neT n10 (a := 10) (by decide)
  exact Or.inr (Or.inr (Or.inr (Or.inr (Or.inr (Or.inr (Or.inr (⟨by omega, n4, n5, n6, n7, n8, n9, n10⟩)))))))
theorem tsw_5_13 (x : Int32) : x = 5 ∨ x = 6 ∨ x = 7 ∨ x = 8 ∨ x = 9 ∨ x = 10 ∨ x = 11 ∨ x = 12 ∨ x = 13 ∨ ((x.toInt < 5 ∨ 13 < x.toInt) ∧ ¬ x = 5 ∧ ¬ x = 6 ∧ ¬ x = 7 ∧ ¬ x = 8 ∧ ¬ x = 9 ∧ ¬ x = 10 ∧ ¬ x = 11 ∧ ¬ x = 12 ∧ ¬ x = 13) := by
  by_cases n5 : x = 5
  · simp [n5]
  by_cases n6 : x = 6
  · simp [n6]
  by_cases n7 : x = 7
  · simp [n7]
  by_cases n8 : x = 8
  · simp [n8]
  by_cases n9 : x = 9
  · simp [n9]
  by_cases n10 : x = 10
  · simp [n10]
  by_cases n11 : x = 11
  · simp [n11]
  by_cases n12 : x = 12
  · simp [n12]
  by_cases n13 : x = 13
  · simp [n13]
  have m5 := lv_neT n5 (a := 5) (by decide)
  have m6 := lv_neT n6 (a := 6) (by decide)
  have m7 := lv_neT n7 (a := 7) (by decide)
  have m8 := lv_neT n8 (a := 8) (by decide)
  have m9 := lv_neT n9 (a := 9) (by decide)
  have m10 := lv_neT n10 (a := 10) (by decide)
  have m11 := lv_neT n11 (a := 11) (by decide)
  have m12 := lv_neT n12 (a := 12) (by decide)
  have m13 := lv_neT n13 (a := 13) (by decide)
  exact Or.inr (Or.inr (Or.inr (Or.inr (Or.inr (Or.inr (Or.inr (Or.inr (Or.inr (⟨by omega, n5, n6, n7, n8, n9, n10, n11, n12, n13⟩)))))))))
def isNumF (k : Int32) : Int32 := if 3 < k then 0 else 1
def isThF (k : Int32) : Int32 := if k = 4 then 1 else if k < 8 then 0 else 1
def isOneF (k : Int32) : Int32 := isInF k 5 7
def isRoomF (k : Int32) : Int32 := isInF k 0 7
def goesF (k f : Int32) : Int32 := if k = f then 1 else if k = 5 then (if f = 13 then 1 else 0) else if k = 6 then (if f = 5 then 1 else if f = 13 then 1 else 0) else if k = 7 then (if f = 13 then 1 else 0) else if k = 8 then (if f = 10 then 1 else 0) else if k = 9 then (if f = 8 then 1 else if f = 10 then 1 else 0) else if k = 10 then 0 else if k = 11 then 0 else if k = 12 then (if f = 11 then 1 else 0) else 0
def keptF (k : Int32) (v : Int64) : Int64 := if k = 0 then v &&& 65535 else if k = 1 then v.toInt32.toInt16.toInt32.toInt64 else if k = 3 then (if lg_cmp v 0 = 0 then 0 else 1) else v
def wantedF (k : Int32) : Int32 := if k = 4 then 0 else if k = 10 then 13 else if 10 ≤ k then 8 else 5
def holdsF (k : Int32) : Int32 := if k = 9 then 6 else if k = 12 then 9 else wantedF k
theorem isNumF_b (k : Int32) : narrow .boolean (.int (isNumF k)) = .int (isNumF k) := by
  unfold isNumF; split <;> rfl
theorem isThF_b (k : Int32) : narrow .boolean (.int (isThF k)) = .int (isThF k) := by
  unfold isThF; repeat' split
  all_goals rfl
theorem goesF_b (k f : Int32) : narrow .boolean (.int (goesF k f)) = .int (goesF k f) := by
  unfold goesF; repeat' split
  all_goals rfl

set_option maxHeartbeats 2000000 in
set_option maxRecDepth 100000 in
theorem c_X7_isOfNumbers (l : Launch) (D : tw_G) (ad : Nat → Nat) (w : tw_W) (sz : Nat) (k : Int32) : Met l yX7_isOfNumbers (tw_w yX7_isOfNumbers cX7_isOfNumbers 1 (some .boolean)) (tw_R 0 0 0) (tw_Pc D ad w sz [.int k]) (tw_Q D ad w (tw_A ad w sz) (some (.int (isNumF k)))) 0 0 (tw_A ad w sz) := by
  refine tw_met (by decide) rfl (by simp [lg_sl, Value.category]) (fun p e s m below meth c ls S hK hr hlocks hnm hsz hI hl => ?_)
  have hx := S.1
  have hb := S.2.1
  have hl : lv_has ls 1 [(0, .int k)] := hl
  refine lv_iload_n hx hb dX7_isOfNumbers_0 rfl (lv_at hl 0 rfl) ?_
  refine lv_iconst (v := 3) hx hb dX7_isOfNumbers_1 (by decide) ?_
  refine lv_icmp_gt (tgt := 9) hx hb dX7_isOfNumbers_2 (by decide) (fun c1 => ?_) (fun c1 => ?_)
  · refine lv_iconst (v := 0) hx hb dX7_isOfNumbers_9 (by decide) ?_
    unfold isNumF
    try rw [if_pos c1]
    exact tw_zret S hr (by decide) hlocks hI dX7_isOfNumbers_10
  · refine lv_iconst (v := 1) hx hb dX7_isOfNumbers_5 (by decide) ?_
    refine lv_goto (tgt := 10) hx hb dX7_isOfNumbers_6 (by decide) ?_
    unfold isNumF
    try rw [if_neg c1]
    exact tw_zret S hr (by decide) hlocks hI dX7_isOfNumbers_10

set_option maxHeartbeats 2000000 in
set_option maxRecDepth 100000 in
theorem c_X7_isOfThings (l : Launch) (D : tw_G) (ad : Nat → Nat) (w : tw_W) (sz : Nat) (k : Int32) : Met l yX7_isOfThings (tw_w yX7_isOfThings cX7_isOfThings 1 (some .boolean)) (tw_R 0 0 0) (tw_Pc D ad w sz [.int k]) (tw_Q D ad w (tw_A ad w sz) (some (.int (isThF k)))) 0 0 (tw_A ad w sz) := by
  refine tw_met (by decide) rfl (by simp [lg_sl, Value.category]) (fun p e s m below meth c ls S hK hr hlocks hnm hsz hI hl => ?_)
  have hx := S.1
  have hb := S.2.1
  have hl : lv_has ls 1 [(0, .int k)] := hl
  refine lv_iload_n hx hb dX7_isOfThings_0 rfl (lv_at hl 0 rfl) ?_
  refine lv_iconst (v := 4) hx hb dX7_isOfThings_1 (by decide) ?_
  refine lv_icmp_eq (tgt := 11) hx hb dX7_isOfThings_2 (by decide) (fun c1 => ?_) (fun c1 => ?_)
  · refine lv_iconst (v := 1) hx hb dX7_isOfThings_11 (by decide) ?_
    refine lv_goto (tgt := 16) hx hb dX7_isOfThings_12 (by decide) ?_
    unfold isThF
    try rw [if_pos c1]
    exact tw_zret S hr (by decide) hlocks hI dX7_isOfThings_16
  · refine lv_iload_n hx hb dX7_isOfThings_5 rfl (lv_at hl 0 rfl) ?_
    refine lv_bipush (v := 8) hx hb dX7_isOfThings_6 (by decide) ?_
    refine lv_icmp_lt (tgt := 15) hx hb dX7_isOfThings_8 (by decide) (fun c2 => ?_) (fun c2 => ?_)
    · refine lv_iconst (v := 0) hx hb dX7_isOfThings_15 (by decide) ?_
      unfold isThF
      try rw [if_neg c1]
      try rw [if_pos c2]
      exact tw_zret S hr (by decide) hlocks hI dX7_isOfThings_16
    · refine lv_iconst (v := 1) hx hb dX7_isOfThings_11 (by decide) ?_
      refine lv_goto (tgt := 16) hx hb dX7_isOfThings_12 (by decide) ?_
      unfold isThF
      try rw [if_neg c1]
      try rw [if_neg c2]
      exact tw_zret S hr (by decide) hlocks hI dX7_isOfThings_16

set_option maxHeartbeats 2000000 in
set_option maxRecDepth 100000 in
theorem c_X7_isOne (l : Launch) (D : tw_G) (ad : Nat → Nat) (w : tw_W) (sz : Nat) (k : Int32) : Met l yX7_isOne (tw_w yX7_isOne cX7_isOne 1 (some .boolean)) (tw_R 1 0 0) (tw_Pc D ad w sz [.int k]) (tw_Q D ad w (tw_A ad w sz) (some (.int (isOneF k)))) 0 0 (tw_A ad w sz) := by
  refine tw_met (by decide) rfl (by simp [lg_sl, Value.category]) (fun p e s m below meth c ls S hK hr hlocks hnm hsz hI hl => ?_)
  have hx := S.1
  have hb := S.2.1
  have hl : lv_has ls 1 [(0, .int k)] := hl
  refine lv_iload_n hx hb dX7_isOne_0 rfl (lv_at hl 0 rfl) ?_
  refine lv_iconst (v := 5) hx hb dX7_isOne_1 (by decide) ?_
  refine lv_bipush (v := 7) hx hb dX7_isOne_2 (by decide) ?_
  refine tw_calli (tw_rS (As := [.int k, .int 5, .int 7]) (rest := []) S hK hI kX7_73 (c_X7_isIn l D ad _ _ _ _ _) ⟨Nat.le_of_ble_eq_true rfl, Nat.le_of_ble_eq_true rfl⟩ ⟨Nat.le_of_ble_eq_true rfl, Nat.le_of_ble_eq_true rfl⟩ rfl hl.1 rfl (Nat.le_of_ble_eq_true rfl) dX7_isOne_4) hI (fun H locs hI => ?_)
  refine lv_topi (fun x1 e1 => ?_)
  subst e1
  unfold isOneF
  exact tw_zret S hr (isInF_b _ _ _) hlocks hI dX7_isOne_7

set_option maxHeartbeats 2000000 in
set_option maxRecDepth 100000 in
theorem c_X7_isRoom (l : Launch) (D : tw_G) (ad : Nat → Nat) (w : tw_W) (sz : Nat) (k : Int32) : Met l yX7_isRoom (tw_w yX7_isRoom cX7_isRoom 1 (some .boolean)) (tw_R 1 0 0) (tw_Pc D ad w sz [.int k]) (tw_Q D ad w (tw_A ad w sz) (some (.int (isRoomF k)))) 0 0 (tw_A ad w sz) := by
  refine tw_met (by decide) rfl (by simp [lg_sl, Value.category]) (fun p e s m below meth c ls S hK hr hlocks hnm hsz hI hl => ?_)
  have hx := S.1
  have hb := S.2.1
  have hl : lv_has ls 1 [(0, .int k)] := hl
  refine lv_iload_n hx hb dX7_isRoom_0 rfl (lv_at hl 0 rfl) ?_
  refine lv_iconst (v := 0) hx hb dX7_isRoom_1 (by decide) ?_
  refine lv_bipush (v := 7) hx hb dX7_isRoom_2 (by decide) ?_
  refine tw_calli (tw_rS (As := [.int k, .int 0, .int 7]) (rest := []) S hK hI kX7_73 (c_X7_isIn l D ad _ _ _ _ _) ⟨Nat.le_of_ble_eq_true rfl, Nat.le_of_ble_eq_true rfl⟩ ⟨Nat.le_of_ble_eq_true rfl, Nat.le_of_ble_eq_true rfl⟩ rfl hl.1 rfl (Nat.le_of_ble_eq_true rfl) dX7_isRoom_4) hI (fun H locs hI => ?_)
  refine lv_topi (fun x1 e1 => ?_)
  subst e1
  unfold isRoomF
  exact tw_zret S hr (isInF_b _ _ _) hlocks hI dX7_isRoom_7

set_option maxHeartbeats 2000000 in
set_option maxRecDepth 100000 in
theorem c_X7_goes (l : Launch) (D : tw_G) (ad : Nat → Nat) (w : tw_W) (sz : Nat) (k : Int32) (f : Int32) : Met l yX7_goes (tw_w yX7_goes cX7_goes 2 (some .boolean)) (tw_R 0 0 0) (tw_Pc D ad w sz [.int k, .int f]) (tw_Q D ad w (tw_A ad w sz) (some (.int (goesF k f)))) 0 0 (tw_A ad w sz) := by
  refine tw_met (by decide) rfl (by simp [lg_sl, Value.category]) (fun p e s m below meth c ls S hK hr hlocks hnm hsz hI hl => ?_)
  have hx := S.1
  have hb := S.2.1
  have hl : lv_has ls 2 [(0, .int k), (1, .int f)] := hl
  refine lv_iload_n hx hb dX7_goes_0 rfl (lv_at hl 0 rfl) ?_
  refine lv_iload_n hx hb dX7_goes_1 rfl (lv_at hl 1 rfl) ?_
  refine lv_icmp_ne (tgt := 7) hx hb dX7_goes_2 (by decide) (fun c1 => ?_) (fun c1 => ?_)
  · refine lv_iload_n hx hb dX7_goes_7 rfl (lv_at hl 0 rfl) ?_
    rcases tsw_5_12 k with h2 | h2 | h2 | h2 | h2 | h2 | h2 | h2 | ⟨h2, n2_5, n2_6, n2_7, n2_8, n2_9, n2_10, n2_11, n2_12⟩
    · have n2_6 : ¬ k = 6 := by rw [h2]; decide
      have n2_7 : ¬ k = 7 := by rw [h2]; decide
      have n2_8 : ¬ k = 8 := by rw [h2]; decide
      have n2_9 : ¬ k = 9 := by rw [h2]; decide
      have n2_10 : ¬ k = 10 := by rw [h2]; decide
      have n2_11 : ¬ k = 11 := by rw [h2]; decide
      have n2_12 : ¬ k = 12 := by rw [h2]; decide
      refine lv_tableIn (off := 48) (tgt := 56) hx hb dX7_goes_8 (by rw [h2]; decide) (by rw [h2]; decide) (by rw [h2]; decide) (by decide) ?_
      refine lv_iload_n hx hb dX7_goes_56 rfl (lv_at hl 1 rfl) ?_
      refine lv_bipush (v := 13) hx hb dX7_goes_57 (by decide) ?_
      refine lv_icmp_ne (tgt := 66) hx hb dX7_goes_59 (by decide) (fun c3 => ?_) (fun c3 => ?_)
      · refine lv_iconst (v := 0) hx hb dX7_goes_66 (by decide) ?_
        unfold goesF
        try rw [if_neg c1]
        try rw [if_pos h2]
        try rw [if_neg c3]
        exact tw_zret S hr (by decide) hlocks hI dX7_goes_67
      · refine lv_iconst (v := 1) hx hb dX7_goes_62 (by decide) ?_
        refine lv_goto (tgt := 67) hx hb dX7_goes_63 (by decide) ?_
        unfold goesF
        try rw [if_neg c1]
        try rw [if_pos h2]
        try rw [if_pos c3]
        exact tw_zret S hr (by decide) hlocks hI dX7_goes_67
    · have n2_5 : ¬ k = 5 := by rw [h2]; decide
      have n2_7 : ¬ k = 7 := by rw [h2]; decide
      have n2_8 : ¬ k = 8 := by rw [h2]; decide
      have n2_9 : ¬ k = 9 := by rw [h2]; decide
      have n2_10 : ¬ k = 10 := by rw [h2]; decide
      have n2_11 : ¬ k = 11 := by rw [h2]; decide
      have n2_12 : ¬ k = 12 := by rw [h2]; decide
      refine lv_tableIn (off := 60) (tgt := 68) hx hb dX7_goes_8 (by rw [h2]; decide) (by rw [h2]; decide) (by rw [h2]; decide) (by decide) ?_
      refine lv_iload_n hx hb dX7_goes_68 rfl (lv_at hl 1 rfl) ?_
      refine lv_iconst (v := 5) hx hb dX7_goes_69 (by decide) ?_
      refine lv_icmp_eq (tgt := 79) hx hb dX7_goes_70 (by decide) (fun c4 => ?_) (fun c4 => ?_)
      · refine lv_iconst (v := 1) hx hb dX7_goes_79 (by decide) ?_
        refine lv_goto (tgt := 84) hx hb dX7_goes_80 (by decide) ?_
        unfold goesF
        try rw [if_neg c1]
        try rw [if_neg n2_5]
        try rw [if_pos h2]
        try rw [if_pos c4]
        exact tw_zret S hr (by decide) hlocks hI dX7_goes_84
      · refine lv_iload_n hx hb dX7_goes_73 rfl (lv_at hl 1 rfl) ?_
        refine lv_bipush (v := 13) hx hb dX7_goes_74 (by decide) ?_
        refine lv_icmp_ne (tgt := 83) hx hb dX7_goes_76 (by decide) (fun c5 => ?_) (fun c5 => ?_)
        · refine lv_iconst (v := 0) hx hb dX7_goes_83 (by decide) ?_
          unfold goesF
          try rw [if_neg c1]
          try rw [if_neg n2_5]
          try rw [if_pos h2]
          try rw [if_neg c4]
          try rw [if_neg c5]
          exact tw_zret S hr (by decide) hlocks hI dX7_goes_84
        · refine lv_iconst (v := 1) hx hb dX7_goes_79 (by decide) ?_
          refine lv_goto (tgt := 84) hx hb dX7_goes_80 (by decide) ?_
          unfold goesF
          try rw [if_neg c1]
          try rw [if_neg n2_5]
          try rw [if_pos h2]
          try rw [if_neg c4]
          try rw [if_pos c5]
          exact tw_zret S hr (by decide) hlocks hI dX7_goes_84
    · have n2_5 : ¬ k = 5 := by rw [h2]; decide
      have n2_6 : ¬ k = 6 := by rw [h2]; decide
      have n2_8 : ¬ k = 8 := by rw [h2]; decide
      have n2_9 : ¬ k = 9 := by rw [h2]; decide
      have n2_10 : ¬ k = 10 := by rw [h2]; decide
      have n2_11 : ¬ k = 11 := by rw [h2]; decide
      have n2_12 : ¬ k = 12 := by rw [h2]; decide
      refine lv_tableIn (off := 48) (tgt := 56) hx hb dX7_goes_8 (by rw [h2]; decide) (by rw [h2]; decide) (by rw [h2]; decide) (by decide) ?_
      refine lv_iload_n hx hb dX7_goes_56 rfl (lv_at hl 1 rfl) ?_
      refine lv_bipush (v := 13) hx hb dX7_goes_57 (by decide) ?_
      refine lv_icmp_ne (tgt := 66) hx hb dX7_goes_59 (by decide) (fun c6 => ?_) (fun c6 => ?_)
      · refine lv_iconst (v := 0) hx hb dX7_goes_66 (by decide) ?_
        unfold goesF
        try rw [if_neg c1]
        try rw [if_neg n2_5]
        try rw [if_neg n2_6]
        try rw [if_pos h2]
        try rw [if_neg c6]
        exact tw_zret S hr (by decide) hlocks hI dX7_goes_67
      · refine lv_iconst (v := 1) hx hb dX7_goes_62 (by decide) ?_
        refine lv_goto (tgt := 67) hx hb dX7_goes_63 (by decide) ?_
        unfold goesF
        try rw [if_neg c1]
        try rw [if_neg n2_5]
        try rw [if_neg n2_6]
        try rw [if_pos h2]
        try rw [if_pos c6]
        exact tw_zret S hr (by decide) hlocks hI dX7_goes_67
    · have n2_5 : ¬ k = 5 := by rw [h2]; decide
      have n2_6 : ¬ k = 6 := by rw [h2]; decide
      have n2_7 : ¬ k = 7 := by rw [h2]; decide
      have n2_9 : ¬ k = 9 := by rw [h2]; decide
      have n2_10 : ¬ k = 10 := by rw [h2]; decide
      have n2_11 : ¬ k = 11 := by rw [h2]; decide
      have n2_12 : ¬ k = 12 := by rw [h2]; decide
      refine lv_tableIn (off := 77) (tgt := 85) hx hb dX7_goes_8 (by rw [h2]; decide) (by rw [h2]; decide) (by rw [h2]; decide) (by decide) ?_
      refine lv_iload_n hx hb dX7_goes_85 rfl (lv_at hl 1 rfl) ?_
      refine lv_bipush (v := 10) hx hb dX7_goes_86 (by decide) ?_
      refine lv_icmp_ne (tgt := 95) hx hb dX7_goes_88 (by decide) (fun c7 => ?_) (fun c7 => ?_)
      · refine lv_iconst (v := 0) hx hb dX7_goes_95 (by decide) ?_
        unfold goesF
        try rw [if_neg c1]
        try rw [if_neg n2_5]
        try rw [if_neg n2_6]
        try rw [if_neg n2_7]
        try rw [if_pos h2]
        try rw [if_neg c7]
        exact tw_zret S hr (by decide) hlocks hI dX7_goes_96
      · refine lv_iconst (v := 1) hx hb dX7_goes_91 (by decide) ?_
        refine lv_goto (tgt := 96) hx hb dX7_goes_92 (by decide) ?_
        unfold goesF
        try rw [if_neg c1]
        try rw [if_neg n2_5]
        try rw [if_neg n2_6]
        try rw [if_neg n2_7]
        try rw [if_pos h2]
        try rw [if_pos c7]
        exact tw_zret S hr (by decide) hlocks hI dX7_goes_96
    · have n2_5 : ¬ k = 5 := by rw [h2]; decide
      have n2_6 : ¬ k = 6 := by rw [h2]; decide
      have n2_7 : ¬ k = 7 := by rw [h2]; decide
      have n2_8 : ¬ k = 8 := by rw [h2]; decide
      have n2_10 : ¬ k = 10 := by rw [h2]; decide
      have n2_11 : ¬ k = 11 := by rw [h2]; decide
      have n2_12 : ¬ k = 12 := by rw [h2]; decide
      refine lv_tableIn (off := 89) (tgt := 97) hx hb dX7_goes_8 (by rw [h2]; decide) (by rw [h2]; decide) (by rw [h2]; decide) (by decide) ?_
      refine lv_iload_n hx hb dX7_goes_97 rfl (lv_at hl 1 rfl) ?_
      refine lv_bipush (v := 8) hx hb dX7_goes_98 (by decide) ?_
      refine lv_icmp_eq (tgt := 109) hx hb dX7_goes_100 (by decide) (fun c8 => ?_) (fun c8 => ?_)
      · refine lv_iconst (v := 1) hx hb dX7_goes_109 (by decide) ?_
        refine lv_goto (tgt := 114) hx hb dX7_goes_110 (by decide) ?_
        unfold goesF
        try rw [if_neg c1]
        try rw [if_neg n2_5]
        try rw [if_neg n2_6]
        try rw [if_neg n2_7]
        try rw [if_neg n2_8]
        try rw [if_pos h2]
        try rw [if_pos c8]
        exact tw_zret S hr (by decide) hlocks hI dX7_goes_114
      · refine lv_iload_n hx hb dX7_goes_103 rfl (lv_at hl 1 rfl) ?_
        refine lv_bipush (v := 10) hx hb dX7_goes_104 (by decide) ?_
        refine lv_icmp_ne (tgt := 113) hx hb dX7_goes_106 (by decide) (fun c9 => ?_) (fun c9 => ?_)
        · refine lv_iconst (v := 0) hx hb dX7_goes_113 (by decide) ?_
          unfold goesF
          try rw [if_neg c1]
          try rw [if_neg n2_5]
          try rw [if_neg n2_6]
          try rw [if_neg n2_7]
          try rw [if_neg n2_8]
          try rw [if_pos h2]
          try rw [if_neg c8]
          try rw [if_neg c9]
          exact tw_zret S hr (by decide) hlocks hI dX7_goes_114
        · refine lv_iconst (v := 1) hx hb dX7_goes_109 (by decide) ?_
          refine lv_goto (tgt := 114) hx hb dX7_goes_110 (by decide) ?_
          unfold goesF
          try rw [if_neg c1]
          try rw [if_neg n2_5]
          try rw [if_neg n2_6]
          try rw [if_neg n2_7]
          try rw [if_neg n2_8]
          try rw [if_pos h2]
          try rw [if_neg c8]
          try rw [if_pos c9]
          exact tw_zret S hr (by decide) hlocks hI dX7_goes_114
    · have n2_5 : ¬ k = 5 := by rw [h2]; decide
      have n2_6 : ¬ k = 6 := by rw [h2]; decide
      have n2_7 : ¬ k = 7 := by rw [h2]; decide
      have n2_8 : ¬ k = 8 := by rw [h2]; decide
      have n2_9 : ¬ k = 9 := by rw [h2]; decide
      have n2_11 : ¬ k = 11 := by rw [h2]; decide
      have n2_12 : ¬ k = 12 := by rw [h2]; decide
      refine lv_tableIn (off := 119) (tgt := 127) hx hb dX7_goes_8 (by rw [h2]; decide) (by rw [h2]; decide) (by rw [h2]; decide) (by decide) ?_
      refine lv_iconst (v := 0) hx hb dX7_goes_127 (by decide) ?_
      unfold goesF
      try rw [if_neg c1]
      try rw [if_neg n2_5]
      try rw [if_neg n2_6]
      try rw [if_neg n2_7]
      try rw [if_neg n2_8]
      try rw [if_neg n2_9]
      try rw [if_pos h2]
      exact tw_zret S hr (by decide) hlocks hI dX7_goes_128
    · have n2_5 : ¬ k = 5 := by rw [h2]; decide
      have n2_6 : ¬ k = 6 := by rw [h2]; decide
      have n2_7 : ¬ k = 7 := by rw [h2]; decide
      have n2_8 : ¬ k = 8 := by rw [h2]; decide
      have n2_9 : ¬ k = 9 := by rw [h2]; decide
      have n2_10 : ¬ k = 10 := by rw [h2]; decide
      have n2_12 : ¬ k = 12 := by rw [h2]; decide
      refine lv_tableIn (off := 119) (tgt := 127) hx hb dX7_goes_8 (by rw [h2]; decide) (by rw [h2]; decide) (by rw [h2]; decide) (by decide) ?_
      refine lv_iconst (v := 0) hx hb dX7_goes_127 (by decide) ?_
      unfold goesF
      try rw [if_neg c1]
      try rw [if_neg n2_5]
      try rw [if_neg n2_6]
      try rw [if_neg n2_7]
      try rw [if_neg n2_8]
      try rw [if_neg n2_9]
      try rw [if_neg n2_10]
      try rw [if_pos h2]
      exact tw_zret S hr (by decide) hlocks hI dX7_goes_128
    · have n2_5 : ¬ k = 5 := by rw [h2]; decide
      have n2_6 : ¬ k = 6 := by rw [h2]; decide
      have n2_7 : ¬ k = 7 := by rw [h2]; decide
      have n2_8 : ¬ k = 8 := by rw [h2]; decide
      have n2_9 : ¬ k = 9 := by rw [h2]; decide
      have n2_10 : ¬ k = 10 := by rw [h2]; decide
      have n2_11 : ¬ k = 11 := by rw [h2]; decide
      refine lv_tableIn (off := 107) (tgt := 115) hx hb dX7_goes_8 (by rw [h2]; decide) (by rw [h2]; decide) (by rw [h2]; decide) (by decide) ?_
      refine lv_iload_n hx hb dX7_goes_115 rfl (lv_at hl 1 rfl) ?_
      refine lv_bipush (v := 11) hx hb dX7_goes_116 (by decide) ?_
      refine lv_icmp_ne (tgt := 125) hx hb dX7_goes_118 (by decide) (fun c10 => ?_) (fun c10 => ?_)
      · refine lv_iconst (v := 0) hx hb dX7_goes_125 (by decide) ?_
        unfold goesF
        try rw [if_neg c1]
        try rw [if_neg n2_5]
        try rw [if_neg n2_6]
        try rw [if_neg n2_7]
        try rw [if_neg n2_8]
        try rw [if_neg n2_9]
        try rw [if_neg n2_10]
        try rw [if_neg n2_11]
        try rw [if_pos h2]
        try rw [if_neg c10]
        exact tw_zret S hr (by decide) hlocks hI dX7_goes_126
      · refine lv_iconst (v := 1) hx hb dX7_goes_121 (by decide) ?_
        refine lv_goto (tgt := 126) hx hb dX7_goes_122 (by decide) ?_
        unfold goesF
        try rw [if_neg c1]
        try rw [if_neg n2_5]
        try rw [if_neg n2_6]
        try rw [if_neg n2_7]
        try rw [if_neg n2_8]
        try rw [if_neg n2_9]
        try rw [if_neg n2_10]
        try rw [if_neg n2_11]
        try rw [if_pos h2]
        try rw [if_pos c10]
        exact tw_zret S hr (by decide) hlocks hI dX7_goes_126
    · refine lv_tableOut (tgt := 127) hx hb dX7_goes_8 h2 (by decide) ?_
      refine lv_iconst (v := 0) hx hb dX7_goes_127 (by decide) ?_
      unfold goesF
      try rw [if_neg c1]
      try rw [if_neg n2_5]
      try rw [if_neg n2_6]
      try rw [if_neg n2_7]
      try rw [if_neg n2_8]
      try rw [if_neg n2_9]
      try rw [if_neg n2_10]
      try rw [if_neg n2_11]
      try rw [if_neg n2_12]
      exact tw_zret S hr (by decide) hlocks hI dX7_goes_128
  · refine lv_iconst (v := 1) hx hb dX7_goes_5 (by decide) ?_
    unfold goesF
    try rw [if_pos c1]
    exact tw_zret S hr (by decide) hlocks hI dX7_goes_6

set_option maxHeartbeats 2000000 in
set_option maxRecDepth 100000 in
theorem c_X7_kept (l : Launch) (D : tw_G) (ad : Nat → Nat) (w : tw_W) (sz : Nat) (k : Int32) (v : Int64) : Met l yX7_kept (tw_w yX7_kept cX7_kept 3 (some .long)) (tw_R 0 0 0) (tw_Pc D ad w sz [.int k, .long v]) (tw_Q D ad w (tw_A ad w sz) (some (.long (keptF k v)))) 0 0 (tw_A ad w sz) := by
  refine tw_met (by decide) rfl (by simp [lg_sl, Value.category]) (fun p e s m below meth c ls S hK hr hlocks hnm hsz hI hl => ?_)
  have hx := S.1
  have hb := S.2.1
  have hl : lv_has ls 3 [(0, .int k), (1, .long v)] := hl
  refine lv_iload_n hx hb dX7_kept_0 rfl (lv_at hl 0 rfl) ?_
  refine lv_if_ne (tgt := 12) hx hb dX7_kept_1 (by decide) (fun c1 => ?_) (fun c1 => ?_)
  · refine lv_iload_n hx hb dX7_kept_12 rfl (lv_at hl 0 rfl) ?_
    refine lv_iconst (v := 1) hx hb dX7_kept_13 (by decide) ?_
    refine lv_icmp_ne (tgt := 24) hx hb dX7_kept_14 (by decide) (fun c2 => ?_) (fun c2 => ?_)
    · refine lv_iload_n hx hb dX7_kept_24 rfl (lv_at hl 0 rfl) ?_
      refine lv_iconst (v := 3) hx hb dX7_kept_25 (by decide) ?_
      refine lv_icmp_ne (tgt := 43) hx hb dX7_kept_26 (by decide) (fun c3 => ?_) (fun c3 => ?_)
      · refine lv_lload_n hx hb dX7_kept_43 rfl (lv_at hl 1 rfl) ?_
        unfold keptF
        try rw [if_neg c1]
        try rw [if_neg c2]
        try rw [if_neg c3]
        exact tw_lret S hr hlocks hI dX7_kept_44
      · refine lv_lload_n hx hb dX7_kept_29 rfl (lv_at hl 1 rfl) ?_
        refine lv_lconst (v := 0) hx hb dX7_kept_30 (by decide) ?_
        refine W.lcmp hx hb dX7_kept_31 ?_
        refine lv_topi (fun x4 e4 => ?_)
        refine lv_if_eq (tgt := 39) hx hb dX7_kept_32 (by decide) (fun c5 => ?_) (fun c5 => ?_)
        · refine lv_lconst (v := 0) hx hb dX7_kept_39 (by decide) ?_
          refine lv_goto (tgt := 44) hx hb dX7_kept_40 (by decide) ?_
          subst e4
          unfold keptF
          try rw [if_neg c1]
          try rw [if_neg c2]
          try rw [if_pos c3]
          try rw [if_pos c5]
          exact tw_lret S hr hlocks hI dX7_kept_44
        · refine lv_lconst (v := 1) hx hb dX7_kept_35 (by decide) ?_
          refine lv_goto (tgt := 44) hx hb dX7_kept_36 (by decide) ?_
          subst e4
          unfold keptF
          try rw [if_neg c1]
          try rw [if_neg c2]
          try rw [if_pos c3]
          try rw [if_neg c5]
          exact tw_lret S hr hlocks hI dX7_kept_44
    · refine lv_lload_n hx hb dX7_kept_17 rfl (lv_at hl 1 rfl) ?_
      refine lv_l2i hx hb dX7_kept_18 rfl ?_
      refine lv_topi (fun x6 e6 => ?_)
      refine lv_i2s hx hb dX7_kept_19 rfl ?_
      refine lv_topi (fun x7 e7 => ?_)
      refine lv_i2l hx hb dX7_kept_20 rfl ?_
      refine lv_topl (fun x8 e8 => ?_)
      refine lv_goto (tgt := 44) hx hb dX7_kept_21 (by decide) ?_
      subst e8
      subst e7
      subst e6
      unfold keptF
      try rw [if_neg c1]
      try rw [if_pos c2]
      exact tw_lret S hr hlocks hI dX7_kept_44
  · refine lv_lload_n hx hb dX7_kept_4 rfl (lv_at hl 1 rfl) ?_
    refine lv_ldc2 (own := RX7) (v := 65535) hx hb S.2.2.2.1 (S.2.2.2.2 _ (tw_mem (by decide +kernel) rfl)) dX7_kept_5 ?_
    refine lv_land hx hb dX7_kept_8 ?_
    refine lv_topl (fun x9 e9 => ?_)
    refine lv_goto (tgt := 44) hx hb dX7_kept_9 (by decide) ?_
    subst e9
    unfold keptF
    try rw [if_pos c1]
    exact tw_lret S hr hlocks hI dX7_kept_44

set_option maxHeartbeats 2000000 in
set_option maxRecDepth 100000 in
theorem c_X7_wanted (l : Launch) (D : tw_G) (ad : Nat → Nat) (w : tw_W) (sz : Nat) (k : Int32) : Met l yX7_wanted (tw_w yX7_wanted cX7_wanted 1 (some .int)) (tw_R 0 0 0) (tw_Pc D ad w sz [.int k]) (tw_Q D ad w (tw_A ad w sz) (some (.int (wantedF k)))) 0 0 (tw_A ad w sz) := by
  refine tw_met (by decide) rfl (by simp [lg_sl, Value.category]) (fun p e s m below meth c ls S hK hr hlocks hnm hsz hI hl => ?_)
  have hx := S.1
  have hb := S.2.1
  have hl : lv_has ls 1 [(0, .int k)] := hl
  refine lv_iload_n hx hb dX7_wanted_0 rfl (lv_at hl 0 rfl) ?_
  refine lv_iconst (v := 4) hx hb dX7_wanted_1 (by decide) ?_
  refine lv_icmp_ne (tgt := 9) hx hb dX7_wanted_2 (by decide) (fun c1 => ?_) (fun c1 => ?_)
  · refine lv_iload_n hx hb dX7_wanted_9 rfl (lv_at hl 0 rfl) ?_
    refine lv_bipush (v := 10) hx hb dX7_wanted_10 (by decide) ?_
    refine lv_icmp_ne (tgt := 20) hx hb dX7_wanted_12 (by decide) (fun c2 => ?_) (fun c2 => ?_)
    · refine lv_iload_n hx hb dX7_wanted_20 rfl (lv_at hl 0 rfl) ?_
      refine lv_bipush (v := 10) hx hb dX7_wanted_21 (by decide) ?_
      refine lv_icmp_ge (tgt := 30) hx hb dX7_wanted_23 (by decide) (fun c3 => ?_) (fun c3 => ?_)
      · refine lv_bipush (v := 8) hx hb dX7_wanted_30 (by decide) ?_
        unfold wantedF
        try rw [if_neg c1]
        try rw [if_neg c2]
        try rw [if_pos c3]
        exact tw_iret S hr hlocks hI dX7_wanted_32
      · refine lv_iconst (v := 5) hx hb dX7_wanted_26 (by decide) ?_
        refine lv_goto (tgt := 32) hx hb dX7_wanted_27 (by decide) ?_
        unfold wantedF
        try rw [if_neg c1]
        try rw [if_neg c2]
        try rw [if_neg c3]
        exact tw_iret S hr hlocks hI dX7_wanted_32
    · refine lv_bipush (v := 13) hx hb dX7_wanted_15 (by decide) ?_
      refine lv_goto (tgt := 32) hx hb dX7_wanted_17 (by decide) ?_
      unfold wantedF
      try rw [if_neg c1]
      try rw [if_pos c2]
      exact tw_iret S hr hlocks hI dX7_wanted_32
  · refine lv_iconst (v := 0) hx hb dX7_wanted_5 (by decide) ?_
    refine lv_goto (tgt := 32) hx hb dX7_wanted_6 (by decide) ?_
    unfold wantedF
    try rw [if_pos c1]
    exact tw_iret S hr hlocks hI dX7_wanted_32

set_option maxHeartbeats 2000000 in
set_option maxRecDepth 100000 in
theorem c_X7_holds (l : Launch) (D : tw_G) (ad : Nat → Nat) (w : tw_W) (sz : Nat) (k : Int32) : Met l yX7_holds (tw_w yX7_holds cX7_holds 1 (some .int)) (tw_R 1 0 0) (tw_Pc D ad w sz [.int k]) (tw_Q D ad w (tw_A ad w sz) (some (.int (holdsF k)))) 0 0 (tw_A ad w sz) := by
  refine tw_met (by decide) rfl (by simp [lg_sl, Value.category]) (fun p e s m below meth c ls S hK hr hlocks hnm hsz hI hl => ?_)
  have hx := S.1
  have hb := S.2.1
  have hl : lv_has ls 1 [(0, .int k)] := hl
  refine lv_iload_n hx hb dX7_holds_0 rfl (lv_at hl 0 rfl) ?_
  refine lv_bipush (v := 9) hx hb dX7_holds_1 (by decide) ?_
  refine lv_icmp_ne (tgt := 11) hx hb dX7_holds_3 (by decide) (fun c1 => ?_) (fun c1 => ?_)
  · refine lv_iload_n hx hb dX7_holds_11 rfl (lv_at hl 0 rfl) ?_
    refine lv_bipush (v := 12) hx hb dX7_holds_12 (by decide) ?_
    refine lv_icmp_ne (tgt := 22) hx hb dX7_holds_14 (by decide) (fun c2 => ?_) (fun c2 => ?_)
    · refine lv_iload_n hx hb dX7_holds_22 rfl (lv_at hl 0 rfl) ?_
      refine tw_calli (tw_rS (As := [.int k]) (rest := []) S hK hI kX7_121 (c_X7_wanted l D ad _ _ _) ⟨Nat.le_of_ble_eq_true rfl, Nat.le_of_ble_eq_true rfl⟩ ⟨Nat.le_of_ble_eq_true rfl, Nat.le_of_ble_eq_true rfl⟩ rfl hl.1 rfl (Nat.le_of_ble_eq_true rfl) dX7_holds_23) hI (fun H locs hI => ?_)
      refine lv_topi (fun x3 e3 => ?_)
      subst e3
      unfold holdsF
      try rw [if_neg c1]
      try rw [if_neg c2]
      exact tw_iret S hr hlocks hI dX7_holds_26
    · refine lv_bipush (v := 9) hx hb dX7_holds_17 (by decide) ?_
      refine lv_goto (tgt := 26) hx hb dX7_holds_19 (by decide) ?_
      unfold holdsF
      try rw [if_neg c1]
      try rw [if_pos c2]
      exact tw_iret S hr hlocks hI dX7_holds_26
  · refine lv_bipush (v := 6) hx hb dX7_holds_6 (by decide) ?_
    refine lv_goto (tgt := 26) hx hb dX7_holds_8 (by decide) ?_
    unfold holdsF
    try rw [if_pos c1]
    exact tw_iret S hr hlocks hI dX7_holds_26
