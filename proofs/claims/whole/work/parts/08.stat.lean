/-! calls by what comes back; the static methods of both classes: any world -/
section TWD
variable {p : Program} {l : Launch} {e : Env} {R : Room} {s : State} {m : MethodId} {args : Array Value} {below : List Frame} {meth : Method} {c : Code} {H : Heap} {locs : List Loc} {cells slots : Nat} {Q : State → Prop}
variable {pc mc ms : Nat} {ls : Array Slot} {rest st0 : List Value} {D : tw_G} {A : Nat → Prop} {ad : Nat → Nat} {w w' : tw_W} {a : Array Value}
theorem tw_calli {v : Int32} (hr : va_Run p l e R s m args below meth c H locs cells slots mc ms (F0 m pc ls st0) rest (tw_Q D ad w' (tw_A ad w H.size) (some (.int v)) a) (tw_A ad w H.size)) (hI : tw_I D A ad w s.heap H locs)
    (kk : ∀ (H1 : Heap) (locs1 : List Loc), tw_I D A ad w' s.heap H1 locs1 → W p l e R s m args below meth c H1 locs1 (cells + mc) (slots + ms) Q (F0 m (pc + 3) ls (.int v :: rest))) : W p l e R s m args below meth c H locs cells slots Q (F0 m pc ls st0) := tw_call hr hI kk
theorem tw_calll {v : Int64} (hr : va_Run p l e R s m args below meth c H locs cells slots mc ms (F0 m pc ls st0) rest (tw_Q D ad w' (tw_A ad w H.size) (some (.long v)) a) (tw_A ad w H.size)) (hI : tw_I D A ad w s.heap H locs)
    (kk : ∀ (H1 : Heap) (locs1 : List Loc), tw_I D A ad w' s.heap H1 locs1 → W p l e R s m args below meth c H1 locs1 (cells + mc) (slots + ms) Q (F0 m (pc + 3) ls (.long v :: rest))) : W p l e R s m args below meth c H locs cells slots Q (F0 m pc ls st0) := tw_call hr hI kk
theorem tw_callv (hr : va_Run p l e R s m args below meth c H locs cells slots mc ms (F0 m pc ls st0) rest (tw_Q D ad w' (tw_A ad w H.size) none a) (tw_A ad w H.size)) (hI : tw_I D A ad w s.heap H locs)
    (kk : ∀ (H1 : Heap) (locs1 : List Loc), tw_I D A ad w' s.heap H1 locs1 → W p l e R s m args below meth c H1 locs1 (cells + mc) (slots + ms) Q (F0 m (pc + 3) ls rest)) : W p l e R s m args below meth c H locs cells slots Q (F0 m pc ls st0) := tw_call hr hI kk
theorem tw_calla {v : Value} (hr : va_Run p l e R s m args below meth c H locs cells slots mc ms (F0 m pc ls st0) rest (tw_Q D ad w' (tw_A ad w H.size) (some v) a) (tw_A ad w H.size)) (hI : tw_I D A ad w s.heap H locs)
    (kk : ∀ (H1 : Heap) (locs1 : List Loc), tw_I D A ad w' s.heap H1 locs1 → W p l e R s m args below meth c H1 locs1 (cells + mc) (slots + ms) Q (F0 m (pc + 3) ls (v :: rest))) : W p l e R s m args below meth c H locs cells slots Q (F0 m pc ls st0) := tw_call hr hI kk
end TWD
def isFormF (f : Int32) : Int32 := if f < 0 then 0 else if 13 < f then 0 else 1
def isActF (f : Int32) : Int32 := if f < 0 then 0 else if 4 < f then 0 else 1
def isPieceF (k : Int32) : Int32 := if k < 5 then 0 else if 7 < k then 0 else 1
def isInF (v a b : Int32) : Int32 := if v < a then 0 else if b < v then 0 else 1
theorem isInF_b (v a b : Int32) : narrow .boolean (.int (isInF v a b)) = .int (isInF v a b) := by
  unfold isInF
  split
  · rfl
  · split <;> rfl
theorem isPieceF_b (k : Int32) : narrow .boolean (.int (isPieceF k)) = .int (isPieceF k) := by
  unfold isPieceF
  split
  · rfl
  · split <;> rfl

set_option maxHeartbeats 2000000 in
set_option maxRecDepth 100000 in
theorem c_X6_isForm (l : Launch) (D : tw_G) (ad : Nat → Nat) (w : tw_W) (sz : Nat) (f : Int32) : Met l yX6_isForm (tw_w yX6_isForm cX6_isForm 1 (some .boolean)) (tw_R 0 0 0) (tw_Pc D ad w sz [.int f]) (tw_Q D ad w (tw_A ad w sz) (some (.int (isFormF f)))) 0 0 (tw_A ad w sz) := by
  refine tw_met (by decide) rfl (by simp [lg_sl, Value.category]) (fun p e s m below meth c ls S hK hr hlocks hnm hsz hI hl => ?_)
  have hx := S.1
  have hb := S.2.1
  have hl : lv_has ls 1 [(0, .int f)] := hl
  refine lv_iload_n hx hb dX6_isForm_0 rfl (lv_at hl 0 rfl) ?_
  refine lv_if_lt (tgt := 14) hx hb dX6_isForm_1 (by decide) (fun c1 => ?_) (fun c1 => ?_)
  · refine lv_iconst (v := 0) hx hb dX6_isForm_14 (by decide) ?_
    unfold isFormF
    try rw [if_pos c1]
    exact tw_zret S hr (by decide) hlocks hI dX6_isForm_15
  · refine lv_iload_n hx hb dX6_isForm_4 rfl (lv_at hl 0 rfl) ?_
    refine lv_bipush (v := 13) hx hb dX6_isForm_5 (by decide) ?_
    refine lv_icmp_gt (tgt := 14) hx hb dX6_isForm_7 (by decide) (fun c2 => ?_) (fun c2 => ?_)
    · refine lv_iconst (v := 0) hx hb dX6_isForm_14 (by decide) ?_
      unfold isFormF
      try rw [if_neg c1]
      try rw [if_pos c2]
      exact tw_zret S hr (by decide) hlocks hI dX6_isForm_15
    · refine lv_iconst (v := 1) hx hb dX6_isForm_10 (by decide) ?_
      refine lv_goto (tgt := 15) hx hb dX6_isForm_11 (by decide) ?_
      unfold isFormF
      try rw [if_neg c1]
      try rw [if_neg c2]
      exact tw_zret S hr (by decide) hlocks hI dX6_isForm_15

set_option maxHeartbeats 2000000 in
set_option maxRecDepth 100000 in
theorem c_X6_isAct (l : Launch) (D : tw_G) (ad : Nat → Nat) (w : tw_W) (sz : Nat) (f : Int32) : Met l yX6_isAct (tw_w yX6_isAct cX6_isAct 1 (some .boolean)) (tw_R 0 0 0) (tw_Pc D ad w sz [.int f]) (tw_Q D ad w (tw_A ad w sz) (some (.int (isActF f)))) 0 0 (tw_A ad w sz) := by
  refine tw_met (by decide) rfl (by simp [lg_sl, Value.category]) (fun p e s m below meth c ls S hK hr hlocks hnm hsz hI hl => ?_)
  have hx := S.1
  have hb := S.2.1
  have hl : lv_has ls 1 [(0, .int f)] := hl
  refine lv_iload_n hx hb dX6_isAct_0 rfl (lv_at hl 0 rfl) ?_
  refine lv_if_lt (tgt := 13) hx hb dX6_isAct_1 (by decide) (fun c1 => ?_) (fun c1 => ?_)
  · refine lv_iconst (v := 0) hx hb dX6_isAct_13 (by decide) ?_
    unfold isActF
    try rw [if_pos c1]
    exact tw_zret S hr (by decide) hlocks hI dX6_isAct_14
  · refine lv_iload_n hx hb dX6_isAct_4 rfl (lv_at hl 0 rfl) ?_
    refine lv_iconst (v := 4) hx hb dX6_isAct_5 (by decide) ?_
    refine lv_icmp_gt (tgt := 13) hx hb dX6_isAct_6 (by decide) (fun c2 => ?_) (fun c2 => ?_)
    · refine lv_iconst (v := 0) hx hb dX6_isAct_13 (by decide) ?_
      unfold isActF
      try rw [if_neg c1]
      try rw [if_pos c2]
      exact tw_zret S hr (by decide) hlocks hI dX6_isAct_14
    · refine lv_iconst (v := 1) hx hb dX6_isAct_9 (by decide) ?_
      refine lv_goto (tgt := 14) hx hb dX6_isAct_10 (by decide) ?_
      unfold isActF
      try rw [if_neg c1]
      try rw [if_neg c2]
      exact tw_zret S hr (by decide) hlocks hI dX6_isAct_14

set_option maxHeartbeats 2000000 in
set_option maxRecDepth 100000 in
theorem c_X6_isPiece (l : Launch) (D : tw_G) (ad : Nat → Nat) (w : tw_W) (sz : Nat) (k : Int32) : Met l yX6_isPiece (tw_w yX6_isPiece cX6_isPiece 1 (some .boolean)) (tw_R 0 0 0) (tw_Pc D ad w sz [.int k]) (tw_Q D ad w (tw_A ad w sz) (some (.int (isPieceF k)))) 0 0 (tw_A ad w sz) := by
  refine tw_met (by decide) rfl (by simp [lg_sl, Value.category]) (fun p e s m below meth c ls S hK hr hlocks hnm hsz hI hl => ?_)
  have hx := S.1
  have hb := S.2.1
  have hl : lv_has ls 1 [(0, .int k)] := hl
  refine lv_iload_n hx hb dX6_isPiece_0 rfl (lv_at hl 0 rfl) ?_
  refine lv_iconst (v := 5) hx hb dX6_isPiece_1 (by decide) ?_
  refine lv_icmp_lt (tgt := 15) hx hb dX6_isPiece_2 (by decide) (fun c1 => ?_) (fun c1 => ?_)
  · refine lv_iconst (v := 0) hx hb dX6_isPiece_15 (by decide) ?_
    unfold isPieceF
    try rw [if_pos c1]
    exact tw_zret S hr (by decide) hlocks hI dX6_isPiece_16
  · refine lv_iload_n hx hb dX6_isPiece_5 rfl (lv_at hl 0 rfl) ?_
    refine lv_bipush (v := 7) hx hb dX6_isPiece_6 (by decide) ?_
    refine lv_icmp_gt (tgt := 15) hx hb dX6_isPiece_8 (by decide) (fun c2 => ?_) (fun c2 => ?_)
    · refine lv_iconst (v := 0) hx hb dX6_isPiece_15 (by decide) ?_
      unfold isPieceF
      try rw [if_neg c1]
      try rw [if_pos c2]
      exact tw_zret S hr (by decide) hlocks hI dX6_isPiece_16
    · refine lv_iconst (v := 1) hx hb dX6_isPiece_11 (by decide) ?_
      refine lv_goto (tgt := 16) hx hb dX6_isPiece_12 (by decide) ?_
      unfold isPieceF
      try rw [if_neg c1]
      try rw [if_neg c2]
      exact tw_zret S hr (by decide) hlocks hI dX6_isPiece_16

set_option maxHeartbeats 2000000 in
set_option maxRecDepth 100000 in
theorem c_X7_isIn (l : Launch) (D : tw_G) (ad : Nat → Nat) (w : tw_W) (sz : Nat) (v : Int32) (a : Int32) (b : Int32) : Met l yX7_isIn (tw_w yX7_isIn cX7_isIn 3 (some .boolean)) (tw_R 0 0 0) (tw_Pc D ad w sz [.int v, .int a, .int b]) (tw_Q D ad w (tw_A ad w sz) (some (.int (isInF v a b)))) 0 0 (tw_A ad w sz) := by
  refine tw_met (by decide) rfl (by simp [lg_sl, Value.category]) (fun p e s m below meth c ls S hK hr hlocks hnm hsz hI hl => ?_)
  have hx := S.1
  have hb := S.2.1
  have hl : lv_has ls 3 [(0, .int v), (1, .int a), (2, .int b)] := hl
  refine lv_iload_n hx hb dX7_isIn_0 rfl (lv_at hl 0 rfl) ?_
  refine lv_iload_n hx hb dX7_isIn_1 rfl (lv_at hl 1 rfl) ?_
  refine lv_icmp_lt (tgt := 14) hx hb dX7_isIn_2 (by decide) (fun c1 => ?_) (fun c1 => ?_)
  · refine lv_iconst (v := 0) hx hb dX7_isIn_14 (by decide) ?_
    unfold isInF
    try rw [if_pos c1]
    exact tw_zret S hr (by decide) hlocks hI dX7_isIn_15
  · refine lv_iload_n hx hb dX7_isIn_5 rfl (lv_at hl 0 rfl) ?_
    refine lv_iload_n hx hb dX7_isIn_6 rfl (lv_at hl 2 rfl) ?_
    refine lv_icmp_gt (tgt := 14) hx hb dX7_isIn_7 (by decide) (fun c2 => ?_) (fun c2 => ?_)
    · refine lv_iconst (v := 0) hx hb dX7_isIn_14 (by decide) ?_
      unfold isInF
      try rw [if_neg c1]
      try rw [if_pos c2]
      exact tw_zret S hr (by decide) hlocks hI dX7_isIn_15
    · refine lv_iconst (v := 1) hx hb dX7_isIn_10 (by decide) ?_
      refine lv_goto (tgt := 15) hx hb dX7_isIn_11 (by decide) ?_
      unfold isInF
      try rw [if_neg c1]
      try rw [if_neg c2]
      exact tw_zret S hr (by decide) hlocks hI dX7_isIn_15
