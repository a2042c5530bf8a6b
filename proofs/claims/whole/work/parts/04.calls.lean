/-! calls, returns, new cells, instanceof over the tag world -/
def tw_okV (own : String) (idx : Nat) (y : MethodName) (b : ByteArray) (maxL : Nat) (ret : Option FieldType) (n : Nat) : Prop :=
  Cond.code y b maxL ret ∈ tw_ws ∧ Cond.methodLink own idx y ∈ tw_ws ∧ Cond.instanceMethod y ∈ tw_ws ∧ Cond.selects y.cls y y ∈ tw_ws ∧ Cond.initialized y.cls ∈ tw_ws ∧ (y.cls ≠ "java/lang/invoke/MethodHandle" ∧ y.cls ≠ "java/lang/invoke/VarHandle" ∧ (parseMethodDescriptor y.desc).map (fun d => d.parameters.length) = some n)
def tw_okS (own : String) (idx : Nat) (y : MethodName) (b : ByteArray) (maxL : Nat) (ret : Option FieldType) (n : Nat) : Prop :=
  Cond.code y b maxL ret ∈ tw_ws ∧ Cond.methodLink own idx y ∈ tw_ws ∧ Cond.static y ∈ tw_ws ∧ Cond.initialized y.cls ∈ tw_ws ∧ (y.cls ≠ "java/lang/invoke/MethodHandle" ∧ y.cls ≠ "java/lang/invoke/VarHandle" ∧ (parseMethodDescriptor y.desc).map (fun d => d.parameters.length) = some n)
def tw_okI (own : String) (idx : Nat) (y : MethodName) (b : ByteArray) (maxL : Nat) (n : Nat) : Prop :=
  Cond.code y b maxL none ∈ tw_ws ∧ Cond.methodLink own idx y ∈ tw_ws ∧ Cond.instanceMethod y ∈ tw_ws ∧ Cond.initialized y.cls ∈ tw_ws ∧ y.name = "<init>" ∧ (y.cls ≠ "java/lang/invoke/MethodHandle" ∧ y.cls ≠ "java/lang/invoke/VarHandle" ∧ (parseMethodDescriptor y.desc).map (fun d => d.parameters.length) = some n)
def tw_okVN (own : String) (idx : Nat) (y : MethodName) (host : String) (b : ByteArray) (maxL : Nat) (ret : Option FieldType) (n : Nat) : Prop :=
  Cond.code y b maxL ret ∈ tw_ws ∧ Cond.methodLinkNest own idx y host ∈ tw_nw ∧ Cond.instanceMethod y ∈ tw_ws ∧ Cond.selects y.cls y y ∈ tw_ws ∧ Cond.initialized y.cls ∈ tw_ws ∧ (y.cls ≠ "java/lang/invoke/MethodHandle" ∧ y.cls ≠ "java/lang/invoke/VarHandle" ∧ (parseMethodDescriptor y.desc).map (fun d => d.parameters.length) = some n)
def tw_okSN (own : String) (idx : Nat) (y : MethodName) (host : String) (b : ByteArray) (maxL : Nat) (ret : Option FieldType) (n : Nat) : Prop :=
  Cond.code y b maxL ret ∈ tw_ws ∧ Cond.methodLinkNest own idx y host ∈ tw_nw ∧ Cond.static y ∈ tw_ws ∧ Cond.initialized y.cls ∈ tw_ws ∧ (y.cls ≠ "java/lang/invoke/MethodHandle" ∧ y.cls ≠ "java/lang/invoke/VarHandle" ∧ (parseMethodDescriptor y.desc).map (fun d => d.parameters.length) = some n)
def tw_okIN (own : String) (idx : Nat) (y : MethodName) (host : String) (b : ByteArray) (maxL : Nat) (n : Nat) : Prop :=
  Cond.code y b maxL none ∈ tw_ws ∧ Cond.methodLinkNest own idx y host ∈ tw_nw ∧ Cond.instanceMethod y ∈ tw_ws ∧ Cond.initialized y.cls ∈ tw_ws ∧ y.name = "<init>" ∧ (y.cls ≠ "java/lang/invoke/MethodHandle" ∧ y.cls ≠ "java/lang/invoke/VarHandle" ∧ (parseMethodDescriptor y.desc).map (fun d => d.parameters.length) = some n)
/-- a method that the receiver's class C selects: x is named, y is run; the named one is abstract (declares) -/
def tw_okA (own : String) (idx : Nat) (C owner : String) (x y : MethodName) (b : ByteArray) (maxL : Nat) (ret : Option FieldType) (n : Nat) : Prop :=
  Cond.code y b maxL ret ∈ tw_ws ∧ Cond.methodLink own idx x ∈ tw_ws ∧ Cond.sameMethod x.cls owner x.name x.desc ∈ tw_ws ∧ Cond.selects C x y ∈ tw_ws ∧ Cond.instanceMethod y ∈ tw_ws ∧ Cond.initialized y.cls ∈ tw_ws ∧ Cond.declares ⟨owner, x.name, x.desc⟩ ∈ tw_nw ∧ (owner ≠ "java/lang/invoke/MethodHandle" ∧ owner ≠ "java/lang/invoke/VarHandle" ∧ (parseMethodDescriptor x.desc).map (fun d => d.parameters.length) = some n)
def tw_okU (own : String) (idx : Nat) (C owner : String) (x y : MethodName) (b : ByteArray) (maxL : Nat) (ret : Option FieldType) (n : Nat) : Prop :=
  Cond.code y b maxL ret ∈ tw_ws ∧ Cond.methodLink own idx x ∈ tw_ws ∧ Cond.sameMethod x.cls owner x.name x.desc ∈ tw_ws ∧ Cond.selects C x y ∈ tw_ws ∧ Cond.instanceMethod y ∈ tw_ws ∧ Cond.initialized y.cls ∈ tw_ws ∧ y = ⟨owner, x.name, x.desc⟩ ∧ (owner ≠ "java/lang/invoke/MethodHandle" ∧ owner ≠ "java/lang/invoke/VarHandle" ∧ (parseMethodDescriptor x.desc).map (fun d => d.parameters.length) = some n)
theorem tw_goodV {own C : String} {idx : Nat} {y : MethodName} {b : ByteArray} {n : Nat} {r : Option FieldType} (h0 : Cond.code y b n r ∈ tw_ws) (h1 : Cond.methodLink own idx y ∈ tw_ws) (h2 : Cond.instanceMethod y ∈ tw_ws) (h3 : Cond.selects C y y ∈ tw_ws) (h4 : Cond.initialized C ∈ tw_ws) : GoodIn tw_ws (wsV own idx C y (tw_w y b n r)) := by
  intro w hw
  rcases List.mem_append.mp hw with hw | hw
  · simp only [List.mem_cons, List.not_mem_nil, or_false] at hw
    rcases hw with rfl | rfl | rfl | rfl
    · exact tw_good1 h1
    · exact tw_good1 h2
    · exact tw_good1 h3
    · exact tw_good1 h4
  · exact tw_good h0 w hw
theorem tw_goodS {own : String} {idx : Nat} {y : MethodName} {b : ByteArray} {n : Nat} {r : Option FieldType} (h0 : Cond.code y b n r ∈ tw_ws) (h1 : Cond.methodLink own idx y ∈ tw_ws) (h2 : Cond.static y ∈ tw_ws) (h4 : Cond.initialized y.cls ∈ tw_ws) : GoodIn tw_ws (va_wsS own idx y (tw_w y b n r)) := by
  intro w hw
  rcases List.mem_append.mp hw with hw | hw
  · simp only [List.mem_cons, List.not_mem_nil, or_false] at hw
    rcases hw with rfl | rfl | rfl
    · exact tw_good1 h1
    · exact tw_good1 h2
    · exact tw_good1 h4
  · exact tw_good h0 w hw
theorem tw_goodU {own C owner : String} {idx : Nat} {x y : MethodName} {b : ByteArray} {n : Nat} {r : Option FieldType} (h0 : Cond.code y b n r ∈ tw_ws) (h1 : Cond.methodLink own idx x ∈ tw_ws) (h2 : Cond.sameMethod x.cls owner x.name x.desc ∈ tw_ws) (h3 : Cond.selects C x y ∈ tw_ws) (h4 : Cond.instanceMethod y ∈ tw_ws) (h5 : Cond.initialized y.cls ∈ tw_ws) : GoodIn tw_ws (va_wsU own idx C owner x y (tw_w y b n r)) := by
  intro w hw
  rcases List.mem_append.mp hw with hw | hw
  · simp only [List.mem_cons, List.not_mem_nil, or_false] at hw
    rcases hw with rfl | rfl | rfl | rfl | rfl
    · exact tw_good1 h1
    · exact tw_good1 h2
    · exact tw_good1 h3
    · exact tw_good1 h4
    · exact tw_good1 h5
  · exact tw_good h0 w hw
section TWC
variable {p : Program} {l : Launch} {e : Env} {R : Room} {s : State} {m : MethodId} {args : Array Value} {below : List Frame} {meth : Method} {c : Code} {H : Heap} {locs : List Loc} {cells slots : Nat} {Q : State → Prop}
variable {cc : ByteArray} {pc nL : Nat} {ls : Array Slot} {rest st0 : List Value} {D : tw_G} {A : Nat → Prop} {ad : Nat → Nat} {w w' : tw_W} {own : String} {t : Nat}
variable {y x : MethodName} {bytes : ByteArray} {maxL idx n k mc ms : Nat} {ret : Option FieldType} {Qc : Array Value → State → Outcome → State → Prop} {free : Addr → Prop} {As : List Value}
theorem tw_rV (S : CallFix p m c cc nL s args tw_ws own) (hK : tw_K D s) (hI : tw_I D A ad w s.heap H locs) (ok : tw_okV own idx y bytes maxL ret n) (hM : Met l y (tw_w y bytes maxL ret) (tw_R k mc ms) (tw_Pc D ad w H.size (.ref (ad t) :: As)) Qc mc ms free) {ci : Nat} {fs : List Value} {q : vw_C} (he : w t = some (.inr (ci, fs))) (hc : vwCl[ci]? = some q) (hq : y.cls = q.1) (hR : k + 1 ≤ R.frames ∧ 8 + (maxL + 11) + 40 * k ≤ R.locals) (hf : cells + mc ≤ R.cells ∧ slots + ms ≤ R.slots) (hn : As.length = n) (hls : ls.size = nL) (hst : st0 = As.reverse ++ .ref (ad t) :: rest) (hrs : (rest.map fun v => v.category).sum ≤ 8) (hdg : decode cc pc = .ok (.invokevirtual idx, 3)) :
    va_Run p l e R s m args below meth c H locs cells slots mc ms (F0 m pc ls st0) rest (Qc (Value.ref (ad t) :: As).toArray) free := by
  obtain ⟨h0, h1, h2, h3, h4, h5⟩ := ok
  exact va_runV S hM (cwV n S.2.2.2.2 (tw_goodV h0 h1 h2 h3 h4) rfl rfl rfl ⟨rfl, h5⟩ hR) (hq ▸ tw_preV hK hI he hc) rfl hn hls hst (lv_room hrs) hdg hf
theorem tw_rS (S : CallFix p m c cc nL s args tw_ws own) (hK : tw_K D s) (hI : tw_I D A ad w s.heap H locs) (ok : tw_okS own idx y bytes maxL ret n) (hM : Met l y (tw_w y bytes maxL ret) (tw_R k mc ms) (tw_Pc D ad w H.size As) Qc mc ms free) (hR : k + 1 ≤ R.frames ∧ 8 + (maxL + 11) + 40 * k ≤ R.locals) (hf : cells + mc ≤ R.cells ∧ slots + ms ≤ R.slots) (hn : As.length = n) (hls : ls.size = nL) (hst : st0 = As.reverse ++ rest) (hrs : (rest.map fun v => v.category).sum ≤ 8) (hdg : decode cc pc = .ok (.invokestatic idx, 3)) :
    va_Run p l e R s m args below meth c H locs cells slots mc ms (F0 m pc ls st0) rest (Qc As.toArray) free := by
  obtain ⟨h0, h1, h2, h4, h5⟩ := ok
  exact va_runS S hM (va_cwS n S.2.2.2.2 (tw_goodS h0 h1 h2 h4) rfl rfl rfl h5 hR) (tw_preS hK hI) rfl hn hls hst (lv_room hrs) hdg hf
theorem tw_rI (S : CallFix p m c cc nL s args tw_ws own) (hK : tw_K D s) (hI : tw_I D A ad w s.heap H locs) (ok : tw_okI own idx y bytes maxL n) (hM : Met l y (tw_w y bytes maxL none) (tw_R k mc ms) (tw_Pc D ad w H.size (.ref (ad t) :: As)) Qc mc ms free) (hR : k + 1 ≤ R.frames ∧ 8 + (maxL + 11) + 40 * k ≤ R.locals) (hf : cells + mc ≤ R.cells ∧ slots + ms ≤ R.slots) (hn : As.length = n) (hls : ls.size = nL) (hst : st0 = As.reverse ++ .ref (ad t) :: rest) (hrs : (rest.map fun v => v.category).sum ≤ 8) (hdg : decode cc pc = .ok (.invokespecial idx, 3)) :
    va_Run p l e R s m args below meth c H locs cells slots mc ms (F0 m pc ls st0) rest (Qc (Value.ref (ad t) :: As).toArray) free := by
  obtain ⟨h0, h1, h2, h4, h6, h5⟩ := ok
  exact va_runI S hM (cwI n S.2.2.2.2 (tw_good h0) rfl rfl rfl (S.2.2.2.2 _ h4) (S.2.2.2.2 _ h1) (S.2.2.2.2 _ h2) h6 h5 hR) (tw_preS hK hI) rfl hn hls hst (lv_room hrs) hdg hf
theorem tw_rVN {host : String} (S : CallFix p m c cc nL s args tw_ws own) (hK : tw_K D s) (hI : tw_I D A ad w s.heap H locs) (ok : tw_okVN own idx y host bytes maxL ret n) (hM : Met l y (tw_w y bytes maxL ret) (tw_R k mc ms) (tw_Pc D ad w H.size (.ref (ad t) :: As)) Qc mc ms free) {ci : Nat} {fs : List Value} {q : vw_C} (he : w t = some (.inr (ci, fs))) (hc : vwCl[ci]? = some q) (hq : y.cls = q.1) (hR : k + 1 ≤ R.frames ∧ 8 + (maxL + 11) + 40 * k ≤ R.locals) (hf : cells + mc ≤ R.cells ∧ slots + ms ≤ R.slots) (hn : As.length = n) (hls : ls.size = nL) (hst : st0 = As.reverse ++ .ref (ad t) :: rest) (hrs : (rest.map fun v => v.category).sum ≤ 8) (hdg : decode cc pc = .ok (.invokevirtual idx, 3)) :
    va_Run p l e R s m args below meth c H locs cells slots mc ms (F0 m pc ls st0) rest (Qc (Value.ref (ad t) :: As).toArray) free := by
  obtain ⟨h0, h1, h2, h3, h4, h5⟩ := ok
  exact va_runVN S hM ⟨va_cnB n S.2.2.2.2 (tw_good h0) rfl rfl rfl (hK.2.1 _ h1) (S.2.2.2.2 _ h4) h5 hR, S.2.2.2.2 _ h2, S.2.2.2.2 _ h3⟩ (hq ▸ tw_preV hK hI he hc) rfl hn hls hst (lv_room hrs) hdg hf
theorem tw_rSN {host : String} (S : CallFix p m c cc nL s args tw_ws own) (hK : tw_K D s) (hI : tw_I D A ad w s.heap H locs) (ok : tw_okSN own idx y host bytes maxL ret n) (hM : Met l y (tw_w y bytes maxL ret) (tw_R k mc ms) (tw_Pc D ad w H.size As) Qc mc ms free) (hR : k + 1 ≤ R.frames ∧ 8 + (maxL + 11) + 40 * k ≤ R.locals) (hf : cells + mc ≤ R.cells ∧ slots + ms ≤ R.slots) (hn : As.length = n) (hls : ls.size = nL) (hst : st0 = As.reverse ++ rest) (hrs : (rest.map fun v => v.category).sum ≤ 8) (hdg : decode cc pc = .ok (.invokestatic idx, 3)) :
    va_Run p l e R s m args below meth c H locs cells slots mc ms (F0 m pc ls st0) rest (Qc As.toArray) free := by
  obtain ⟨h0, h1, h2, h4, h5⟩ := ok
  exact va_runSN S hM ⟨va_cnB n S.2.2.2.2 (tw_good h0) rfl rfl rfl (hK.2.1 _ h1) (S.2.2.2.2 _ h4) h5 hR, S.2.2.2.2 _ h2, trivial⟩ (tw_preS hK hI) rfl hn hls hst (lv_room hrs) hdg hf
theorem tw_rIN {host : String} (S : CallFix p m c cc nL s args tw_ws own) (hK : tw_K D s) (hI : tw_I D A ad w s.heap H locs) (ok : tw_okIN own idx y host bytes maxL n) (hM : Met l y (tw_w y bytes maxL none) (tw_R k mc ms) (tw_Pc D ad w H.size (.ref (ad t) :: As)) Qc mc ms free) (hR : k + 1 ≤ R.frames ∧ 8 + (maxL + 11) + 40 * k ≤ R.locals) (hf : cells + mc ≤ R.cells ∧ slots + ms ≤ R.slots) (hn : As.length = n) (hls : ls.size = nL) (hst : st0 = As.reverse ++ .ref (ad t) :: rest) (hrs : (rest.map fun v => v.category).sum ≤ 8) (hdg : decode cc pc = .ok (.invokespecial idx, 3)) :
    va_Run p l e R s m args below meth c H locs cells slots mc ms (F0 m pc ls st0) rest (Qc (Value.ref (ad t) :: As).toArray) free := by
  obtain ⟨h0, h1, h2, h4, h6, h5⟩ := ok
  exact va_runIN S hM ⟨va_cnB n S.2.2.2.2 (tw_good h0) rfl rfl rfl (hK.2.1 _ h1) (S.2.2.2.2 _ h4) h5 hR, h6, S.2.2.2.2 _ h2⟩ (tw_preS hK hI) rfl hn hls hst (lv_room hrs) hdg hf
theorem tw_rA {C owner : String} (S : CallFix p m c cc nL s args tw_ws own) (hK : tw_K D s) (hI : tw_I D A ad w s.heap H locs) (ok : tw_okA own idx C owner x y bytes maxL ret n) (hM : Met l y (tw_w y bytes maxL ret) (tw_R k mc ms) (tw_Pc D ad w H.size (.ref (ad t) :: As)) Qc mc ms free) {ci : Nat} {fs : List Value} {q : vw_C} (he : w t = some (.inr (ci, fs))) (hc : vwCl[ci]? = some q) (hq : C = q.1) (hR : k + 1 ≤ R.frames ∧ 8 + (maxL + 11) + 40 * k ≤ R.locals) (hf : cells + mc ≤ R.cells ∧ slots + ms ≤ R.slots) (hn : As.length = n) (hls : ls.size = nL) (hst : st0 = As.reverse ++ .ref (ad t) :: rest) (hrs : (rest.map fun v => v.category).sum ≤ 8) (hdg : decode cc pc = .ok (.invokevirtual idx, 3)) :
    va_Run p l e R s m args below meth c H locs cells slots mc ms (F0 m pc ls st0) rest (Qc (Value.ref (ad t) :: As).toArray) free := by
  obtain ⟨h0, h1, h2, h3, h4, h6, h7, h5⟩ := ok
  exact va_runU S hM (va_cwA n S.2.2.2.2 (tw_goodU h0 h1 h2 h3 h4 h6) rfl rfl rfl (hK.2.1 _ h7) h5 hR) (hq ▸ tw_preV hK hI he hc) rfl hn hls hst (lv_room hrs) hdg hf
theorem tw_rU {C owner : String} (S : CallFix p m c cc nL s args tw_ws own) (hK : tw_K D s) (hI : tw_I D A ad w s.heap H locs) (ok : tw_okU own idx C owner x y bytes maxL ret n) (hM : Met l y (tw_w y bytes maxL ret) (tw_R k mc ms) (tw_Pc D ad w H.size (.ref (ad t) :: As)) Qc mc ms free) {ci : Nat} {fs : List Value} {q : vw_C} (he : w t = some (.inr (ci, fs))) (hc : vwCl[ci]? = some q) (hq : C = q.1) (hR : k + 1 ≤ R.frames ∧ 8 + (maxL + 11) + 40 * k ≤ R.locals) (hf : cells + mc ≤ R.cells ∧ slots + ms ≤ R.slots) (hn : As.length = n) (hls : ls.size = nL) (hst : st0 = As.reverse ++ .ref (ad t) :: rest) (hrs : (rest.map fun v => v.category).sum ≤ 8) (hdg : decode cc pc = .ok (.invokevirtual idx, 3)) :
    va_Run p l e R s m args below meth c H locs cells slots mc ms (F0 m pc ls st0) rest (Qc (Value.ref (ad t) :: As).toArray) free := by
  obtain ⟨h0, h1, h2, h3, h4, h6, h7, h5⟩ := ok
  exact va_runU S hM (va_cwU n S.2.2.2.2 (tw_goodU h0 h1 h2 h3 h4 h6) rfl rfl rfl h7 h5 hR) (hq ▸ tw_preV hK hI he hc) rfl hn hls hst (lv_room hrs) hdg hf
theorem tw_I.sub (hI : tw_I D A ad w s.heap H locs) : ∀ q, tw_A ad w H.size q → A q := by
  intro q h
  rcases h with ⟨t, e, h1, rfl⟩ | h
  · exact hI.2.1 t e h1
  · exact hI.2.2.2 q (Nat.le_trans hI.2.2.1.1 h)
theorem tw_call {r : Option Value} {a : Array Value} (hr : va_Run p l e R s m args below meth c H locs cells slots mc ms (F0 m pc ls st0) rest (tw_Q D ad w' (tw_A ad w H.size) r a) (tw_A ad w H.size)) (hI : tw_I D A ad w s.heap H locs)
    (kk : ∀ (H1 : Heap) (locs1 : List Loc), tw_I D A ad w' s.heap H1 locs1 → W p l e R s m args below meth c H1 locs1 (cells + mc) (slots + ms) Q (F0 m (pc + 3) ls (r.toList ++ rest))) : W p l e R s m args below meth c H locs cells slots Q (F0 m pc ls st0) := by
  intro T hT X
  obtain ⟨v, st₀, t, T', L, h0, X', hL, e1, e2, ⟨hv, hP, hd, hz, hk⟩, st⟩ := hr T hT X
  cases hv
  rw [h0] at hz hk
  obtain ⟨t2, a1, b1⟩ := kk T'.heap (locs ++ L) ⟨by rw [e1]; exact hP, fun τ ε h => hI.sub _ (hd τ ε h), ⟨Nat.le_trans hI.2.2.1.1 (by rw [e1]; exact hz), fun q h1 h2 => by rw [e1, hk q (Nat.lt_of_lt_of_le h1 hI.2.2.1.1) (fun z => h2 (hI.sub q z))]; exact hI.2.2.1.2.1 q h1 h2, fun q hq => by
      rcases List.mem_append.mp hq with h | h
      · exact hI.2.2.1.2.2 q h
      · exact hI.sub _ (hL q h)⟩, hI.2.2.2⟩ T' rfl X'
  exact ⟨t2, st t2 a1, b1⟩
theorem tw_callN {r : (Nat → Nat) → Option Value} {a : Array Value} (hr : va_Run p l e R s m args below meth c H locs cells slots mc ms (F0 m pc ls st0) rest (tw_Qn D ad w w' (tw_A ad w H.size) r a) (tw_A ad w H.size)) (hI : tw_I D A ad w s.heap H locs)
    (kk : ∀ (ad' : Nat → Nat) (H1 : Heap) (locs1 : List Loc), (∀ (τ : Nat) (ε : tw_T), w τ = some ε → ad' τ = ad τ) → tw_I D A ad' w' s.heap H1 locs1 → W p l e R s m args below meth c H1 locs1 (cells + mc) (slots + ms) Q (F0 m (pc + 3) ls ((r ad').toList ++ rest))) : W p l e R s m args below meth c H locs cells slots Q (F0 m pc ls st0) := by
  intro T hT X
  obtain ⟨v, st₀, t, T', L, h0, X', hL, e1, e2, ⟨ad', had, hv, hP, hd, hz, hk⟩, st⟩ := hr T hT X
  cases hv
  rw [h0] at hz hk
  obtain ⟨t2, a1, b1⟩ := kk ad' T'.heap (locs ++ L) had ⟨by rw [e1]; exact hP, fun τ ε h => hI.sub _ (hd τ ε h), ⟨Nat.le_trans hI.2.2.1.1 (by rw [e1]; exact hz), fun q h1 h2 => by rw [e1, hk q (Nat.lt_of_lt_of_le h1 hI.2.2.1.1) (fun z => h2 (hI.sub q z))]; exact hI.2.2.1.2.1 q h1 h2, fun q hq => by
      rcases List.mem_append.mp hq with h | h
      · exact hI.2.2.1.2.2 q h
      · exact hI.sub _ (hL q h)⟩, hI.2.2.2⟩ T' rfl X'
  exact ⟨t2, st t2 a1, b1⟩
-- returns
theorem tw_ret {r : Option Value} (hI : tw_I D A ad w' s.heap H locs) {t : State} (ht : t.heap = H) : tw_Q D ad w' A r args s (.returned r) t := ⟨rfl, by rw [ht]; exact hI.1, hI.2.1, hI.2.2.1.F ht⟩
theorem tw_retN {ad0 : Nat → Nat} {r : (Nat → Nat) → Option Value} (hI : tw_I D A ad w' s.heap H locs) (had : ∀ (τ : Nat) (ε : tw_T), w τ = some ε → ad τ = ad0 τ) {t : State} (ht : t.heap = H) : tw_Qn D ad0 w w' A r args s (.returned (r ad)) t := ⟨ad, had, rfl, by rw [ht]; exact hI.1, hI.2.1, hI.2.2.1.F ht⟩
theorem tw_iret {v : Int32} (S : CallFix p m c cc nL s args tw_ws own) (hr : meth.sig.returnType = some .int) (hlocks : meth.locks = false) (hI : tw_I D A ad w' s.heap H locs) (hdg : decode cc pc = .ok (.ireturn, 1)) : W p l e R s m args below meth c H locs cells slots (MQ below (tw_Q D ad w' A (some (.int v))) args s cells slots A) (F0 m pc ls [.int v]) :=
  W.iret S.1 S.2.1 hr (fun t ht _ => tw_ret hI ht) hI.2.2.1.2.2 hdg hlocks
theorem tw_zret {v : Int32} (S : CallFix p m c cc nL s args tw_ws own) (hr : meth.sig.returnType = some .boolean) (hn : narrow .boolean (.int v) = .int v) (hlocks : meth.locks = false) (hI : tw_I D A ad w' s.heap H locs) (hdg : decode cc pc = .ok (.ireturn, 1)) : W p l e R s m args below meth c H locs cells slots (MQ below (tw_Q D ad w' A (some (.int v))) args s cells slots A) (F0 m pc ls [.int v]) :=
  W.zret S.1 S.2.1 hr hn (fun t ht _ => tw_ret hI ht) hI.2.2.1.2.2 hdg hlocks
theorem tw_lret {v : Int64} (S : CallFix p m c cc nL s args tw_ws own) (hr : meth.sig.returnType = some .long) (hlocks : meth.locks = false) (hI : tw_I D A ad w' s.heap H locs) (hdg : decode cc pc = .ok (.lreturn, 1)) : W p l e R s m args below meth c H locs cells slots (MQ below (tw_Q D ad w' A (some (.long v))) args s cells slots A) (F0 m pc ls [.long v]) :=
  W.lret S.1 S.2.1 hr (fun t ht _ => tw_ret hI ht) hI.2.2.1.2.2 hdg hlocks
theorem tw_vret (S : CallFix p m c cc nL s args tw_ws own) (hr : meth.sig.returnType = none) (hlocks : meth.locks = false) (hI : tw_I D A ad w' s.heap H locs) (hdg : decode cc pc = .ok (.return_, 1)) : W p l e R s m args below meth c H locs cells slots (MQ below (tw_Q D ad w' A none) args s cells slots A) (F0 m pc ls []) :=
  W.vret S.1 S.2.1 hr (fun t ht _ => tw_ret hI ht) hI.2.2.1.2.2 hdg hlocks
theorem tw_aret {C : String} {v : Value} (S : CallFix p m c cc nL s args tw_ws own) (hr : meth.sig.returnType = some (.object C)) (hv : v = .null ∨ ∃ a, v = .ref a) (hlocks : meth.locks = false) (hI : tw_I D A ad w' s.heap H locs) (hdg : decode cc pc = .ok (.areturn, 1)) : W p l e R s m args below meth c H locs cells slots (MQ below (tw_Q D ad w' A (some v)) args s cells slots A) (F0 m pc ls [v]) :=
  W.aret S.1 S.2.1 hr (Or.inl ⟨C, rfl⟩) hv (fun t ht _ => tw_ret hI ht) hI.2.2.1.2.2 hdg hlocks
-- new cells
theorem tw_new (S : CallFix p m c cc nL s args tw_ws own) (hK : tw_K D s) (hI : tw_I D A ad w s.heap H locs) {C : String} {T : u_T} {N ci index : Nat} (hin : ∀ x ∈ u_ws C T N, x ∈ tw_ws) (ty : Nat → FieldType) (hty : ∀ k, k < N → parseFieldDescriptor (T k).2.2.1 = some (ty k)) (hcl : Cond.classLink own index C ∈ tw_ws) (hinst : Cond.instantiable C N ∈ tw_ws) (hini : Cond.initialized C ∈ tw_ws) (hc : vwCl[ci]? = some (C, T, N)) {fs : List Value} (hfs : ∀ j, j < N → defaultValue (ty j) = vp_V fs j) (hfr : ∀ ad : Nat → Nat, fs.map (tw_v ad) = fs) (t : Nat) (hn : w t = none) (hnr : ∀ (t' : Nat) (e' : tw_T), w t' = some e' → tw_nr t e') (hcells : cells + 1 ≤ R.cells) (hslots : slots + N ≤ R.slots) (hdg : decode cc pc = .ok (.new index, 3))
    (kk : ∀ (ad' : Nat → Nat) (H1 : Heap), (∀ τ : Nat, τ ≠ t → ad' τ = ad τ) → tw_I D A ad' (va_up w t (some (.inr (ci, fs)))) s.heap H1 locs → W p l e R s m args below meth c H1 locs (cells + 1) (slots + N) Q (F0 m (pc + 3) ls (.ref (ad' t) :: rest))) : W p l e R s m args below meth c H locs cells slots Q (F0 m pc ls rest) := by
  obtain ⟨hx, hb, hml, hown, hts⟩ := S
  have hKn := hK.1.1 ci _ hc
  refine W.newcK hx hb hown (hts _ hcl) (hts _ hinst) (hts _ hini) rfl hdg hcells hslots hKn.2.1 rfl fun H1 kC hkC e1 z1 o1 => ?_
  have h := kk (va_up ad t H.size) H1 (fun τ h => va_up_ne _ _ h) (hI.new hn ⟨_, hc, by show t_OB _ _ _ _ _ (vp_V (fs.map (tw_v (va_up ad t H.size)))); rw [hfr]; exact (u_born ty hts hin hKn hkC e1 hty).to hfs⟩ z1 o1 hnr)
  rw [va_up_self] at h
  exact h
theorem tw_newI (S : CallFix p m c cc nL s args tw_ws own) (hK : tw_K D s) (hI : tw_I D A ad w s.heap H locs) {atype : ArrayType} {ty : FieldType} (hty : newarray.typeOf atype = ty) (ha : Cond.arrayClass (newarray.typeOf atype) ∈ tw_ws) {k : Nat} (hk : (tw_tys D)[k]? = some (D.2 k, ty)) (hnm : ∀ cA : ClassId, va_RA s cA ty → s.vm.findClass ("[" ++ ty.toString) = some cA) {a0 : vp_A} {N : Nat} (ha0 : ∀ (ad : Nat → Nat) (cA : ClassId), vp_cell cA (tw_a ad a0) = arrV cA N (fun _ => defaultValue ty)) {n : Int32} (hn0 : ¬ n < 0) (hN : n.toNatClampNeg = N) (hbytes : N * componentBytes ty ≤ 536870912) (t : Nat) (hn : w t = none) (hnr : ∀ (t' : Nat) (e' : tw_T), w t' = some e' → tw_nr t e') (hcells : cells + 1 ≤ R.cells) (hslots : slots + N ≤ R.slots) (hdg : decode cc pc = .ok (.newarray atype, 2))
    (kk : ∀ (ad' : Nat → Nat) (H1 : Heap), (∀ τ : Nat, τ ≠ t → ad' τ = ad τ) → tw_I D A ad' (va_up w t (some (.inl (k, a0)))) s.heap H1 locs → W p l e R s m args below meth c H1 locs (cells + 1) (slots + N) Q (F0 m (pc + 2) ls (.ref (ad' t) :: rest))) : W p l e R s m args below meth c H locs cells slots Q (F0 m pc ls (.int n :: rest)) := by
  subst hty
  refine va_newaK S.1 S.2.1 (S.2.2.2.2 _ ha) rfl hdg rfl hn0 hN hbytes hcells hslots rfl fun H1 cA e1 z1 o1 hAr hNm => ?_
  have hcA : cA = D.2 k := Option.some.inj (hNm.symm.trans (hnm _ (hK.1.2 k _ hk).2))
  subst hcA
  have h := kk (va_up ad t H.size) H1 (fun τ h => va_up_ne _ _ h) (hI.new hn (by show H1[H.size]? = some (vp_cell _ (tw_a _ _)); rw [ha0]; exact e1) z1 o1 hnr)
  rw [va_up_self] at h
  exact h
theorem tw_newQ (S : CallFix p m c cc nL s args tw_ws own) (hK : tw_K D s) (hI : tw_I D A ad w s.heap H locs) {C : String} {index k : Nat} (hcl : Cond.classLink own index C ∈ tw_ws) (hov : Cond.arrayOver (.object C) ∈ tw_nw) (hk : (tw_tys D)[k]? = some (D.2 k, .object C)) {N : Nat} {n : Int32} (hn0 : ¬ n < 0) (hN : n.toNatClampNeg = N) (hbytes : N * 4 ≤ 536870912) (t : Nat) (hn : w t = none) (hnr : ∀ (t' : Nat) (e' : tw_T), w t' = some e' → tw_nr t e') (hcells : cells + 1 ≤ R.cells) (hslots : slots + N ≤ R.slots) (hdg : decode cc pc = .ok (.anewarray index, 3))
    (kk : ∀ (ad' : Nat → Nat) (H1 : Heap), (∀ τ : Nat, τ ≠ t → ad' τ = ad τ) → tw_I D A ad' (va_up w t (some (.inl (k, N, .inr (.inr (.inr (.inr (fun _ => none)))))))) s.heap H1 locs → W p l e R s m args below meth c H1 locs (cells + 1) (slots + N) Q (F0 m (pc + 3) ls (.ref (ad' t) :: rest))) : W p l e R s m args below meth c H locs cells slots Q (F0 m pc ls (.int n :: rest)) := by
  subst hN
  refine W.anew S.1 S.2.1 S.2.2.2.1 (S.2.2.2.2 _ hcl) (va_AO.use (hK.2.1 _ hov)) rfl hdg rfl hn0 hbytes hcells hslots fun cA kA comp f1 f2 f3 f4 => ?_
  obtain ⟨kA2, comp2, k1, k2, k3, k4⟩ := (hK.1.2 k _ hk).2
  have hcA : cA = D.2 k := Option.some.inj (f1.symm.trans k4)
  subst hcA
  generalize hH1 : H.push ({ cls := D.2 k, slots := Array.replicate n.toNatClampNeg .null, vm := .none } : Cell) = H1
  have z1 : H1.size = H.size + 1 := by rw [← hH1, Array.size_push]
  have e1 : H1[H.size]? = some (arrV (D.2 k) n.toNatClampNeg (fun _ => .null)) := by rw [← hH1, Array.getElem?_push_size, ← arrV_new]
  have o1 : ∀ q : Nat, q < H.size → H1[q]? = H[q]? := fun q hq => by rw [← hH1, Array.getElem?_push, if_neg (Nat.ne_of_lt hq)]
  have h := kk (va_up ad t H.size) H1 (fun τ h => va_up_ne _ _ h) (hI.new hn (by show H1[H.size]? = some (arrV (D.2 k) n.toNatClampNeg (fun _ => .null)); exact e1) z1 o1 hnr)
  rw [va_up_self] at h
  exact h
-- instanceof, checkcast
theorem tw_inst1 (S : CallFix p m c cc nL s args tw_ws own) (hK : tw_K D s) (hI : tw_I D A ad w s.heap H locs) {nm : String} {index ci : Nat} {fs : List Value} {q : vw_C} (hl : Cond.classLink own index nm ∈ tw_ws) (he : w t = some (.inr (ci, fs))) (hc : vwCl[ci]? = some q) (hcast : Cond.castable q.1 nm ∈ tw_nw) (hdg : decode cc pc = .ok (.instanceof index, 3))
    (kk : W p l e R s m args below meth c H locs cells slots Q (F0 m (pc + 3) ls (.int 1 :: rest))) : W p l e R s m args below meth c H locs cells slots Q (F0 m pc ls (.ref (ad t) :: rest)) :=
  va_instY S.1 S.2.1 S.2.2.2.1 (S.2.2.2.2 _ hl) (hK.2.1 _ hcast) (tw_recv hK hI he hc) hdg kk
theorem tw_cast (S : CallFix p m c cc nL s args tw_ws own) (hK : tw_K D s) (hI : tw_I D A ad w s.heap H locs) {nm : String} {index ci : Nat} {fs : List Value} {q : vw_C} (hl : Cond.classLink own index nm ∈ tw_ws) (he : w t = some (.inr (ci, fs))) (hc : vwCl[ci]? = some q) (hcast : Cond.castable q.1 nm ∈ tw_nw) (hdg : decode cc pc = .ok (.checkcast index, 3))
    (kk : W p l e R s m args below meth c H locs cells slots Q (F0 m (pc + 3) ls (.ref (ad t) :: rest))) : W p l e R s m args below meth c H locs cells slots Q (F0 m pc ls (.ref (ad t) :: rest)) :=
  va_castY S.1 S.2.1 S.2.2.2.1 (S.2.2.2.2 _ hl) (hK.2.1 _ hcast) (tw_recv hK hI he hc) hdg kk
theorem tw_inst0 (S : CallFix p m c cc nL s args tw_ws own) (hK : tw_K D s) (hI : tw_I D A ad w s.heap H locs) {nm : String} {index ci : Nat} {fs : List Value} {q : vw_C} (hl : Cond.classLink own index nm ∈ tw_ws) (he : w t = some (.inr (ci, fs))) (hc : vwCl[ci]? = some q) (hcast : (q.1, nm) ∈ tw_ncs) (hdg : decode cc pc = .ok (.instanceof index, 3))
    (kk : W p l e R s m args below meth c H locs cells slots Q (F0 m (pc + 3) ls (.int 0 :: rest))) : W p l e R s m args below meth c H locs cells slots Q (F0 m pc ls (.ref (ad t) :: rest)) :=
  va_instNo S.1 S.2.1 S.2.2.2.1 (S.2.2.2.2 _ hl) (hK.2.2 _ hcast) (tw_recv hK hI he hc) hdg kk
theorem tw_obj (S : CallFix p m c cc nL s args tw_ws own) {q : Nat} (h1 : Cond.methodLink own idx objectInit ∈ tw_ws) (h2 : Cond.instanceMethod objectInit ∈ tw_ws) (h3 : Cond.code objectInit ⟨#[0xb1]⟩ 1 none ∈ tw_ws) (hls : ls.size = nL) (hdg : decode cc pc = .ok (.invokespecial idx, 3)) (hf : 1 ≤ R.frames) (hlo : (rest.map fun v => v.category).sum + 12 ≤ R.locals)
    (kk : W p l e R s m args below meth c H locs cells slots Q (F0 m (pc + 3) ls rest)) : W p l e R s m args below meth c H locs cells slots Q (F0 m pc ls (.ref q :: rest)) :=
  W.objInit S.1 S.2.1 S.2.2.2.1 (S.2.2.2.2 _ h1) (S.2.2.2.2 _ h2) (S.2.2.2.2 _ h3) rfl (by rw [S.2.2.1]; exact hls) rfl hdg hf (by show 2 * 0 + _ + 12 ≤ _; omega) kk
end TWC
