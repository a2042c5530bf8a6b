/-! THE TAG WORLD. A heap is told by tags: w says what stands at a tag (references in it are tags), ad where a tag lies. No two tags lie at one address. -/
abbrev tw_T : Type := (Nat × vp_A) ⊕ (Nat × List Value)
abbrev tw_G : Type := va_G × (Nat → ClassId)
abbrev tw_W : Type := Nat → Option tw_T
def tw_v (ad : Nat → Nat) (v : Value) : Value := match v with
  | .ref t => .ref (ad t)
  | v => v
def tw_a (ad : Nat → Nat) (x : vp_A) : vp_A := (x.1, match x.2 with
  | .inr (.inr (.inr (.inr f))) => .inr (.inr (.inr (.inr (fun j => (f j).map ad))))
  | y => y)
def tw_e (D : tw_G) (ad : Nat → Nat) (e : tw_T) : va_E := match e with
  | .inl a => .inl (D.2 a.1, tw_a ad a.2)
  | .inr o => .inr (o.1, o.2.map (tw_v ad))
def tw_P (D : tw_G) (ad : Nat → Nat) (w : tw_W) (H : Heap) : Prop :=
  (∀ (t : Nat) (e : tw_T), w t = some e → va_at D.1 vwCl (ad t, tw_e D ad e) H) ∧ ∀ (t t' : Nat) (e e' : tw_T), w t = some e → w t' = some e' → ad t = ad t' → t = t'
def tw_I (D : tw_G) (A : Nat → Prop) (ad : Nat → Nat) (w : tw_W) (H0 H : Heap) (locs : List Loc) : Prop :=
  tw_P D ad w H ∧ (∀ (t : Nat) (e : tw_T), w t = some e → A (ad t)) ∧ va_S A H0 H locs ∧ ∀ q : Nat, H0.size ≤ q → A q
def tw_A (ad : Nat → Nat) (w : tw_W) (sz : Nat) : Nat → Prop := fun q => (∃ (t : Nat) (e : tw_T), w t = some e ∧ ad t = q) ∨ sz ≤ q
-- the tables' words
def tw_ws : List Cond := lw_tbl.filter goodWord
theorem tw_mem {w : Cond} (h : w ∈ lw_tbl) (g : goodWord w = true) : w ∈ tw_ws := List.mem_filter.mpr ⟨h, g⟩
def tw_isN : Cond → Bool
  | .fieldLinkNest .. => true
  | .methodLinkNest .. => true
  | .castable .. => true
  | .declares .. => true
  | .arrayOver (.object _) => true
  | _ => false
def tw_nw : List Cond := lw_tbl.filter tw_isN
theorem tw_memN {w : Cond} (h : w ∈ lw_tbl) (g : tw_isN w = true) : w ∈ tw_nw := List.mem_filter.mpr ⟨h, g⟩
def tw_ncs : List (String × String) := [(RX3, RX2), (RX5, RX2), (RX3, RX5), (RX2, RX5), (RX2, RX3), (RX5, RX3)]
def tw_tys (D : tw_G) : List (ClassId × FieldType) := [(D.2 0, .int), (D.2 1, .long), (D.2 2, .boolean), (D.2 3, .object RX0), (D.2 4, .object RX1), (D.2 5, .object RX4)]
def tw_K (D : tw_G) (U : State) : Prop := va_K D.1 vwCl (tw_tys D) U ∧ (∀ w ∈ tw_nw, va_Nw w U) ∧ ∀ q ∈ tw_ncs, va_Nc q.1 q.2 U
theorem tw_Nwarm {w : Cond} (hw : tw_isN w = true) {s U : State} (hW : s.WarmedH U.vm) (h : va_Nw w s) : va_Nw w U := by
  cases w with
  | fieldLinkNest => exact va_Nw.warmF hW h
  | methodLinkNest => exact va_Nw.warmM hW h
  | castable => exact va_Nw.warmC hW h
  | declares => exact va_Nw.warmD hW h
  | arrayOver ty =>
    cases ty with
    | object C => exact va_AO.moved hW.alike h
    | _ => cases hw
  | _ => cases hw
theorem tw_K.warm {D : tw_G} {s U : State} (hW : s.WarmedH U.vm) (h : tw_K D s) : tw_K D U :=
  ⟨va_K.moved hW.alike h.1, fun w hw => tw_Nwarm (List.mem_filter.mp hw).2 hW (h.2.1 w hw), fun q hq => (h.2.2 q hq).moved hW.alike⟩
theorem tw_Nsame {w : Cond} (hw : tw_isN w = true) {s U : State} (hv : s.vm = U.vm) (h : va_Nw w s) : va_Nw w U := by
  cases w with
  | fieldLinkNest => exact va_Nw.same rfl hv h
  | methodLinkNest => exact va_Nw.same rfl hv h
  | castable => exact va_Nw.same rfl hv h
  | declares => exact va_Nw.same rfl hv h
  | arrayOver ty =>
    cases ty with
    | object C => exact va_AO.moved (hv ▸ Vm.Alike.refl s.vm) h
    | _ => cases hw
  | _ => cases hw
theorem tw_K.same {D : tw_G} {s U : State} (hv : s.vm = U.vm) (h : tw_K D s) : tw_K D U :=
  ⟨va_K.moved (hv ▸ Vm.Alike.refl s.vm) h.1, fun w hw => tw_Nsame (List.mem_filter.mp hw).2 hv (h.2.1 w hw), fun q hq => (h.2.2 q hq).moved (hv ▸ Vm.Alike.refl s.vm)⟩
-- what a method's words are
abbrev tw_w (y : MethodName) (b : ByteArray) (n : Nat) (r : Option FieldType) : List Cond := .code y b n r :: tw_ws
theorem tw_good {y : MethodName} {b : ByteArray} {n : Nat} {r : Option FieldType} (h : Cond.code y b n r ∈ tw_ws) : GoodIn tw_ws (tw_w y b n r) := by
  intro w hw
  rcases List.mem_cons.mp hw with rfl | hw
  · exact ⟨h, Or.inl rfl⟩
  · exact ⟨hw, good_of_word (List.mem_filter.mp hw).2⟩
theorem tw_good1 {w : Cond} (h : w ∈ tw_ws) : w ∈ tw_ws ∧ ((w.onTables && w.keeps) = true ∨ ∃ ty, w = .arrayClass ty) := ⟨h, good_of_word (List.mem_filter.mp h).2⟩
abbrev tw_R (k mc ms : Nat) : Room := { frames := k, cells := mc, slots := ms, locals := 40 * k }
-- contracts: start, end (nothing new), end (new cells)
def tw_Pc (D : tw_G) (ad : Nat → Nat) (w : tw_W) (sz : Nat) (av : List Value) : Array Value → State → Prop := fun v U => v = av.toArray ∧ U.heap.size = sz ∧ tw_P D ad w U.heap ∧ tw_K D U
def tw_Q (D : tw_G) (ad : Nat → Nat) (w' : tw_W) (A : Nat → Prop) (r : Option Value) : Array Value → State → Outcome → State → Prop := fun _ st oc t => oc = .returned r ∧ tw_P D ad w' t.heap ∧ (∀ (τ : Nat) (e : tw_T), w' τ = some e → A (ad τ)) ∧ va_F A st t
def tw_Qn (D : tw_G) (ad : Nat → Nat) (w : tw_W) (w' : tw_W) (A : Nat → Prop) (r : (Nat → Nat) → Option Value) : Array Value → State → Outcome → State → Prop := fun _ st oc t => ∃ ad' : Nat → Nat, (∀ (τ : Nat) (e : tw_T), w τ = some e → ad' τ = ad τ) ∧ oc = .returned (r ad') ∧ tw_P D ad' w' t.heap ∧ (∀ (τ : Nat) (e : tw_T), w' τ = some e → A (ad' τ)) ∧ va_F A st t
theorem tw_blind {D : tw_G} {ad : Nat → Nat} {w : tw_W} {sz : Nat} {av : List Value} : FrameBlind (tw_Pc D ad w sz av) := fun _ U _ _ h => ⟨h.1, h.2.1, h.2.2.1, h.2.2.2.same (s := U) rfl⟩
theorem tw_preS {D : tw_G} {A : Nat → Prop} {ad : Nat → Nat} {w : tw_W} {s : State} {H : Heap} {locs : List Loc} {As : List Value} (hK : tw_K D s) (hI : tw_I D A ad w s.heap H locs) : PreS s H (tw_Pc D ad w H.size As) As :=
  ⟨tw_blind, fun U hU hW => ⟨rfl, by rw [hU], by rw [hU]; exact hI.1, hK.warm hW⟩⟩
theorem tw_I.one {D : tw_G} {A : Nat → Prop} {ad : Nat → Nat} {w : tw_W} {H0 H : Heap} {locs : List Loc} (hI : tw_I D A ad w H0 H locs) {t : Nat} {e : tw_T} (he : w t = some e) : va_P D.1 vwCl [(ad t, tw_e D ad e)] H := by
  intro k q hk
  match k, hk with
  | 0, hk => cases hk; exact hI.1.1 t e he
  | k + 1, hk => simp at hk
theorem tw_recv {D : tw_G} {A : Nat → Prop} {ad : Nat → Nat} {w : tw_W} {s : State} {H : Heap} {locs : List Loc} {t ci : Nat} {fs : List Value} {q : vw_C} (hK : tw_K D s) (hI : tw_I D A ad w s.heap H locs) (he : w t = some (.inr (ci, fs))) (hc : vwCl[ci]? = some q) : ∃ cell : Cell, H[ad t]? = some cell ∧ cell.vm.isStatics = false ∧ s.vm.findClass q.1 = some cell.cls :=
  va_recv hK.1 (hI.one he) hc (q0 := 0) rfl
theorem tw_preV {D : tw_G} {A : Nat → Prop} {ad : Nat → Nat} {w : tw_W} {s : State} {H : Heap} {locs : List Loc} {As : List Value} {t ci : Nat} {fs : List Value} {q : vw_C} (hK : tw_K D s) (hI : tw_I D A ad w s.heap H locs) (he : w t = some (.inr (ci, fs))) (hc : vwCl[ci]? = some q) : PreV s H q.1 (ad t) (tw_Pc D ad w H.size (.ref (ad t) :: As)) As :=
  ⟨tw_blind, tw_recv hK hI he hc, fun U hU hW => ⟨rfl, by rw [hU], by rw [hU]; exact hI.1, hK.warm hW⟩⟩
theorem tw_I.lt {D : tw_G} {A : Nat → Prop} {ad : Nat → Nat} {w : tw_W} {H0 H : Heap} {locs : List Loc} (hI : tw_I D A ad w H0 H locs) {t : Nat} {e : tw_T} (he : w t = some e) : ad t < H.size := (hI.1.1 t e he).lt
theorem tw_I.set {D : tw_G} {A : Nat → Prop} {ad : Nat → Nat} {w : tw_W} {H0 H H1 : Heap} {locs : List Loc} (hI : tw_I D A ad w H0 H locs) {t k : Nat} {e0 e : tw_T} (he : w t = some e0) (h1 : va_at D.1 vwCl (ad t, tw_e D ad e) H1) (z : H1.size = H.size) (oq : ∀ q : Nat, q ≠ ad t → H1[q]? = H[q]?) : tw_I D A ad (va_up w t (some e)) H0 H1 (locs ++ [⟨ad t, k⟩]) := by
  have key : ∀ (τ : Nat) (ε : tw_T), va_up w t (some e) τ = some ε → ∃ ε', w τ = some ε' := by
    intro τ ε h
    by_cases hτ : τ = t
    · exact ⟨e0, by rw [hτ]; exact he⟩
    · exact ⟨ε, by rw [va_up_ne _ _ hτ] at h; exact h⟩
  refine ⟨⟨fun t' e' h' => ?_, fun t1 t2 e1 e2 g1 g2 ea => ?_⟩, fun t' e' h' => ?_, hI.2.2.1.put z oq (hI.2.1 t e0 he), hI.2.2.2⟩
  · by_cases ht : t' = t
    · subst ht
      rw [va_up_self] at h'
      cases h'
      exact h1
    · rw [va_up_ne _ _ ht] at h'
      exact (hI.1.1 t' e' h').kept (oq _ (fun z => ht (hI.1.2 t' t e' e0 h' he z)))
  · obtain ⟨a1, b1⟩ := key t1 e1 g1
    obtain ⟨a2, b2⟩ := key t2 e2 g2
    exact hI.1.2 t1 t2 _ _ b1 b2 ea
  · obtain ⟨a1, b1⟩ := key t' e' h'
    exact hI.2.1 t' a1 b1
/-- the cell at a tag, said in another way -/
theorem tw_I.alt {D : tw_G} {A : Nat → Prop} {ad : Nat → Nat} {w w' : tw_W} {H0 H : Heap} {locs : List Loc} (hI : tw_I D A ad w H0 H locs) (h : ∀ (t : Nat) (e : tw_T), w' t = some e → ∃ e0, w t = some e0 ∧ (va_at D.1 vwCl (ad t, tw_e D ad e0) H → va_at D.1 vwCl (ad t, tw_e D ad e) H)) : tw_I D A ad w' H0 H locs := by
  refine ⟨⟨fun t e he => ?_, fun t1 t2 e1 e2 g1 g2 ea => ?_⟩, fun t e he => ?_, hI.2.2⟩
  · obtain ⟨e0, h1, h2⟩ := h t e he
    exact h2 (hI.1.1 t e0 h1)
  · obtain ⟨a1, b1, -⟩ := h t1 e1 g1
    obtain ⟨a2, b2, -⟩ := h t2 e2 g2
    exact hI.1.2 t1 t2 _ _ b1 b2 ea
  · obtain ⟨e0, h1, -⟩ := h t e he
    exact hI.2.1 t e0 h1
/-- no reference to the tag t in e -/
def tw_nr (t : Nat) (e : tw_T) : Prop := ∀ (D : tw_G) (ad : Nat → Nat) (q : Nat), tw_e D (va_up ad t q) e = tw_e D ad e
theorem tw_I.new {D : tw_G} {A : Nat → Prop} {ad : Nat → Nat} {w : tw_W} {H0 H H1 : Heap} {locs : List Loc} (hI : tw_I D A ad w H0 H locs) {t : Nat} {e : tw_T} (hn : w t = none) (h1 : va_at D.1 vwCl (H.size, tw_e D (va_up ad t H.size) e) H1) (z : H1.size = H.size + 1) (oq : ∀ q : Nat, q < H.size → H1[q]? = H[q]?) (hcl : ∀ (t' : Nat) (e' : tw_T), w t' = some e' → tw_nr t e') : tw_I D A (va_up ad t H.size) (va_up w t (some e)) H0 H1 locs := by
  have key : ∀ (τ : Nat) (ε : tw_T), va_up w t (some e) τ = some ε → (τ = t ∧ va_up ad t H.size τ = H.size ∧ ε = e) ∨ (τ ≠ t ∧ w τ = some ε ∧ va_up ad t H.size τ = ad τ ∧ ad τ < H.size) := by
    intro τ ε h
    by_cases hτ : τ = t
    · subst hτ
      rw [va_up_self] at h
      cases h
      exact Or.inl ⟨rfl, va_up_self _ _ _, rfl⟩
    · rw [va_up_ne _ _ hτ] at h
      exact Or.inr ⟨hτ, h, va_up_ne _ _ hτ, hI.lt h⟩
  refine ⟨⟨fun t' e' h' => ?_, fun t1 t2 e1 e2 g1 g2 ea => ?_⟩, fun t' e' h' => ?_, ⟨by rw [z]; exact Nat.le_succ_of_le hI.2.2.1.1, fun q h2 h3 => ?_, hI.2.2.1.2.2⟩, hI.2.2.2⟩
  · rcases key t' e' h' with ⟨rfl, e1, rfl⟩ | ⟨ht, h2, e1, hl⟩
    · rw [e1]; exact h1
    · rw [e1, hcl t' e' h2 D ad H.size]
      exact (hI.1.1 t' e' h2).kept (oq _ hl)
  · rcases key t1 e1 g1 with ⟨rfl, a1, -⟩ | ⟨h3, h2, a1, hl⟩ <;> rcases key t2 e2 g2 with ⟨rfl, a2, -⟩ | ⟨h5, h4, a2, hl2⟩
    · rfl
    · rw [a1, a2] at ea; omega
    · rw [a1, a2] at ea; omega
    · rw [a1, a2] at ea; exact hI.1.2 t1 t2 _ _ h2 h4 ea
  · rcases key t' e' h' with ⟨rfl, e1, -⟩ | ⟨ht, h2, e1, hl⟩
    · rw [e1]; exact hI.2.2.2 _ hI.2.2.1.1
    · rw [e1]; exact hI.2.1 t' e' h2
  · rw [oq q (Nat.lt_of_lt_of_le h2 hI.2.2.1.1)]; exact hI.2.2.1.2.1 q h2 h3
section TW
variable {p : Program} {l : Launch} {e : Env} {R : Room} {s : State} {m : MethodId} {args : Array Value} {below : List Frame} {meth : Method} {c : Code} {H : Heap} {locs : List Loc} {cells slots : Nat} {Q : State → Prop}
variable {cc : ByteArray} {pc nL : Nat} {ls : Array Slot} {rest st0 : List Value} {D : tw_G} {A : Nat → Prop} {ad : Nat → Nat} {w w' : tw_W} {own : String} {t : Nat}
theorem tw_get (S : CallFix p m c cc nL s args tw_ws own) (hK : tw_K D s) (hI : tw_I D A ad w s.heap H locs) {ref C : String} {T : u_T} {N ci index : Nat} (hin : ∀ x ∈ u_ws C T N, x ∈ tw_ws) (hc : vwCl[ci]? = some (C, T, N)) (k : Nat) (hk : k < N) (hl : Cond.fieldLink own index ref (T k).2.1 (T k).2.2.1 ∈ tw_ws) (hsame : ∀ x, s.fieldFound? (T k).1 (T k).2.1 (T k).2.2.1 = some x → s.fieldFound? ref (T k).2.1 (T k).2.2.1 = some x)
    {fs : List Value} (he : w t = some (.inr (ci, fs))) {v v' : Value} (hv : fs[k]? = some v) (hv' : tw_v ad v = v') (hdg : decode cc pc = .ok (.getfield index, 3))
    (kk : W p l e R s m args below meth c H locs cells slots Q (F0 m (pc + 3) ls (v' :: rest))) : W p l e R s m args below meth c H locs cells slots Q (F0 m pc ls (.ref (ad t) :: rest)) := by
  obtain ⟨hx, hb, hml, hown, hts⟩ := S
  subst hv'
  exact va_get hx hb hts hin hown hK.1 (hI.one he) 0 rfl hc k hk (hts _ hl) hsame (v := tw_v ad v) (by rw [List.getElem?_map, hv]; rfl) hdg kk
theorem tw_getN (S : CallFix p m c cc nL s args tw_ws own) (hK : tw_K D s) (hI : tw_I D A ad w s.heap H locs) {ref C host : String} {T : u_T} {N ci index : Nat} (hin : ∀ x ∈ u_ws C T N, x ∈ tw_ws) (hc : vwCl[ci]? = some (C, T, N)) (k : Nat) (hk : k < N) (hl : Cond.fieldLinkNest own index ref (T k).2.1 (T k).2.2.1 host ∈ tw_nw) (hsame : ∀ x, s.fieldFound? (T k).1 (T k).2.1 (T k).2.2.1 = some x → s.fieldFound? ref (T k).2.1 (T k).2.2.1 = some x)
    {fs : List Value} (he : w t = some (.inr (ci, fs))) {v v' : Value} (hv : fs[k]? = some v) (hv' : tw_v ad v = v') (hdg : decode cc pc = .ok (.getfield index, 3))
    (kk : W p l e R s m args below meth c H locs cells slots Q (F0 m (pc + 3) ls (v' :: rest))) : W p l e R s m args below meth c H locs cells slots Q (F0 m pc ls (.ref (ad t) :: rest)) := by
  obtain ⟨hx, hb, hml, hown, hts⟩ := S
  subst hv'
  exact va_getN hx hb hts hin hown hK.1 (hI.one he) 0 rfl hc k hk (va_Nw.use rfl (hK.2.1 _ hl)) hsame (v := tw_v ad v) (by rw [List.getElem?_map, hv]; rfl) hdg kk
theorem tw_putV {fs : List Value} {k : Nat} (hl : k < fs.length) (v : Value) (j : Nat) : updV (vp_V (fs.map (tw_v ad))) k (tw_v ad v) j = vp_V ((fs.set k v).map (tw_v ad)) j := by
  rw [List.map_set]
  exact vp_updV_set (by simpa using hl) _ j
theorem tw_put (S : CallFix p m c cc nL s args tw_ws own) (hK : tw_K D s) (hI : tw_I D A ad w s.heap H locs) {ref C : String} {T : u_T} {N ci index : Nat} (hin : ∀ x ∈ u_ws C T N, x ∈ tw_ws) (ty0 : Nat → FieldType) (hty : ∀ k, k < N → parseFieldDescriptor (T k).2.2.1 = some (ty0 k)) (hnm : ∀ a, a < N → ∀ b, b < N → a ≠ b → (T a).2.1 ≠ (T b).2.1) (hc : vwCl[ci]? = some (C, T, N)) (k : Nat) (hk : k < N) (hl : Cond.fieldLink own index ref (T k).2.1 (T k).2.2.1 ∈ tw_ws) (hsame : ∀ x, s.fieldFound? (T k).1 (T k).2.1 (T k).2.2.1 = some x → s.fieldFound? ref (T k).2.1 (T k).2.2.1 = some x) (hfin : (T k).2.2.2 = false)
    {fs : List Value} (he : w t = some (.inr (ci, fs))) {ty : FieldType} {v v' : Value} (hv' : tw_v ad v = v') (hd : parseFieldDescriptor (T k).2.2.1 = some ty) (hn : narrow ty v' = v') (hfit : fits ty v' = true) (hlen : k < fs.length) (hdg : decode cc pc = .ok (.putfield index, 3))
    (kk : ∀ (H1 : Heap) (locs1 : List Loc), tw_I D A ad (va_up w t (some (.inr (ci, fs.set k v)))) s.heap H1 locs1 → W p l e R s m args below meth c H1 locs1 cells slots Q (F0 m (pc + 3) ls rest)) : W p l e R s m args below meth c H locs cells slots Q (F0 m pc ls (v' :: .ref (ad t) :: rest)) := by
  obtain ⟨hx, hb, hml, hown, hts⟩ := S
  subst hv'
  have hap := va_apart (own := own) hts hin ty0 hty hnm hK.1 hc
  obtain ⟨r, h1, cell, q1, q2, q3, q4⟩ := hI.1.1 t _ he
  have hr : r = (C, T, N) := Option.some.inj (h1.symm.trans hc)
  subst hr
  obtain ⟨hS, hfc, kC, hkC, hkind⟩ := hK.1.1 ci _ hc
  obtain ⟨cf, kf, fi, f, hi, hsl⟩ := hS k hk
  have hlay := hts _ (hin _ (u_in_lay hk))
  unfold u_lay at hlay
  rw [if_neg (by rw [hfin]; decide)] at hlay
  have hst := (u_facts hfc hkC (u_lays hts hin hk) hi).1
  have h6 := u_store hfc hkC hkind hlay hi hd hn hfit
  refine W.putK hx hb (f := f) ⟨hown, hts _ hl, ⟨_, _, _, hsame _ hi⟩, hst⟩ (by rw [q2]; exact h6) q1 q3 (by rw [hsl]; exact k2_hasslot (q4 k hk)) rfl rfl hdg fun H' e1 e2 e3 => ?_
  rw [hsl] at e1 ⊢
  exact kk H' _ (hI.set he ⟨_, hc, t_OB.to (V := updV (vp_V (fs.map (tw_v ad))) k (tw_v ad v)) ⟨_, e1, q2, q3, t_set q4 hap hk _⟩ (fun j _ => tw_putV hlen v j)⟩ e2 e3)
theorem tw_putN (S : CallFix p m c cc nL s args tw_ws own) (hK : tw_K D s) (hI : tw_I D A ad w s.heap H locs) {ref C host : String} {T : u_T} {N ci index : Nat} (hin : ∀ x ∈ u_ws C T N, x ∈ tw_ws) (ty0 : Nat → FieldType) (hty : ∀ k, k < N → parseFieldDescriptor (T k).2.2.1 = some (ty0 k)) (hnm : ∀ a, a < N → ∀ b, b < N → a ≠ b → (T a).2.1 ≠ (T b).2.1) (hc : vwCl[ci]? = some (C, T, N)) (k : Nat) (hk : k < N) (hl : Cond.fieldLinkNest own index ref (T k).2.1 (T k).2.2.1 host ∈ tw_nw) (hsame : ∀ x, s.fieldFound? (T k).1 (T k).2.1 (T k).2.2.1 = some x → s.fieldFound? ref (T k).2.1 (T k).2.2.1 = some x) (hfin : (T k).2.2.2 = false)
    {fs : List Value} (he : w t = some (.inr (ci, fs))) {ty : FieldType} {v v' : Value} (hv' : tw_v ad v = v') (hd : parseFieldDescriptor (T k).2.2.1 = some ty) (hn : narrow ty v' = v') (hfit : fits ty v' = true) (hlen : k < fs.length) (hdg : decode cc pc = .ok (.putfield index, 3))
    (kk : ∀ (H1 : Heap) (locs1 : List Loc), tw_I D A ad (va_up w t (some (.inr (ci, fs.set k v)))) s.heap H1 locs1 → W p l e R s m args below meth c H1 locs1 cells slots Q (F0 m (pc + 3) ls rest)) : W p l e R s m args below meth c H locs cells slots Q (F0 m pc ls (v' :: .ref (ad t) :: rest)) := by
  obtain ⟨hx, hb, hml, hown, hts⟩ := S
  subst hv'
  have hap := va_apart (own := own) hts hin ty0 hty hnm hK.1 hc
  obtain ⟨r, h1, cell, q1, q2, q3, q4⟩ := hI.1.1 t _ he
  have hr : r = (C, T, N) := Option.some.inj (h1.symm.trans hc)
  subst hr
  obtain ⟨hS, hfc, kC, hkC, hkind⟩ := hK.1.1 ci _ hc
  obtain ⟨cf, kf, fi, f, hi, hsl⟩ := hS k hk
  have hlay := hts _ (hin _ (u_in_lay hk))
  unfold u_lay at hlay
  rw [if_neg (by rw [hfin]; decide)] at hlay
  have hst := (u_facts hfc hkC (u_lays hts hin hk) hi).1
  have h6 := u_store hfc hkC hkind hlay hi hd hn hfit
  refine va_WputK hx hb (f := f) hown (va_Nw.use rfl (hK.2.1 _ hl)) (hsame _ hi) hst (by rw [q2]; exact h6) q1 q3 (by rw [hsl]; exact k2_hasslot (q4 k hk)) rfl rfl hdg fun H' e1 e2 e3 => ?_
  rw [hsl] at e1 ⊢
  exact kk H' _ (hI.set he ⟨_, hc, t_OB.to (V := updV (vp_V (fs.map (tw_v ad))) k (tw_v ad v)) ⟨_, e1, q2, q3, t_set q4 hap hk _⟩ (fun j _ => tw_putV hlen v j)⟩ e2 e3)
theorem tw_putF (S : CallFix p m c cc nL s args tw_ws own) (hK : tw_K D s) (hI : tw_I D A ad w s.heap H locs) {ref C : String} {T : u_T} {N ci index : Nat} (hin : ∀ x ∈ u_ws C T N, x ∈ tw_ws) (ty0 : Nat → FieldType) (hty : ∀ k, k < N → parseFieldDescriptor (T k).2.2.1 = some (ty0 k)) (hnm : ∀ a, a < N → ∀ b, b < N → a ≠ b → (T a).2.1 ≠ (T b).2.1) (hc : vwCl[ci]? = some (C, T, N)) (k : Nat) (hk : k < N) (hl : Cond.fieldLink own index ref (T k).2.1 (T k).2.2.1 ∈ tw_ws) (hsame : ∀ x, s.fieldFound? (T k).1 (T k).2.1 (T k).2.2.1 = some x → s.fieldFound? ref (T k).2.1 (T k).2.2.1 = some x) (hfin : (T k).2.2.2 = true) (hin2 : meth.name = "<init>") (hdecl : (T k).1 = own)
    {fs : List Value} (he : w t = some (.inr (ci, fs))) {ty : FieldType} {v v' : Value} (hv' : tw_v ad v = v') (hd : parseFieldDescriptor (T k).2.2.1 = some ty) (hn : narrow ty v' = v') (hfit : fits ty v' = true) (hlen : k < fs.length) (hdg : decode cc pc = .ok (.putfield index, 3))
    (kk : ∀ (H1 : Heap) (locs1 : List Loc), tw_I D A ad (va_up w t (some (.inr (ci, fs.set k v)))) s.heap H1 locs1 → W p l e R s m args below meth c H1 locs1 cells slots Q (F0 m (pc + 3) ls rest)) : W p l e R s m args below meth c H locs cells slots Q (F0 m pc ls (v' :: .ref (ad t) :: rest)) := by
  obtain ⟨hx, hb, hml, hown, hts⟩ := S
  subst hv'
  have hap := va_apart (own := own) hts hin ty0 hty hnm hK.1 hc
  obtain ⟨r, h1, cell, q1, q2, q3, q4⟩ := hI.1.1 t _ he
  have hr : r = (C, T, N) := Option.some.inj (h1.symm.trans hc)
  subst hr
  obtain ⟨hS, hfc, kC, hkC, hkind⟩ := hK.1.1 ci _ hc
  obtain ⟨cf, kf, fi, f, hi, hsl⟩ := hS k hk
  have hlay := hts _ (hin _ (u_in_lay hk))
  unfold u_lay at hlay
  rw [if_pos hfin] at hlay
  have hst := (u_facts hfc hkC (u_lays hts hin hk) hi).1
  have hcf : m.cls = cf := by
    obtain ⟨_, _, c', _, _, _, -, -, hf', -, -, -, hown2, -⟩ := Cond.laysFinal_spec hlay
    have e1 : c' = cf := by have := hi.symm.trans hf'; simp at this; exact this.1.symm
    rw [hdecl] at hown2
    rw [← e1]; exact Option.some.inj (hown.symm.trans hown2)
  have h6 := u_fits hfc hkC hkind (Or.inr hlay) hi hd hn hfit
  refine W.putFinK hx hb hown (hts _ hl) (hsame _ hi) hst hcf hin2 (by rw [q2]; exact h6) q1 q3 (by rw [hsl]; exact k2_hasslot (q4 k hk)) rfl rfl hdg fun H' e1 e2 e3 => ?_
  rw [hsl] at e1 ⊢
  exact kk H' _ (hI.set he ⟨_, hc, t_OB.to (V := updV (vp_V (fs.map (tw_v ad))) k (tw_v ad v)) ⟨_, e1, q2, q3, t_set q4 hap hk _⟩ (fun j _ => tw_putV hlen v j)⟩ e2 e3)
-- arrays
theorem tw_iald (S : CallFix p m c cc nL s args tw_ws own) (hK : tw_K D s) (hI : tw_I D A ad w s.heap H locs) {n : Nat} {f : Nat → Int32} (he : w t = some (.inl (0, n, .inl f))) {i : Int32} (hin : vp_in i n) (hdg : decode cc pc = .ok (.iaload, 1))
    (kk : W p l e R s m args below meth c H locs cells slots Q (F0 m (pc + 1) ls (.int (f i.toNatClampNeg) :: rest))) : W p l e R s m args below meth c H locs cells slots Q (F0 m pc ls (.int i :: .ref (ad t) :: rest)) :=
  va_iald S.1 S.2.1 hK.1 (hI.one he) 0 0 rfl rfl hin hdg kk
theorem tw_lald (S : CallFix p m c cc nL s args tw_ws own) (hK : tw_K D s) (hI : tw_I D A ad w s.heap H locs) {n : Nat} {f : Nat → Int64} (he : w t = some (.inl (1, n, .inr (.inl f)))) {i : Int32} (hin : vp_in i n) (hdg : decode cc pc = .ok (.laload, 1))
    (kk : W p l e R s m args below meth c H locs cells slots Q (F0 m (pc + 1) ls (.long (f i.toNatClampNeg) :: rest))) : W p l e R s m args below meth c H locs cells slots Q (F0 m pc ls (.int i :: .ref (ad t) :: rest)) :=
  va_lald S.1 S.2.1 hK.1 (hI.one he) 0 1 rfl rfl hin hdg kk
theorem tw_zald (S : CallFix p m c cc nL s args tw_ws own) (hK : tw_K D s) (hI : tw_I D A ad w s.heap H locs) {n : Nat} {f : Nat → Int32} (he : w t = some (.inl (2, n, .inl f))) {i : Int32} (hin : vp_in i n) (hdg : decode cc pc = .ok (.baload, 1))
    (kk : W p l e R s m args below meth c H locs cells slots Q (F0 m (pc + 1) ls (.int (f i.toNatClampNeg) :: rest))) : W p l e R s m args below meth c H locs cells slots Q (F0 m pc ls (.int i :: .ref (ad t) :: rest)) :=
  va_zald S.1 S.2.1 hK.1 (hI.one he) 0 2 rfl rfl hin hdg kk
theorem tw_aald (S : CallFix p m c cc nL s args tw_ws own) (hK : tw_K D s) (hI : tw_I D A ad w s.heap H locs) {n k : Nat} {C : String} {f : Nat → Option Nat} (he : w t = some (.inl (k, n, .inr (.inr (.inr (.inr f)))))) (hk : (tw_tys D)[k]? = some (D.2 k, .object C)) {i : Int32} (hin : vp_in i n) {v : Value} (hv : va_rf ((f i.toNatClampNeg).map ad) = v) (hdg : decode cc pc = .ok (.aaload, 1))
    (kk : W p l e R s m args below meth c H locs cells slots Q (F0 m (pc + 1) ls (v :: rest))) : W p l e R s m args below meth c H locs cells slots Q (F0 m pc ls (.int i :: .ref (ad t) :: rest)) := by
  subst hv
  exact va_aldq S.1 S.2.1 hK.1 (hI.one he) 0 k rfl hk hin hdg kk
theorem tw_alen (S : CallFix p m c cc nL s args tw_ws own) (hK : tw_K D s) (hI : tw_I D A ad w s.heap H locs) {k : Nat} {x : vp_A} {ty : FieldType} (he : w t = some (.inl (k, x))) (hk : (tw_tys D)[k]? = some (D.2 k, ty)) {v : Int32} (hv : nI x.1 = v) (hdg : decode cc pc = .ok (.arraylength, 1))
    (kk : W p l e R s m args below meth c H locs cells slots Q (F0 m (pc + 1) ls (.int v :: rest))) : W p l e R s m args below meth c H locs cells slots Q (F0 m pc ls (.ref (ad t) :: rest)) :=
  va_alen S.1 S.2.1 hK.1 (hI.one he) 0 k rfl hk hv hdg kk
theorem tw_iast (S : CallFix p m c cc nL s args tw_ws own) (hK : tw_K D s) (hI : tw_I D A ad w s.heap H locs) {n : Nat} {f : Nat → Int32} (he : w t = some (.inl (0, n, .inl f))) {i x : Int32} (hin : vp_in i n) (hdg : decode cc pc = .ok (.iastore, 1))
    (kk : ∀ (H1 : Heap) (locs1 : List Loc), tw_I D A ad (va_up w t (some (.inl (0, n, .inl (va_up f i.toNatClampNeg x))))) s.heap H1 locs1 → W p l e R s m args below meth c H1 locs1 cells slots Q (F0 m (pc + 1) ls rest)) : W p l e R s m args below meth c H locs cells slots Q (F0 m pc ls (.int x :: .int i :: .ref (ad t) :: rest)) := by
  refine W.iast S.1 S.2.1 (hI.1.1 t _ he) ((hK.1.2 0 _ rfl).1 n (fun j => .int (f j))) (fun q => by cases q) (by show ¬ (i < 0 ∨ (arrV _ _ _).slots.size ≤ _); rw [arrV_size]; exact hin) rfl rfl hdg fun H1 e z oq => ?_
  refine kk H1 _ (hI.set he ?_ z oq)
  show H1[ad t]? = some (arrV (D.2 0) n (fun j => .int (va_up f i.toNatClampNeg x j)))
  rw [e]
  show some ((arrV (D.2 0) n (fun j => .int (f j))).setSlot _ _) = _
  rw [arrV_store]
  congr 2
  funext q
  by_cases hq : q = i.toNatClampNeg
  · subst hq
    simp [updV, va_up]
  · simp [updV, va_up, hq]
theorem tw_zast (S : CallFix p m c cc nL s args tw_ws own) (hK : tw_K D s) (hI : tw_I D A ad w s.heap H locs) {n : Nat} {f : Nat → Int32} (he : w t = some (.inl (2, n, .inl f))) {i x : Int32} (hin : vp_in i n) (hx0 : narrow .boolean (.int x) = .int x) (hdg : decode cc pc = .ok (.bastore, 1))
    (kk : ∀ (H1 : Heap) (locs1 : List Loc), tw_I D A ad (va_up w t (some (.inl (2, n, .inl (va_up f i.toNatClampNeg x))))) s.heap H1 locs1 → W p l e R s m args below meth c H1 locs1 cells slots Q (F0 m (pc + 1) ls rest)) : W p l e R s m args below meth c H locs cells slots Q (F0 m pc ls (.int x :: .int i :: .ref (ad t) :: rest)) := by
  refine W.zast S.1 S.2.1 (hI.1.1 t _ he) ((hK.1.2 2 _ rfl).1 n (fun j => .int (f j))) (fun q => by cases q) (by show ¬ (i < 0 ∨ (arrV _ _ _).slots.size ≤ _); rw [arrV_size]; exact hin) rfl rfl hdg fun H1 e z oq => ?_
  refine kk H1 _ (hI.set he ?_ z oq)
  show H1[ad t]? = some (arrV (D.2 2) n (fun j => .int (va_up f i.toNatClampNeg x j)))
  rw [e, hx0]
  show some ((arrV (D.2 2) n (fun j => .int (f j))).setSlot _ _) = _
  rw [arrV_store]
  congr 2
  funext q
  by_cases hq : q = i.toNatClampNeg
  · subst hq
    simp [updV, va_up]
  · simp [updV, va_up, hq]
theorem tw_last (S : CallFix p m c cc nL s args tw_ws own) (hK : tw_K D s) (hI : tw_I D A ad w s.heap H locs) {n : Nat} {f : Nat → Int64} (he : w t = some (.inl (1, n, .inr (.inl f)))) {i : Int32} {x : Int64} (hin : vp_in i n) (hdg : decode cc pc = .ok (.lastore, 1))
    (kk : ∀ (H1 : Heap) (locs1 : List Loc), tw_I D A ad (va_up w t (some (.inl (1, n, .inr (.inl (va_up f i.toNatClampNeg x)))))) s.heap H1 locs1 → W p l e R s m args below meth c H1 locs1 cells slots Q (F0 m (pc + 1) ls rest)) : W p l e R s m args below meth c H locs cells slots Q (F0 m pc ls (.long x :: .int i :: .ref (ad t) :: rest)) := by
  refine W.last S.1 S.2.1 (hI.1.1 t _ he) ((hK.1.2 1 _ rfl).1 n (fun j => .long (f j))) (fun q => by cases q) (by show ¬ (i < 0 ∨ (arrV _ _ _).slots.size ≤ _); rw [arrV_size]; exact hin) rfl rfl hdg fun H1 e z oq => ?_
  refine kk H1 _ (hI.set he ?_ z oq)
  show H1[ad t]? = some (arrV (D.2 1) n (fun j => .long (va_up f i.toNatClampNeg x j)))
  rw [e]
  show some ((arrV (D.2 1) n (fun j => .long (f j))).setSlot _ _) = _
  rw [arrV_store]
  congr 2
  funext q
  by_cases hq : q = i.toNatClampNeg
  · subst hq
    simp [updV, va_up]
  · simp [updV, va_up, hq]
/-- a reference (or null) into a row of references: va_Any says that it may lie there -/
theorem tw_aast (S : CallFix p m c cc nL s args tw_ws own) (hK : tw_K D s) (hI : tw_I D A ad w s.heap H locs) {n k : Nat} {C : String} {f : Nat → Option Nat} (he : w t = some (.inl (k, n, .inr (.inr (.inr (.inr f)))))) (hk : (tw_tys D)[k]? = some (D.2 k, .object C)) {i : Int32} (hin : vp_in i n) (o : Option Nat) {v : Value} (hv : va_rf (o.map ad) = v) (hr : ∀ y, o = some y → va_Any C s H (ad y)) (hdg : decode cc pc = .ok (.aastore, 1))
    (kk : ∀ (H1 : Heap) (locs1 : List Loc), tw_I D A ad (va_up w t (some (.inl (k, n, .inr (.inr (.inr (.inr (va_up f i.toNatClampNeg o)))))))) s.heap H1 locs1 → W p l e R s m args below meth c H1 locs1 cells slots Q (F0 m (pc + 1) ls rest)) : W p l e R s m args below meth c H locs cells slots Q (F0 m pc ls (v :: .int i :: .ref (ad t) :: rest)) := by
  have hlt : i.toNatClampNeg < n := Nat.not_le.mp fun q => hin (Or.inr q)
  have h0 : ¬ i < 0 := fun q => hin (Or.inl q)
  subst hv
  have fin : ∀ (o : Option Nat) (H1 : Heap), H1[ad t]? = some ((arrV (D.2 k) n (fun j => va_rf ((f j).map ad))).setSlot i.toNatClampNeg (va_rf (o.map ad))) → va_at D.1 vwCl (ad t, tw_e D ad (.inl (k, n, .inr (.inr (.inr (.inr (va_up f i.toNatClampNeg o))))))) H1 := by
    intro o H1 e
    show H1[ad t]? = some (arrV (D.2 k) n (fun j => va_rf ((va_up f i.toNatClampNeg o j).map ad)))
    rw [e, arrV_store]
    congr 2
    funext q
    by_cases hq : q = i.toNatClampNeg
    · subst hq
      simp [updV, va_up]
    · simp [updV, va_up, hq]
  cases o with
  | none =>
    refine va_WaastN (C := C) S.1 S.2.1 (hI.1.1 t _ he) ((hK.1.2 k _ hk).1 n (fun j => va_rf ((f j).map ad))) (fun h => by cases h) (by show ¬ (i < 0 ∨ (arrV _ _ _).slots.size ≤ _); rw [arrV_size]; exact hin) rfl rfl hdg fun H1 e z oq => ?_
    exact kk H1 _ (hI.set he (fin none H1 e) z oq)
  | some y =>
    obtain ⟨cellV, g1, g3, ⟨kC, hkC⟩, hasg⟩ := hr y rfl
    obtain ⟨kA, comp, k1, k2, k3, -⟩ := (hK.1.2 k _ hk).2
    obtain ⟨kE, hkE, -⟩ := Vm.findClass_spec k3
    refine W.aast S.1 S.2.1 (hI.1.1 t _ he) (fun q h => by cases h) (fun h => by cases h) k1 k2 rfl hkE ⟨h0, by show _ < (arrV _ _ _).slots.size; rw [arrV_size]; exact hlt⟩ g1 (fun q h => by rw [h] at g3; cases g3) hkC (hasg _ k3) rfl rfl hdg fun H1 e z oq => ?_
    exact kk H1 _ (hI.set he (fin (some y) H1 e) z oq)
theorem tw_any (hK : tw_K D s) (hI : tw_I D A ad w s.heap H locs) {ci : Nat} {fs : List Value} {q : vw_C} {E : String} (he : w t = some (.inr (ci, fs))) (hc : vwCl[ci]? = some q) (hcast : Cond.castable q.1 E ∈ tw_nw ∨ q.1 = E) : va_Any E s H (ad t) := by
  refine va_rAny hK.1 (hI.one he) (q0 := 0) rfl hc (fun comp c0 h1 h2 => ?_)
  rcases hcast with hc | hc
  · obtain ⟨c1, t1, f1, f2, f3⟩ := Cond.castable_spec (va_Nw.use (A := #[]) rfl (hK.2.1 _ hc))
    cases h1.symm.trans f2
    cases h2.symm.trans f1
    exact f3
  · rw [hc] at h2
    cases h1.symm.trans h2
    exact va_asg _ _
end TW
