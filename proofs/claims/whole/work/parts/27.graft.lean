/-! fields that a handing doesn't look at may hold anything: refused, out, and the frames of the reference's machine -/
theorem sI_row (σ : Sg) (f i : Nat) (v : Int32) : (sI σ f i v).1 f = va_up (σ.1 f) i v := va_up_self _ _ _
def grB (f : Nat) : Bool := f == 15 || f == 20 || f == 21 || f == 22 || f == 23 || f == 24 || f == 25
def gr (σ : Sg) (F : Nat → Nat → Int32) : Sg := (fun f => cond (grB f) (F f) (σ.1 f), σ.2)
theorem gr_off {σ : Sg} {F : Nat → Nat → Int32} {f : Nat} (h : grB f = false) : (gr σ F).1 f = σ.1 f := by
  show cond (grB f) (F f) (σ.1 f) = _
  rw [h]
  rfl
theorem gr_on {σ : Sg} {F : Nat → Nat → Int32} {f : Nat} (h : grB f = true) : (gr σ F).1 f = F f := by
  show cond (grB f) (F f) (σ.1 f) = _
  rw [h]
  rfl
theorem gr_sI {σ : Sg} {F : Nat → Nat → Int32} {f : Nat} (i : Nat) (v : Int32) (h : grB f = false) : sI (gr σ F) f i v = gr (sI σ f i v) F := by
  refine Prod.ext (funext fun g => ?_) rfl
  show va_up (gr σ F).1 f (va_up ((gr σ F).1 f) i v) g = cond (grB g) (F g) ((sI σ f i v).1 g)
  by_cases hg : g = f
  · subst hg
    rw [va_up_self, gr_off h, h]
    exact (sI_row σ g i v).symm
  · rw [va_up_ne _ _ hg, sI_ne _ _ _ hg]
    rfl
theorem gr_sI2 {σ : Sg} {F : Nat → Nat → Int32} {f : Nat} (i : Nat) (v : Int32) (h : grB f = true) : sI (gr σ F) f i v = gr σ (va_up F f (va_up (F f) i v)) := by
  refine Prod.ext (funext fun g => ?_) rfl
  show va_up (gr σ F).1 f (va_up ((gr σ F).1 f) i v) g = cond (grB g) (va_up F f (va_up (F f) i v) g) (σ.1 g)
  by_cases hg : g = f
  · subst hg
    rw [va_up_self, gr_on h, h, va_up_self]
    rfl
  · rw [va_up_ne _ _ hg, va_up_ne _ _ hg]
    rfl
theorem gr_id (σ : Sg) : gr σ σ.1 = σ := by
  refine Prod.ext (funext fun g => ?_) rfl
  show cond (grB g) (σ.1 g) (σ.1 g) = σ.1 g
  cases grB g <;> rfl
theorem gr_gr (σ : Sg) (F G : Nat → Nat → Int32) : gr (gr σ F) G = gr σ G := by
  refine Prod.ext (funext fun g => ?_) rfl
  show cond (grB g) (G g) (cond (grB g) (F g) (σ.1 g)) = cond (grB g) (G g) (σ.1 g)
  cases grB g <;> rfl
section GR
variable {σ : Sg} {F : Nat → Nat → Int32}
theorem gr_turn {k : Nat} : turnF (gr σ F) k = gr (turnF σ k) F := by
  unfold turnF
  show (if σ.1 2 k = 2 then sC (sC (gr σ F) (3 * k) (σ.2 (3 * k + 1))) (3 * k + 1) (σ.2 (3 * k)) else if σ.1 2 k = 3 then sC (sC (gr σ F) (3 * k) (σ.2 (3 * k + 2))) (3 * k + 2) (σ.2 (3 * k)) else gr σ F) = _
  by_cases c : σ.1 2 k = 2
  · rw [if_pos c, if_pos c]; rfl
  · rw [if_neg c, if_neg c]
    by_cases c3 : σ.1 2 k = 3
    · rw [if_pos c3, if_pos c3]; rfl
    · rw [if_neg c3, if_neg c3]
theorem gr_bump (σ : Sg) (F : Nat → Nat → Int32) (κ : Int32) (k : Nat) : ∀ z : Nat, bumpN (gr σ F) κ k z = gr (bumpN σ κ k z) F
  | 0 => rfl
  | z + 1 => by
    show bump1 (bumpN (gr σ F) κ k z) κ (3 * k + z) = _
    rw [gr_bump σ F κ k z]
    rfl
theorem gr_low {k : Nat} : stampLowF (gr σ F) k = gr (stampLowF σ k) F := by
  unfold stampLowF
  show (if isNumF (σ.1 1 k) = 0 then sI (gr σ F) 3 k (σ.1 3 k + addS (σ.1 1 k)) else bumpN (sI (gr σ F) 3 k (σ.1 3 k + addS (σ.1 1 k))) (σ.1 1 k) k (szS σ k)) = _
  rw [gr_sI _ _ rfl]
  by_cases c : isNumF (σ.1 1 k) = 0
  · rw [if_pos c, if_pos c]
  · rw [if_neg c, if_neg c, gr_bump]
theorem gr_step {f : Sg → Nat → Sg} (hf : ∀ (σ : Sg) (q : Nat), f (gr σ F) q = gr (f σ q) F) (σ : Sg) (a : Nat) : stepF f (gr σ F) a = gr (stepF f σ a) F := by
  unfold stepF
  show (if lg_cmp (σ.2 a) (-1) = 0 then gr σ F else f (gr σ F) (ix (σ.2 a).toInt32)) = _
  by_cases c : lg_cmp (σ.2 a) (-1) = 0
  · rw [if_pos c, if_pos c]
  · rw [if_neg c, if_neg c, hf]
theorem gr_each {f : Sg → Nat → Sg} (hf : ∀ (σ : Sg) (q : Nat), f (gr σ F) q = gr (f σ q) F) (k : Nat) : ∀ (y i : Nat) (σ : Sg), eachF f k y i (gr σ F) = gr (eachF f k y i σ) F
  | 0, _, _ => rfl
  | y + 1, i, σ => by
    show eachF f k y (i + 1) (stepF f (gr σ F) (3 * k + i)) = _
    rw [gr_step hf, gr_each hf k y (i + 1)]
    rfl
theorem gr_row {k : Nat} : stampRowF (gr σ F) k = gr (stampRowF σ k) F := by
  unfold stampRowF
  show (if isThF (σ.1 1 k) = 0 then stampLowF (gr σ F) k else eachF stampLowF k (szS σ k) 0 (stampLowF (gr σ F) k)) = _
  rw [gr_low]
  by_cases c : isThF (σ.1 1 k) = 0
  · rw [if_pos c, if_pos c]
  · rw [if_neg c, if_neg c, gr_each (fun σ q => gr_low)]
theorem gr_all {k : Nat} : stampAllF (gr σ F) k = gr (stampAllF σ k) F := by
  unfold stampAllF
  show (if 11 ≤ σ.1 1 k then eachF stampRowF k (szS σ k) 0 (gr σ F) else stampRowF (gr σ F) k) = _
  by_cases c : 11 ≤ σ.1 1 k
  · rw [if_pos c, if_pos c, gr_each (fun σ q => gr_row)]
  · rw [if_neg c, if_neg c, gr_row]
theorem gr_wk {d : Nat} : wkF (gr σ F) d = gr (wkF σ d) F := by
  unfold wkF
  show sI (sI (gr σ F) 11 d (σ.1 11 d + 1)) 26 0 (σ.1 26 0 + 1) = _
  rw [gr_sI _ _ rfl, gr_sI _ _ rfl]
theorem gr_give {d t : Nat} : giveF (gr σ F) d t = gr (giveF σ d t) F := by
  unfold giveF
  show sI (sI (sI (sI (gr σ F) 12 d (σ.1 12 d + 1)) 14 d 1) 13 d (nI t)) 19 0 (σ.1 19 0 + 1) = _
  rw [gr_sI _ _ rfl, gr_sI _ _ rfl, gr_sI _ _ rfl, gr_sI _ _ rfl]
theorem gr_act {sp : Sg → Nat → Sg} (hf : ∀ (σ : Sg) (q : Nat), sp (gr σ F) q = gr (sp σ q) F) {d t : Nat} : actF sp d (gr σ F) t = ((actF sp d σ t).1, gr (actF sp d σ t).2 F) := by
  unfold actF
  show (if σ.1 7 d = 0 then (some t, sI (gr σ F) 9 d (σ.1 9 d + placesF σ t)) else if σ.1 7 d = 1 then (some t, turnF (gr σ F) t) else if σ.1 7 d = 2 then (some t, stampAllF (gr σ F) t) else if σ.1 7 d = 3 then (some t, if isThF (σ.1 1 t) = 0 then gr σ F else eachF sp t (szS σ t) 0 (gr σ F)) else (dec (σ.1 10 d), sI (gr σ F) 10 d (nI t))) = _
  rw [gr_sI _ _ rfl, gr_sI _ _ rfl, gr_turn, gr_all, gr_each hf]
  by_cases c0 : σ.1 7 d = 0
  · simp only [if_pos c0]
  · by_cases c1 : σ.1 7 d = 1
    · simp only [if_neg c0, if_pos c1]
    · by_cases c2 : σ.1 7 d = 2
      · simp only [if_neg c0, if_neg c1, if_pos c2]
      · by_cases c3 : σ.1 7 d = 3
        · simp only [if_neg c0, if_neg c1, if_neg c2, if_pos c3]
          by_cases cT : isThF (σ.1 1 t) = 0
          · simp only [if_pos cT]
          · simp only [if_neg cT]
        · simp only [if_neg c0, if_neg c1, if_neg c2, if_neg c3]
theorem gr_meet {sp : Sg → Nat → Sg} (hf : ∀ (σ : Sg) (q : Nat), sp (gr σ F) q = gr (sp σ q) F) {d t : Nat} : meetF sp d (gr σ F) t = ((meetF sp d σ t).1, gr (meetF sp d σ t).2 F) := by
  unfold meetF
  show (if goesF (σ.1 1 t) (σ.1 6 d) = 0 then (if σ.1 8 d = 0 then (if σ.1 14 d = 0 then (none, giveF (gr σ F) d t) else (some t, gr σ F)) else (some t, gr σ F)) else actF sp d (wkF (gr σ F) d) t) = _
  rw [gr_give, gr_wk, gr_act hf]
  by_cases c0 : goesF (σ.1 1 t) (σ.1 6 d) = 0
  · simp only [if_pos c0]
    by_cases c1 : σ.1 8 d = 0
    · simp only [if_pos c1]
      by_cases c2 : σ.1 14 d = 0
      · simp only [if_pos c2]
      · simp only [if_neg c2]
    · simp only [if_neg c1]
  · simp only [if_neg c0]
theorem gr_go {sp : Sg → Nat → Sg} (hf : ∀ (σ : Sg) (q : Nat), sp (gr σ F) q = gr (sp σ q) F) (r : Nat) : ∀ (m a : Nat) (o : Option Nat) (σ : Sg), goO sp r m a o (gr σ F) = ((goO sp r m a o σ).1, gr (goO sp r m a o σ).2 F)
  | 0, _, _, _ => rfl
  | _ + 1, _, none, _ => rfl
  | m + 1, a, some t, σ => by
    unfold goO
    rw [gr_meet hf]
    show (if a < dcS σ r then goO sp r m (a + 1) (meetF sp (4 * r + a) σ t).1 (gr (meetF sp (4 * r + a) σ t).2 F) else goO sp r m (a + 1) (some t) (gr σ F)) = _
    rw [gr_go hf r m (a + 1), gr_go hf r m (a + 1)]
    by_cases c : a < dcS σ r
    · simp only [if_pos c]
    · simp only [if_neg c]
theorem gr_pass (F : Nat → Nat → Int32) : ∀ (n r : Nat) (σ : Sg) (t : Nat), passF n r (gr σ F) t = ((passF n r σ t).1, gr (passF n r σ t).2 F)
  | 0, _, _, _ => rfl
  | n + 1, r, σ, t => by
    show goO (fun σ q => (passF n (r + 1) σ q).2) r 4 0 (some t) (gr σ F) = _
    rw [gr_go (fun σ q => by rw [gr_pass F n (r + 1) σ q])]
    rfl
end GR
theorem pass_keep (n r : Nat) (σ : Sg) (t : Nat) {f : Nat} (h : grB f = true) : (passF n r σ t).2.1 f = σ.1 f := by
  have e := gr_pass σ.1 n r σ t
  rw [gr_id] at e
  rw [e]
  exact gr_on h
theorem pass_acc (n r : Nat) (σ : Sg) (t : Nat) : passF n r (acc σ) t = ((passF n r σ t).1, acc (passF n r σ t).2) := by
  have e1 : acc σ = gr σ (acc σ).1 := by
    have := gr_id (acc σ)
    rw [show acc σ = sI σ 15 0 0 from rfl] at this ⊢
    refine Prod.ext (funext fun g => ?_) rfl
    show (sI σ 15 0 0).1 g = cond (grB g) ((sI σ 15 0 0).1 g) (σ.1 g)
    cases hg : grB g with
    | true => rfl
    | false => exact sI_ne _ _ _ (fun e => by subst e; cases hg)
  rw [e1, gr_pass]
  refine Prod.ext rfl ?_
  show gr (passF n r σ t).2 (acc σ).1 = acc (passF n r σ t).2
  refine Prod.ext (funext fun g => ?_) rfl
  show cond (grB g) ((sI σ 15 0 0).1 g) ((passF n r σ t).2.1 g) = (sI (passF n r σ t).2 15 0 0).1 g
  by_cases h15 : g = 15
  · subst h15
    show (sI σ 15 0 0).1 15 = _
    rw [sI_row, sI_row, pass_keep n r σ t (f := 15) rfl]
  · rw [sI_ne _ _ _ h15, sI_ne _ _ _ h15]
    cases hg : grB g with
    | true => exact (pass_keep n r σ t hg).symm
    | false => rfl
-- the marks of a handing are wiped
def zF (σ : Sg) (n : Nat) : Sg := (va_up σ.1 14 (fun d => if d < n then 0 else σ.1 14 d), σ.2)
theorem zF_0 (σ : Sg) : zF σ 0 = σ := by
  refine Prod.ext (funext fun g => ?_) rfl
  show va_up σ.1 14 _ g = σ.1 g
  by_cases hg : g = 14
  · subst hg
    rw [va_up_self]
    funext d
    rw [if_neg (Nat.not_lt_zero d)]
  · rw [va_up_ne _ _ hg]
theorem zF_ne (σ : Sg) (n : Nat) {g : Nat} (h : g ≠ 14) : (zF σ n).1 g = σ.1 g := va_up_ne _ _ h
theorem zF_at (σ : Sg) (n d : Nat) : (zF σ n).1 14 d = if d < n then 0 else σ.1 14 d := by
  unfold zF
  simp only [va_up_self]
theorem zF_s (σ : Sg) (n : Nat) : sI (zF σ n) 14 n 0 = zF σ (n + 1) := by
  refine Prod.ext (funext fun g => ?_) rfl
  by_cases hg : g = 14
  · subst hg
    funext d
    rw [zF_at]
    by_cases hd : d = n
    · subst hd
      rw [sI_at, if_pos (Nat.lt_succ_self d)]
    · rw [sI_off _ _ _ hd, zF_at]
      by_cases h1 : d < n
      · rw [if_pos h1, if_pos (by omega)]
      · rw [if_neg h1, if_neg (by omega)]
  · rw [sI_ne _ _ _ hg, zF_ne _ _ hg, zF_ne _ _ hg]
theorem zF_sI (σ : Sg) (n f i : Nat) (v : Int32) (hf : f ≠ 14) : sI (zF σ n) f i v = zF (sI σ f i v) n := by
  refine Prod.ext (funext fun g => ?_) rfl
  by_cases hg : g = 14
  · subst hg
    rw [sI_ne _ _ _ (Ne.symm hf)]
    funext d
    rw [zF_at, zF_at, sI_ne _ _ _ (Ne.symm hf)]
  · rw [zF_ne _ _ hg]
    by_cases hgf : g = f
    · subst hgf
      rw [sI_row, sI_row, zF_ne _ _ hg]
    · rw [sI_ne _ _ _ hgf, sI_ne _ _ _ hgf, zF_ne _ _ hg]
theorem INV_z {σ : Sg} {B : Nat} (h : INV σ B) : INV (zF σ 32) B := by
  obtain ⟨hM, hKd, hT, hH, hO, hU, hV, hB, h6⟩ := h
  refine ⟨hM, hKd, hT, hH, hO, hU, fun r d hr hd => ?_, hB, h6⟩
  rw [zF_at, if_pos (by omega)]
  exact ⟨Or.inl rfl, fun _ => rfl⟩
def encO (o : Option Nat) : Int32 := match o with
  | none => -1
  | some t => nI t
def hand1 (σ : Sg) : Sg := zF (sI (acc σ) 26 0 0) 32
def handOK (σ : Sg) (k r : Nat) : Int32 × Sg := ((passF (8 - r) r (hand1 σ) k).2.1 26 0, sI (passF (8 - r) r (hand1 σ) k).2 20 0 (encO (passF (8 - r) r (hand1 σ) k).1))
theorem hand1_acc (σ : Sg) : hand1 σ = acc (sI (zF σ 32) 26 0 0) := by
  unfold hand1 acc
  rw [zF_sI _ _ _ _ _ (by decide), ← sI_comm σ (show 26 ≠ 15 by decide), zF_sI _ _ _ _ _ (by decide)]
theorem INV_h1 {σ : Sg} {B : Nat} (h : INV σ B) : INV (sI (zF σ 32) 26 0 0) B := (Kp_sI (f := 26) (by decide) (INV_z h)).1
theorem hand_X (σ : Sg) (k r : Nat) : handOK σ k r = ((passF (8 - r) r (sI (zF σ 32) 26 0 0) k).2.1 26 0, acc (sI (passF (8 - r) r (sI (zF σ 32) 26 0 0) k).2 20 0 (encO (passF (8 - r) r (sI (zF σ 32) 26 0 0) k).1))) := by
  unfold handOK
  rw [hand1_acc, pass_acc]
  refine Prod.ext rfl ?_
  show sI (sI _ 15 0 0) 20 0 _ = sI (sI _ 20 0 _) 15 0 0
  rw [sI_comm _ (show 15 ≠ 20 by decide)]
