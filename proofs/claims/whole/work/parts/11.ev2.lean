/-! what a method's frame knows; Ev; contracts -/
def lw_good : List Cond := lw_tbl.filter goodWord
theorem lw_gi (i : Nat) {w : Cond} (h : lw_tbl[i]? = some w) (hg : goodWord w = true) : w ∈ lw_good := List.mem_filter.mpr ⟨List.mem_of_getElem? h, hg⟩
theorem lw_gg : GoodIn lw_good lw_good := fun w h => ⟨h, good_of_word (List.mem_filter.mp h).2⟩
theorem lw_gw {w : Cond} (h : w ∈ lw_good) : (w.onTables && w.keeps) = true ∨ ∃ ty, w = .arrayClass ty := good_of_word (List.mem_filter.mp h).2
def ev_ws (y : Mth) : List Cond := Cond.code y.2.1 y.2.2.1 y.2.2.2.1 y.2.2.2.2 :: lw_good
def ev_rm (d : Nat) : Room := { frames := d, cells := 0, slots := 0, locals := 100 * d }
def zn : Nat → String
  | 0 => "NEAREST"
  | 1 => "SIZE_BODIES"
  | _ => "MARK_BODIES"
def zt : Nat → Nat → Int
  | 0, i => ([0, 0, 1, 1, 0, 4] : List Int).getD i 0
  | 1, i => ([10, 11, 12, 11, 13, 14] : List Int).getD i 0
  | _, i => ([20, 21, 24, 22, 23, 23] : List Int).getD i 0
def Zs (g : Gw) (U : State) (H : Heap) : Prop := ∀ j, j < 3 → va_Z RX4 (zn j) "[I" (.ref (g.2.2 (NC + j))) (Ag g) U H ∧ va_T .int (g.2.2 (NC + j)) 6 (fun i => .int (Int32.ofInt (zt j i))) (Ag g) U H
/-- the law's script: its length, its numbers -/
abbrev Scr : Type := Nat × (Nat → Int)
def w0 : Scr := (0, fun _ => 0)
def Cx (w : Scr) (g : Gw) (y : Mth) (p : Program) (s : State) (m : MethodId) (args : Array Value) (c : Code) : Prop :=
  p.tables.exec = Jvm.exec ∧ c.code = y.2.2.1 ∧ c.maxLocals = y.2.2.2.1 ∧ s.vm.findClass y.1 = some m.cls ∧ (∀ w ∈ lw_good, w.before args s = true) ∧ va_K g.1 vwCl (tyl g) s ∧ Zs g s s.heap ∧ Ij g ∧
  (y.1 = RL → va_X (g.2.2 66) w.1 (fun j => Int32.ofInt (w.2 j)) s s.heap ∧ g.2.2 66 < s.heap.size ∧ ¬ Ag g (g.2.2 66))
def Wd (g : Gw) (σ : St) (s : State) (H : Heap) (locs : List Loc) : Prop := va_P g.1 vwCl (wl g σ) H ∧ va_S (Ag g) s.heap H locs
def Fit (R : Room) (d cells slots : Nat) : Prop := d ≤ R.frames ∧ 100 * d ≤ R.locals ∧ cells ≤ R.cells ∧ slots ≤ R.slots
def Rt (y : Mth) (pc : Nat) (r : Option Value) : Prop := match r with
  | none => decode y.2.2.1 pc = .ok (.return_, 1) ∧ y.2.2.2.2 = none
  | some (.int v) => decode y.2.2.1 pc = .ok (.ireturn, 1) ∧ ∃ ty, y.2.2.2.2 = some ty ∧ narrow ty (.int v) = .int v
  | some (.long _) => decode y.2.2.1 pc = .ok (.lreturn, 1) ∧ y.2.2.2.2 = some .long
  | _ => False
def EvG (w : Scr) (d : Nat) (y : Mth) (pc : Nat) (lv st : List Value) (σ : St) (post : Option Value → St → Prop) : Prop :=
  ∀ (l : Launch) (g : Gw) (p : Program) (e : Env) (R : Room) (s : State) (m : MethodId) (args : Array Value) (below : List Frame) (meth : Method) (c : Code) (H : Heap) (locs : List Loc) (ls : Array Slot) (cells slots : Nat) (Q : State → Prop),
    Cx w g y p s m args c → Fit R d cells slots → Wd g σ s H locs → Lh g ls y.2.2.2.1 lv →
    (∀ (H' : Heap) (locs' : List Loc) (r : Option Value) (τ : St) (pc' : Nat) (ls' : Array Slot), post r τ → Wd g τ s H' locs' → Rt y pc' r → W p l e R s m args below meth c H' locs' cells slots Q (F0 m pc' ls' r.toList)) →
    W p l e R s m args below meth c H locs cells slots Q (F0 m pc ls (st.map (cv g)))
abbrev Ev (d : Nat) (y : Mth) (pc : Nat) (lv st : List Value) (σ : St) (post : Option Value → St → Prop) : Prop := EvG w0 d y pc lv st σ post
def ev_Pc (g : Gw) (av : List Value) (σ : St) : Array Value → State → Prop := fun v U => v = (av.map (cv g)).toArray ∧ va_P g.1 vwCl (wl g σ) U.heap ∧ va_K g.1 vwCl (tyl g) U ∧ Zs g U U.heap ∧ Ij g
def nr (r : Option Value) : Bool := match r with
  | some (.ref _) => false
  | _ => true
def ev_Qc (g : Gw) (post : Option Value → St → Prop) : Array Value → State → Outcome → State → Prop := fun _ st oc t => (∃ (r : Option Value) (τ : St), oc = .returned r ∧ post r τ ∧ nr r = true ∧ va_P g.1 vwCl (wl g τ) t.heap) ∧ va_F (Ag g) st t
/-- the contract of a method, in room for d calls -/
def Ct (d : Nat) (y : Mth) (av : List Value) (σ : St) (post : Option Value → St → Prop) : Prop := ∀ (l : Launch) (g : Gw), Met l y.2.1 (ev_ws y) (ev_rm d) (ev_Pc g av σ) (ev_Qc g post) 0 0 (Ag g)
/-- the locals at the start -/
def lay : List Value → List Value
  | [] => []
  | v :: r => if v.category = 2 then v :: .null :: lay r else v :: lay r
def lv0 (n : Nat) (av : List Value) : List Value := lay av ++ List.replicate (n - (lay av).length) .null
theorem lay_args (g : Gw) : ∀ (av : List Value) (i j : Nat) (v : Value), (lay av)[j]? = some v → isNl v = false → (i + j, cv g v) ∈ lv_args i (av.map (cv g))
  | [], i, j, v, h, _ => by simp [lay] at h
  | w :: r, i, j, v, h, hn => by
    rw [List.map_cons, lv_args, cv_cat]
    by_cases hc : w.category = 2
    · rw [lay, if_pos hc] at h
      rw [if_pos hc]
      match j, h with
      | 0, h => simp at h; subst h; exact List.mem_cons_self
      | 1, h => simp at h; subst h; cases hn
      | j + 2, h =>
        have h2 : (lay r)[j]? = some v := by simpa using h
        have := lay_args g r (i + 2) j v h2 hn
        rw [show i + (j + 2) = i + 2 + j by omega]
        exact List.mem_cons_of_mem _ this
    · rw [lay, if_neg hc] at h
      rw [if_neg hc]
      match j, h with
      | 0, h => simp at h; subst h; exact List.mem_cons_self
      | j + 1, h =>
        have h2 : (lay r)[j]? = some v := by simpa using h
        have := lay_args g r (i + 1) j v h2 hn
        rw [show i + (j + 1) = i + 1 + j by omega]
        exact List.mem_cons_of_mem _ this
theorem lay_len (g : Gw) (av : List Value) : (lg_sl (av.map (cv g))).length = (lay av).length := by
  induction av with
  | nil => rfl
  | cons v r ih =>
    have h0 : lg_sl ((v :: r).map (cv g)) = lg_sl [cv g v] ++ lg_sl (r.map (cv g)) := by simp [lg_sl]
    rw [h0, List.length_append, ih]
    cases v <;> simp [lay, lg_sl, cv, Value.category] <;> omega
theorem lv0_has (g : Gw) {av : List Value} {n : Nat} (h : (lay av).length ≤ n) : Lh g ((lg_sl (av.map (cv g)) ++ List.replicate (n - (lg_sl (av.map (cv g))).length) Slot.unset).toArray) n (lv0 n av) := by
  refine Lh.of (lv_entry (av.map (cv g)) (n := n) (by rw [lay_len]; exact h)) (fun i v h1 h2 => ?_)
  unfold lv0 at h1
  by_cases hi : i < (lay av).length
  · rw [List.getElem?_append_left hi] at h1
    have := lay_args g av 0 i v h1 h2
    rwa [Nat.zero_add] at this
  · rw [List.getElem?_append_right (by omega)] at h1
    have := List.eq_of_mem_replicate (List.mem_of_getElem? h1)
    subst this
    cases h2
theorem ct_of {d : Nat} {y : Mth} {av : List Value} {σ : St} {post : Option Value → St → Prop} (hy : plainName y.2.1.cls = true ∧ y.2.1.cls = y.1 ∧ y.1 ≠ RL) (hl : (lay av).length ≤ y.2.2.2.1) (h : Ev d y 0 (lv0 y.2.2.2.1 av) [] σ post) : Ct d y av σ post := by
  intro l g
  refine Met.ofW (cc := y.2.2.1) (maxL := y.2.2.2.1) (ret := y.2.2.2.2) hy.1 rfl ?_
  intro p e s m args below meth c s₁ B hml hv
  obtain ⟨rfl, hP, hK, hZ, hI⟩ := hv
  have hx := B.exec
  have hb := B.bytes
  have hr := B.returns
  have hts := atoms_spec (ws := ev_ws y) B.pre
  have hown : s.vm.findClass y.1 = some m.cls := by rw [← hy.2.1]; exact findClass_of_methodNamed B.named
  have hlocks := B.notSynchronized
  rw [lg_entry_eq]
  refine h l g p e _ s m _ below meth c s.heap [] _ 0 0 _ ⟨hx, hb, hml, hown, fun w hw => hts w (List.mem_cons_of_mem _ hw), hK, hZ, hI, fun q => absurd q hy.2.2⟩ ⟨Nat.le_refl _, Nat.le_refl _, Nat.zero_le _, Nat.zero_le _⟩ ⟨hP, va_S.rf⟩ (lv0_has g hl) ?_
  intro H' locs' r τ pc' ls' hp hw hR
  obtain ⟨hP', hS'⟩ := hw
  match r, hR, hp with
  | none, hR, hp => exact W.vret hx hb (hr.trans hR.2) (fun t ht hW => ⟨⟨_, τ, rfl, hp, rfl, by rw [ht]; exact hP'⟩, hS'.F ht⟩) hS'.2.2 hR.1
  | some (.int v), hR, hp =>
    obtain ⟨h1, ty, h2, h3⟩ := hR
    exact W.zret hx hb (hr.trans h2) h3 (fun t ht hW => ⟨⟨_, τ, rfl, hp, rfl, by rw [ht]; exact hP'⟩, hS'.F ht⟩) hS'.2.2 h1
  | some (.long v), hR, hp => exact W.lret hx hb (hr.trans hR.2) (fun t ht hW => ⟨⟨_, τ, rfl, hp, rfl, by rw [ht]; exact hP'⟩, hS'.F ht⟩) hS'.2.2 hR.1
  | some (.float v), hR, hp => exact absurd hR id
  | some (.double v), hR, hp => exact absurd hR id
  | some (.ref v), hR, hp => exact absurd hR id
  | some .null, hR, hp => exact absurd hR id
  | some (.retAddr v), hR, hp => exact absurd hR id
theorem Zs.kept {g : Gw} {s U : State} {H : Heap} {locs : List Loc} (h : Zs g s s.heap) (hS : va_S (Ag g) s.heap H locs) (hW : s.vm.Alike U.vm) : Zs g U H := by
  intro j hj
  obtain ⟨h1, h2⟩ := h j hj
  refine ⟨(h1.kept (fun a h3 h4 => hS.2.1 a h3 h4)).moved hW, ?_⟩
  obtain ⟨cell, c1, c2⟩ := va_T.moved hW h2
  exact ⟨cell, by rw [hS.2.1 _ (Array.getElem?_eq_some_iff.mp c1).1 c2.2.2.2.2.2]; exact c1, c2⟩
theorem ev_blind (g : Gw) (av : List Value) (σ : St) : FrameBlind (ev_Pc g av σ) := by
  intro a U gf mk h
  obtain ⟨h1, h2, h3, h4, h5⟩ := h
  refine ⟨h1, h2, va_K.moved (u := U) (U := U.calling gf mk a) (Vm.Alike.refl U.vm) h3, fun j hj => ?_, h5⟩
  obtain ⟨q1, q2⟩ := h4 j hj
  exact ⟨va_Z.moved (u := U) (U := U.calling gf mk a) (Vm.Alike.refl U.vm) q1, va_T.moved (u := U) (U := U.calling gf mk a) (Vm.Alike.refl U.vm) q2⟩
