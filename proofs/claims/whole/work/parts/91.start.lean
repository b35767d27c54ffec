/-! THE CLAIM OUT OF ONE WALK OF THE LAW'S BODY. Your part is whole_start (and what it stands on); all else here is the same for every law, but numbers. -/
def R_law : String := "InflatedRowsLaw"
def lw_P (b : Addr) (xs : List Int32) (args : Array Value) (s : State) : Prop := args = #[.ref b] ∧ s.IntsAt b xs ∧ xs.length ≤ 3584 ∧ (Jvm.Cond.and given_1 narrow_1).before args s = true
def lw_Q (_ : Array Value) (s : State) (o : Outcome) (t : State) : Prop := o = .returned (some (.int 1)) ∧ Framed s o t [] 600000 7302250
def lw_Z (below : List Frame) (a : Array Value) (s : State) : State → Prop := fun t => ∃ o, t.status = .running ∧ Ended t below o ∧ lw_Q a s o t
/-- the law's own end, with 1 on the stack, nothing written that was there before, its room as the claim has it -/
theorem lw_ret {p : Program} {l : Launch} {e : Env} {s : State} {m : MethodId} {below : List Frame} {meth : Method} {c : Code} {b : Nat} (hx : p.tables.exec = Jvm.exec) (hb : c.code = code) (hr : meth.sig.returnType = ret) (hlocks : meth.locks = false) {pc : Nat} {H : Heap} {ls : Array Slot} (hdg : decode code pc = .ok (.ireturn, 1)) : W p l e room_1 s m #[Value.ref b] below meth c H [] 600000 7302250 (lw_Z below #[Value.ref b] s) (F0 m pc ls [.int 1]) := by
  intro T hT X
  obtain ⟨fs, hret, hrun, hended, hW, hframe⟩ := X.leave (v := some (.int 1)) (hlocks := hlocks) (fun h => by rw [hr] at h; cases h)
  have hmeth' : T.vm.method? m = some meth := X.method'
  refine ⟨T.setFrames fs, ?_, .returned (some (.int 1)), hrun, hended, rfl, ⟨_, rfl⟩, hW, hframe⟩
  jvm_step X.here [X.here.top, hx, hb, hdg, hmeth', hr, ret, narrow_b1]
  (try refine ⟨rfl, ?_⟩); (try refine ⟨rfl, ?_⟩)
  first | (intro acts; rw [hret _ acts rfl rfl rfl]) | rw [hret _ _ rfl rfl rfl]
  exact Steps.refl _
/-- what holds at the law's entry: the machine, the code, the tables' words (any of lw_tbl by 'hts w (by decide +kernel)'), the script of L ints xs at the cell b, what the Statement gives of the start (any of its parts by flat_of_before) -/
def lw_At (p : Program) (s : State) (m : MethodId) (meth : Method) (c : Code) (b L : Nat) (xs : Nat → Int32) : Prop :=
  p.tables.exec = Jvm.exec ∧ c.code = code ∧ meth.sig.returnType = ret ∧ c.maxLocals = 4 ∧ s.vm.findClass R_law = some m.cls ∧ (∀ w ∈ lw_tbl, w.before #[Value.ref b] s = true) ∧ va_X b L xs s s.heap ∧ b < s.heap.size ∧ meth.locks = false ∧ (Jvm.Cond.and given_1 narrow_1).before #[Value.ref b] s = true
theorem z_dm (k : Nat) : ¬ 0 / 2 ^ k % 2 = 1 := by rw [Nat.zero_div]; decide
theorem s0_inv : Inv s0 := by
  have n0 : ∀ {k : Nat}, k < 0 → False := fun h => absurd h (Nat.not_lt_zero _)
  refine ⟨fun _ => -1, fun _ => 0, fun _ => 0, fun _ => 0, 0, fun _ _ => 0, fun _ => 0, 0, 0, 0, 0, fun _ _ => 0, 0, fun _ => 0, ?_, ?_, ?_⟩
  · refine ⟨fun r hr => ⟨?_, ⟨show (-1 : Int) ≤ -1 by omega, show (-1 : Int) ≤ 2 by omega⟩, ⟨show (0 : Int) ≤ 0 by omega, show (0 : Int) ≤ 40 by omega⟩, show 0 ≤ 40 by omega, fun h => absurd rfl h⟩, fun j hj => rfl, ⟨0, rfl, by omega, rfl, by omega, fun k hk => (n0 hk).elim⟩, ⟨rfl, by omega, fun i hi => (n0 hi).elim⟩, rfl, rfl, rfl, fun k hk hb => absurd hb (z_dm k), rfl, fun j hj => (n0 hj).elim⟩
    show (if r < 8 then (-1 : Int) else 0) = -1
    rw [if_pos hr]
  · refine ⟨fun r hr => ⟨?_, ⟨show (-1 : Int) ≤ -1 by omega, show (-1 : Int) ≤ 2 by omega⟩, ⟨show (0 : Int) ≤ 0 by omega, show (0 : Int) ≤ 40 by omega⟩, show 0 ≤ 40 by omega, fun h => absurd rfl h⟩, fun j hj => rfl, ⟨rfl, by omega, fun k hk => (n0 hk).elim⟩, ⟨rfl, by omega, fun i hi => (n0 hi).elim⟩, rfl, rfl, fun k hk => ?_, fun k hk hb => absurd hb (z_dm k), rfl, fun j hj => (n0 hj).elim⟩
    · show (if r < 8 then (-1 : Int) else 0) = -1
      rw [if_pos hr]
    · rw [Nat.zero_div]; rfl
  · exact ⟨Or.inr (fun j hj => rfl), fun k hk => (n0 hk).elim, fun k hk hb => absurd hb (z_dm k), by omega, by omega⟩
theorem arr_kn {args : Array Value} {s : State} {ty : FieldType} (h : (Cond.arrayClass ty).before args s = true) : ∃ c : ClassId, ArrOfT s c ty ∧ s.vm.findClass ("[" ++ ty.toString) = some c := by
  obtain ⟨c, k, comp, h1, h2, h3⟩ := Cond.arrayClass_spec h
  exact ⟨c, fun n z => ⟨fun k h => (by cases h), k, h2, comp, h3⟩, h1⟩
theorem arr_kn2 {s : State} {ty : FieldType} (h : va_AOA ty s) : ∃ c : ClassId, ArrOfT s c (.array ty) ∧ s.vm.findClass ("[" ++ (FieldType.array ty).toString) = some c := by
  obtain ⟨comp, c, k, h1, h2, h3, h4, h5⟩ := arrayOverA_spec h
  exact ⟨c, fun n z => ⟨fun k h => (by cases h), k, h3, comp, h4⟩, h5⟩
theorem pm_at {ws ws' : va_W} {is : List Nat} (hs : is.map (fun i => ws[i]?) = ws'.map some) {k : Nat} {q : Nat × va_E} (hk : ws'[k]? = some q) : ∃ i : Nat, ws[i]? = some q := by
  have h1 : (is.map (fun i => ws[i]?))[k]? = some (some q) := by rw [hs, List.getElem?_map, hk]; rfl
  rw [List.getElem?_map] at h1
  cases hi : is[k]? with
  | none => rw [hi] at h1; cases h1
  | some i => rw [hi] at h1; exact ⟨i, Option.some.inj h1⟩
theorem join2 {D : va_G} {A : Nat → Prop} {H : Heap} {w1 w2 W1 W2 : va_W} {is js : List Nat} (hP : va_P D vwCl (w1 ++ w2) H) (hD : va_D A (w1 ++ w2)) (n1 : va_nd is = true) (n2 : va_nd js = true) (e1 : is.map (fun i => w1[i]?) = W1.map some) (e2 : js.map (fun i => w2[i]?) = W2.map some) : va_P D vwCl (W1 ++ W2) H ∧ va_D A (W1 ++ W2) := by
  have L : ∀ (i : Nat) (q : Nat × va_E), w1[i]? = some q → (w1 ++ w2)[i]? = some q := fun i q h => by rw [List.getElem?_append_left (List.getElem?_eq_some_iff.mp h).1]; exact h
  have Rr : ∀ (i : Nat) (q : Nat × va_E), w2[i]? = some q → (w1 ++ w2)[w1.length + i]? = some q := fun i q h => by rw [List.getElem?_append_right (by omega), Nat.add_sub_cancel_left]; exact h
  have P1 : va_P D vwCl W1 H := fun k q hk => by obtain ⟨i, hi⟩ := pm_at e1 hk; exact hP i q (L i q hi)
  have P2 : va_P D vwCl W2 H := fun k q hk => by obtain ⟨i, hi⟩ := pm_at e2 hk; exact hP _ q (Rr i q hi)
  have d1 : va_D A w1 := ⟨fun i j x y hi hj h => hD.1 i j x y (L _ _ hi) (L _ _ hj) h, fun k q hk => hD.2 k q (L _ _ hk)⟩
  have d2 : va_D A w2 := ⟨fun i j x y hi hj h => by have := hD.1 _ _ x y (Rr _ _ hi) (Rr _ _ hj) h; omega, fun k q hk => hD.2 _ q (Rr _ _ hk)⟩
  refine ⟨P1.app P2, va_D.app (d1.sub is n1 e1) (d2.sub js n2 e2) (fun i j x y hi hj h => ?_)⟩
  obtain ⟨i', x1⟩ := pm_at e1 hi
  obtain ⟨j', y1⟩ := pm_at e2 hj
  have h3 := hD.1 _ _ x y (L _ _ x1) (Rr _ _ y1) h
  have h4 := (List.getElem?_eq_some_iff.mp x1).1
  omega
theorem st_kn0 {args : Array Value} {s : State} {A : Nat → Prop} (hs : ∀ c ∈ flatC (Jvm.Cond.and given_1 narrow_1), c.before args s = true) (hl : (Cond.laysStatic "InflatedRows$Kinds" "NEAREST" "[I").before args s = true) (hi : (Cond.initialized "InflatedRows$Kinds").before args s = true) (hA : ∀ a : Nat, a < s.heap.size → ¬ A a) : ∃ t : Nat, va_Z RX4 (zn 0) "[I" (.ref t) A s s.heap ∧ va_T .int t 6 (fun i => .int (Int32.ofInt (zt 0 i))) A s s.heap := by
  obtain ⟨t, ht, hT⟩ := va_Tof (tm := (.static "InflatedRows$Kinds" "NEAREST" "[I")) (N := 6) (f := fun i => .int (Int32.ofInt (zt 0 i))) (A := A) (by decide) (hs (Cond.arrayOf (.static "InflatedRows$Kinds" "NEAREST" "[I") .int) (by decide +kernel)) (va_eqt (hs (Cond.eq (.length (.static "InflatedRows$Kinds" "NEAREST" "[I")) (.int 6)) (by decide +kernel))) (fun j hj => by
    rcases (show j = 0 ∨ j = 1 ∨ j = 2 ∨ j = 3 ∨ j = 4 ∨ j = 5 by omega) with rfl | rfl | rfl | rfl | rfl | rfl
    · exact va_eqt (hs (Cond.eq (.elem (.static "InflatedRows$Kinds" "NEAREST" "[I") (.int 0)) (.int 0)) (by decide +kernel))
    · exact va_eqt (hs (Cond.eq (.elem (.static "InflatedRows$Kinds" "NEAREST" "[I") (.int 1)) (.int 0)) (by decide +kernel))
    · exact va_eqt (hs (Cond.eq (.elem (.static "InflatedRows$Kinds" "NEAREST" "[I") (.int 2)) (.int 1)) (by decide +kernel))
    · exact va_eqt (hs (Cond.eq (.elem (.static "InflatedRows$Kinds" "NEAREST" "[I") (.int 3)) (.int 1)) (by decide +kernel))
    · exact va_eqt (hs (Cond.eq (.elem (.static "InflatedRows$Kinds" "NEAREST" "[I") (.int 4)) (.int 0)) (by decide +kernel))
    · exact va_eqt (hs (Cond.eq (.elem (.static "InflatedRows$Kinds" "NEAREST" "[I") (.int 5)) (.int 4)) (by decide +kernel))) hA
  exact ⟨t, va_Zref hl hi ht hA, hT⟩
theorem st_kn1 {args : Array Value} {s : State} {A : Nat → Prop} (hs : ∀ c ∈ flatC (Jvm.Cond.and given_1 narrow_1), c.before args s = true) (hl : (Cond.laysStatic "InflatedRows$Kinds" "SIZE_BODIES" "[I").before args s = true) (hi : (Cond.initialized "InflatedRows$Kinds").before args s = true) (hA : ∀ a : Nat, a < s.heap.size → ¬ A a) : ∃ t : Nat, va_Z RX4 (zn 1) "[I" (.ref t) A s s.heap ∧ va_T .int t 6 (fun i => .int (Int32.ofInt (zt 1 i))) A s s.heap := by
  obtain ⟨t, ht, hT⟩ := va_Tof (tm := (.static "InflatedRows$Kinds" "SIZE_BODIES" "[I")) (N := 6) (f := fun i => .int (Int32.ofInt (zt 1 i))) (A := A) (by decide) (hs (Cond.arrayOf (.static "InflatedRows$Kinds" "SIZE_BODIES" "[I") .int) (by decide +kernel)) (va_eqt (hs (Cond.eq (.length (.static "InflatedRows$Kinds" "SIZE_BODIES" "[I")) (.int 6)) (by decide +kernel))) (fun j hj => by
    rcases (show j = 0 ∨ j = 1 ∨ j = 2 ∨ j = 3 ∨ j = 4 ∨ j = 5 by omega) with rfl | rfl | rfl | rfl | rfl | rfl
    · exact va_eqt (hs (Cond.eq (.elem (.static "InflatedRows$Kinds" "SIZE_BODIES" "[I") (.int 0)) (.int 10)) (by decide +kernel))
    · exact va_eqt (hs (Cond.eq (.elem (.static "InflatedRows$Kinds" "SIZE_BODIES" "[I") (.int 1)) (.int 11)) (by decide +kernel))
    · exact va_eqt (hs (Cond.eq (.elem (.static "InflatedRows$Kinds" "SIZE_BODIES" "[I") (.int 2)) (.int 12)) (by decide +kernel))
    · exact va_eqt (hs (Cond.eq (.elem (.static "InflatedRows$Kinds" "SIZE_BODIES" "[I") (.int 3)) (.int 11)) (by decide +kernel))
    · exact va_eqt (hs (Cond.eq (.elem (.static "InflatedRows$Kinds" "SIZE_BODIES" "[I") (.int 4)) (.int 13)) (by decide +kernel))
    · exact va_eqt (hs (Cond.eq (.elem (.static "InflatedRows$Kinds" "SIZE_BODIES" "[I") (.int 5)) (.int 14)) (by decide +kernel))) hA
  exact ⟨t, va_Zref hl hi ht hA, hT⟩
theorem st_kn2 {args : Array Value} {s : State} {A : Nat → Prop} (hs : ∀ c ∈ flatC (Jvm.Cond.and given_1 narrow_1), c.before args s = true) (hl : (Cond.laysStatic "InflatedRows$Kinds" "MARK_BODIES" "[I").before args s = true) (hi : (Cond.initialized "InflatedRows$Kinds").before args s = true) (hA : ∀ a : Nat, a < s.heap.size → ¬ A a) : ∃ t : Nat, va_Z RX4 (zn 2) "[I" (.ref t) A s s.heap ∧ va_T .int t 6 (fun i => .int (Int32.ofInt (zt 2 i))) A s s.heap := by
  obtain ⟨t, ht, hT⟩ := va_Tof (tm := (.static "InflatedRows$Kinds" "MARK_BODIES" "[I")) (N := 6) (f := fun i => .int (Int32.ofInt (zt 2 i))) (A := A) (by decide) (hs (Cond.arrayOf (.static "InflatedRows$Kinds" "MARK_BODIES" "[I") .int) (by decide +kernel)) (va_eqt (hs (Cond.eq (.length (.static "InflatedRows$Kinds" "MARK_BODIES" "[I")) (.int 6)) (by decide +kernel))) (fun j hj => by
    rcases (show j = 0 ∨ j = 1 ∨ j = 2 ∨ j = 3 ∨ j = 4 ∨ j = 5 by omega) with rfl | rfl | rfl | rfl | rfl | rfl
    · exact va_eqt (hs (Cond.eq (.elem (.static "InflatedRows$Kinds" "MARK_BODIES" "[I") (.int 0)) (.int 20)) (by decide +kernel))
    · exact va_eqt (hs (Cond.eq (.elem (.static "InflatedRows$Kinds" "MARK_BODIES" "[I") (.int 1)) (.int 21)) (by decide +kernel))
    · exact va_eqt (hs (Cond.eq (.elem (.static "InflatedRows$Kinds" "MARK_BODIES" "[I") (.int 2)) (.int 24)) (by decide +kernel))
    · exact va_eqt (hs (Cond.eq (.elem (.static "InflatedRows$Kinds" "MARK_BODIES" "[I") (.int 3)) (.int 22)) (by decide +kernel))
    · exact va_eqt (hs (Cond.eq (.elem (.static "InflatedRows$Kinds" "MARK_BODIES" "[I") (.int 4)) (.int 23)) (by decide +kernel))
    · exact va_eqt (hs (Cond.eq (.elem (.static "InflatedRows$Kinds" "MARK_BODIES" "[I") (.int 5)) (.int 23)) (by decide +kernel))) hA
  exact ⟨t, va_Zref hl hi ht hA, hT⟩
theorem cls_kn {args : Array Value} {s : State} (hgd : ∀ w ∈ lw_good, w.before args s = true) (c0 : ClassId) : ∃ E : Nat → ClassId × (Nat → Nat), ∀ (k : Nat) (q : vw_C), vwCl[k]? = some q → u_Kn s q.1 q.2.1 q.2.2 (E k).1 (E k).2 := by
  have h : ∀ k : Nat, ∃ e : ClassId × (Nat → Nat), ∀ q : vw_C, vwCl[k]? = some q → u_Kn s q.1 q.2.1 q.2.2 e.1 e.2 := by
    intro k
    match k with
    | 0 =>
      obtain ⟨c, i, h⟩ := u_known hgd uX0 (hgd (.instantiable RX0 1) (lw_gi 125 (by decide +kernel) (by decide +kernel)))
      exact ⟨(c, i), fun q hq => by cases hq; exact h⟩
    | 1 =>
      obtain ⟨c, i, h⟩ := u_known hgd uX2 (hgd (.instantiable RX2 3) (lw_gi 195 (by decide +kernel) (by decide +kernel)))
      exact ⟨(c, i), fun q hq => by cases hq; exact h⟩
    | 2 =>
      obtain ⟨c, i, h⟩ := u_known hgd uX3 (hgd (.instantiable RX3 3) (lw_gi 157 (by decide +kernel) (by decide +kernel)))
      exact ⟨(c, i), fun q hq => by cases hq; exact h⟩
    | 3 =>
      obtain ⟨c, i, h⟩ := u_known hgd uX4 (hgd (.instantiable RX4 2) (lw_gi 224 (by decide +kernel) (by decide +kernel)))
      exact ⟨(c, i), fun q hq => by cases hq; exact h⟩
    | 4 =>
      obtain ⟨c, i, h⟩ := u_known hgd uX5 (hgd (.instantiable RX5 2) (lw_gi 211 (by decide +kernel) (by decide +kernel)))
      exact ⟨(c, i), fun q hq => by cases hq; exact h⟩
    | 5 =>
      obtain ⟨c, i, h⟩ := u_known hgd uX6 (hgd (.instantiable RX6 5) (lw_gi 135 (by decide +kernel) (by decide +kernel)))
      exact ⟨(c, i), fun q hq => by cases hq; exact h⟩
    | 6 =>
      obtain ⟨c, i, h⟩ := u_known hgd uX8 (hgd (.instantiable RX8 3) (lw_gi 86 (by decide +kernel) (by decide +kernel)))
      exact ⟨(c, i), fun q hq => by cases hq; exact h⟩
    | 7 =>
      obtain ⟨c, i, h⟩ := u_known hgd uX9 (hgd (.instantiable RX9 4) (lw_gi 175 (by decide +kernel) (by decide +kernel)))
      exact ⟨(c, i), fun q hq => by cases hq; exact h⟩
    | 8 =>
      obtain ⟨c, i, h⟩ := u_known hgd uX10 (hgd (.instantiable RX10 5) (lw_gi 103 (by decide +kernel) (by decide +kernel)))
      exact ⟨(c, i), fun q hq => by cases hq; exact h⟩
    | 9 =>
      obtain ⟨c, i, h⟩ := u_known hgd uX11 (hgd (.instantiable RX11 13) (lw_gi 78 (by decide +kernel) (by decide +kernel)))
      exact ⟨(c, i), fun q hq => by cases hq; exact h⟩
    | 10 =>
      obtain ⟨c, i, h⟩ := u_known hgd uX12 (hgd (.instantiable RX12 30) (lw_gi 985 (by decide +kernel) (by decide +kernel)))
      exact ⟨(c, i), fun q hq => by cases hq; exact h⟩
    | k + 11 => exact ⟨(c0, fun _ => 0), fun q hq => by cases hq⟩
  exact ⟨fun k => Classical.choose (h k), fun k => Classical.choose_spec (h k)⟩
set_option maxHeartbeats 4000000 in
set_option maxRecDepth 100000 in
/-- the last stretch: both objects stand, the loop begins -/
theorem law_end {p : Program} {e : Env} {s : State} {m : MethodId} {below : List Frame} {meth : Method} {c : Code} (l : Launch) {b L : Nat} {xs : Nat → Int32} (hL : L ≤ 3584) (C0 : lw_At p s m meth c b L xs) {D : va_G} {cA : Nat → ClassId} {t0 t1 t2 : Nat} (hK : Kk D cA s) (hZ : ∀ j, j < 3 → va_Z RX4 (zn j) "[I" (.ref (([t0, t1, t2] : List Nat).getD j 0)) (fun q => s.heap.size ≤ q) s s.heap ∧ va_T .int (([t0, t1, t2] : List Nat).getD j 0) 6 (fun i => .int (Int32.ofInt (zt j i))) (fun q => s.heap.size ≤ q) s s.heap) {w1 w2 : va_W} {q0 q1 : Nat} (h1 : qX11 D cA q0 w1) (h2 : qX12 D cA q1 w2) {H : Heap} {locs : List Loc} (hP : va_P D vwCl (w1 ++ w2) H) (hD : va_D (fun q => s.heap.size ≤ q) (w1 ++ w2)) (hS : va_S (fun q => s.heap.size ≤ q) s.heap H locs) {ls : Array Slot} (hl : lv_has ls 4 [(3, vi 0), (2, .ref q1), (1, .ref q0), (0, .ref b)]) : W p l e room_1 s m #[Value.ref b] below meth c H locs 63 8628 (lw_Z below #[Value.ref b] s) (F0 m 18 ls []) := by
  obtain ⟨hx, hb, hr, hml, hown, hts, hX, hbl, hlocks, hgv⟩ := id C0
  have hgd : ∀ w ∈ lw_good, w.before #[Value.ref b] s = true := fun w hw => hts w (List.mem_filter.mp hw).1
  obtain ⟨ad1, f1, e1⟩ := h1
  obtain ⟨ad2, f2, e2⟩ := h2
  have e1 := e1.trans (congrArg (List.map some) (wl_45 (D, cA, ad1)))
  have e2 := e2.trans (congrArg (List.map some) (wl_18 (D, cA, ad2)))
  obtain ⟨hP2, hD2⟩ := join2 hP hD (by decide +kernel) (by decide +kernel) e1 e2
  obtain ⟨g, hg⟩ : ∃ g : Gw, g = ((D, cA, fun k => ([ad1 0, ad1 1, ad1 2, ad1 3, ad1 4, ad1 5, ad1 6, ad1 7, ad1 8, ad1 9, ad1 10, ad1 11, ad1 12, ad1 13, ad1 14, ad1 15, ad1 16, ad1 17, ad1 18, ad1 19, ad1 20, ad1 21, ad1 22, ad1 23, ad1 24, ad1 25, ad1 26, ad1 27, ad1 28, ad1 29, ad1 30, ad1 31, ad1 32, ad1 33, ad1 34, ad1 35, ad1 36, ad1 37, ad1 38, ad1 39, ad1 40, ad1 41, ad1 42, ad1 43, ad1 44, ad2 45, ad2 46, ad2 47, ad2 48, ad2 49, ad2 50, ad2 51, ad2 52, ad2 53, ad2 54, ad2 55, ad2 56, ad2 57, ad2 58, ad2 59, ad2 60, ad2 61, ad2 62, t0, t1, t2, b] : List Nat).getD k 0) : Gw) := ⟨_, rfl⟩
  have ew : wl g s0 = (List.range 45).map (fun k => (g.2.2 (0 + k), el g s0 (0 + k))) ++ (List.range 18).map (fun k => (g.2.2 (45 + k), el g s0 (45 + k))) := rfl
  have hP3 : va_P g.1 vwCl (wl g s0) H := by
    rw [ew, wl_45 g, wl_18 g, hg]
    exact hP2
  have hD3 : va_D (fun q => s.heap.size ≤ q) (wl g s0) := by
    rw [ew, wl_45 g, wl_18 g, hg]
    exact hD2
  have hij : Ij g := fun i j hi hj h => hD3.1 i j _ _ (wl_at g s0 hi) (wl_at g s0 hj) h
  have hag : ∀ q, Ag g q → s.heap.size ≤ q := fun q hq => by
    obtain ⟨k, hk, rfl⟩ := hq
    exact hD3.2 k _ (wl_at g s0 hk)
  have hz : Zs g s s.heap := fun j hj => by
    obtain ⟨z1, z2⟩ := hZ j hj
    have ez : g.2.2 (NC + j) = ([t0, t1, t2] : List Nat).getD j 0 := by
      rw [hg]
      rcases (show j = 0 ∨ j = 1 ∨ j = 2 by omega) with rfl | rfl | rfl <;> rfl
    rw [ez]
    exact ⟨z1.narrow hag, z2.narrow hag⟩
  have e66 : g.2.2 66 = b := by rw [hg]; rfl
  have e00 : g.2.2 0 = q0 := by rw [hg]; exact f1
  have e45 : g.2.2 45 = q1 := by rw [hg]; exact f2
  have hxs : (fun j => Int32.ofInt (xs j).toInt) = xs := funext (fun j => Int32.ofInt_toInt (xs j))
  refine va_forget (fun q hq => hS.2.2 q hq) ?_
  refine lw_loop (w := (L, fun j => (xs j).toInt)) hL (fun j _ => R32_t (xs j)) (L + 8) 0 s0 (by show L + 7 - 0 < L + 8; omega) (Nat.zero_le _) s0_inv l g p e room_1 s m #[Value.ref b] below meth c H [] ls 63 8628 _ ⟨hx, hb, hml, hown, hgd, by rw [hg]; exact hK.1, hz, hij, fun _ => ⟨?_, ?_, ?_⟩⟩ ⟨Nat.le_of_ble_eq_true rfl, Nat.le_of_ble_eq_true rfl, Nat.le_of_ble_eq_true rfl, Nat.le_of_ble_eq_true rfl⟩ ⟨hP3, hS.1, fun q h1 _ => hS.2.1 q h1 (Nat.not_le.mpr h1), fun q hq => by cases hq⟩ (Lh.of hl (fun i v hi hn => ?_)) (fun H' locs' r τ pc' ls' hp hw hR => ?_)
  · rw [e66]
    show va_X b L (fun j => Int32.ofInt (xs j).toInt) s s.heap
    rw [hxs]
    exact hX
  · rw [e66]; exact hbl
  · rw [e66]; exact fun h => absurd (hag b h) (Nat.not_le.mpr hbl)
  · match i, hi with
    | 0, hi => cases hi; exact List.mem_of_getElem? (i := 3) (congrArg (fun q => some (0, Value.ref q)) e66.symm)
    | 1, hi => cases hi; exact List.mem_of_getElem? (i := 2) (congrArg (fun q => some (1, Value.ref q)) e00.symm)
    | 2, hi => cases hi; exact List.mem_of_getElem? (i := 1) (congrArg (fun q => some (2, Value.ref q)) e45.symm)
    | 3, hi => cases hi; exact List.mem_of_getElem? (i := 0) rfl
    | i + 4, hi => cases hi
  · have hr1 : r = some (vi 1) := hp
    subst hr1
    have hd : decode code pc' = .ok (.ireturn, 1) := hR.1
    refine va_forget (fun q hq => hag q.base (hw.2.2.2 q hq)) (W.widen (k := 600000) (n := 7302250) (Nat.le_of_ble_eq_true rfl) (Nat.le_of_ble_eq_true rfl) ?_)
    exact lw_ret hx hb hr hlocks hd
set_option maxHeartbeats 4000000 in
set_option maxRecDepth 100000 in
theorem whole_start {p : Program} {e : Env} {s : State} {m : MethodId} {below : List Frame} {meth : Method} {c : Code} (l : Launch) (hflags : l.flags = flags0) {b L : Nat} {xs : Nat → Int32} (hL : L ≤ 3584) (C0 : lw_At p s m meth c b L xs) : W p l e room_1 s m #[Value.ref b] below meth c s.heap [] 0 0 (lw_Z below #[Value.ref b] s) (entryFrame m ([Value.ref b] : List Value).toArray 4) := by
  obtain ⟨hx, hb, hr, hml, hown0, hts, hX, hbl, hlocks, hgv⟩ := id C0
  have hown : s.vm.findClass RL = some m.cls := hown0
  have hgd : ∀ w ∈ lw_good, w.before #[Value.ref b] s = true := fun w hw => hts w (List.mem_filter.mp hw).1
  have hA : ∀ q : Nat, s.heap.size ≤ q → (fun q : Nat => s.heap.size ≤ q) q := fun _ h => h
  have hAn : ∀ a : Nat, a < s.heap.size → ¬ (fun q : Nat => s.heap.size ≤ q) a := fun a h => Nat.not_le.mpr h
  have hs := flat_of_before _ hgv
  have hik : (Cond.initialized "InflatedRows$Kinds").before #[Value.ref b] s = true := hts _ (List.mem_of_getElem? (i := 70) (by decide +kernel))
  obtain ⟨t0, z0, y0⟩ := st_kn0 hs (hts _ (List.mem_of_getElem? (i := 926) (by decide +kernel))) hik hAn
  obtain ⟨t1, z1, y1⟩ := st_kn1 hs (hts _ (List.mem_of_getElem? (i := 939) (by decide +kernel))) hik hAn
  obtain ⟨t2, z2, y2⟩ := st_kn2 hs (hts _ (List.mem_of_getElem? (i := 945) (by decide +kernel))) hik hAn
  have hZ : ∀ j, j < 3 → va_Z RX4 (zn j) "[I" (.ref (([t0, t1, t2] : List Nat).getD j 0)) (fun q => s.heap.size ≤ q) s s.heap ∧ va_T .int (([t0, t1, t2] : List Nat).getD j 0) 6 (fun i => .int (Int32.ofInt (zt j i))) (fun q => s.heap.size ≤ q) s s.heap := fun j hj => by
    rcases (show j = 0 ∨ j = 1 ∨ j = 2 by omega) with rfl | rfl | rfl
    · exact ⟨z0, y0⟩
    · exact ⟨z1, y1⟩
    · exact ⟨z2, y2⟩
  obtain ⟨E, hE⟩ := cls_kn hgd m.cls
  have hO : va_AOA .int s := over_moved (Vm.Alike.refl s.vm) (hts (Cond.arrayOver (.array .int)) (List.mem_of_getElem? (i := 163) (by decide +kernel)))
  obtain ⟨c1, a1, b1⟩ := arr_kn (hgd _ oA_int)
  obtain ⟨c2, a2, b2⟩ := arr_kn (hgd _ oA_long)
  obtain ⟨c3, a3, b3⟩ := arr_kn (hgd _ oA_boolean)
  obtain ⟨c4, a4, b4⟩ := arr_kn2 hO
  obtain ⟨D, hDe⟩ : ∃ D : va_G, D = (fun k => (E k).1, fun k => (E k).2) := ⟨_, rfl⟩
  obtain ⟨cA, hcA⟩ : ∃ cA : Nat → ClassId, cA = fun t => ([c1, c1, c2, c3, c4] : List ClassId).getD t c1 := ⟨_, rfl⟩
  have hK : Kk D cA s := by
    refine ⟨⟨fun k q hq => by rw [hDe]; exact hE k q hq, fun k q hq => ?_⟩, hO⟩
    rw [hcA] at hq
    match k, hq with
    | 0, hq => cases hq; exact ⟨a1, b1⟩
    | 1, hq => cases hq; exact ⟨a2, b2⟩
    | 2, hq => cases hq; exact ⟨a3, b3⟩
    | 3, hq => cases hq; exact ⟨a4, b4⟩
    | k + 4, hq => cases hq
  have hS : va_S (fun q : Nat => s.heap.size ≤ q) s.heap s.heap [] := va_S.rf
  have hP : va_P D vwCl [] s.heap := fun k q h => by cases h
  have hD : va_D (fun q : Nat => s.heap.size ≤ q) [] := ⟨fun i j p q h => (by cases h), fun k q h => (by cases h)⟩
  have hl := lv_entry ([.ref b]) (n := 4) (Nat.le_of_ble_eq_true rfl)
  rw [lg_entry_eq]
  generalize (lg_sl ([.ref b]) ++ List.replicate (4 - (lg_sl ([.ref b])).length) Slot.unset).toArray = ls at hl ⊢
  have hl : lv_has ls 4 [(0, .ref b)] := hl
  obtain ⟨C, T, ty, n1, n2, n3, n4, n5, n6, n7⟩ := nL_7
  refine va_new (ws := []) (fs := [.null, .null, .null, .null, .null, .null, .null, .null, .null, .null, .null, vi 0, vi 0]) hx hb hgd n2 ty n3 hown (hgd _ n4) (hgd _ n5) (hgd _ n6) hK.1 hP hD hS hA n1 n7 (Nat.le_of_ble_eq_true rfl) (Nat.le_of_ble_eq_true rfl) eL_law_0.1 (fun q0 H hP hD hS => ?_)
  refine lv_dup hx hb eL_law_3.1 rfl ?_
  refine w_call (d := 2) [] ⟨hx, hb, hml, hown, hgd⟩ hK iL_9 vX11_init hP hD hS hA hl.1 (Nat.le_of_ble_eq_true rfl) eL_law_4.1 ⟨Nat.le_of_ble_eq_true rfl, Nat.le_of_ble_eq_true rfl, Nat.le_of_ble_eq_true rfl, Nat.le_of_ble_eq_true rfl⟩ (fun w1 H locs h1 hP hD hS => ?_)
  refine lv_astore_n (lv' := [(1, .ref q0), (0, .ref b)]) hx hb eL_law_7.1 rfl hl (by decide) rfl (fun ls hl => ?_)
  obtain ⟨C, T, ty, n1, n2, n3, n4, n5, n6, n7⟩ := nL_10
  refine va_new (ws := [] ++ w1) (fs := [vi 0, .null, .null, .null, .null, .null, .null, .null, vi 0, .null, .null, .null, vi 0, vi 0, vi 0, vi 0, vi 0, vi 0, vi 0, vi 0, vi 0, .null, .null, vi 0, .null, .null, .null, .null, .null, vi 0]) hx hb hgd n2 ty n3 hown (hgd _ n4) (hgd _ n5) (hgd _ n6) hK.1 hP hD hS hA n1 n7 (Nat.le_of_ble_eq_true rfl) (Nat.le_of_ble_eq_true rfl) eL_law_8.1 (fun q1 H hP hD hS => ?_)
  refine lv_dup hx hb eL_law_11.1 rfl ?_
  refine w_call (d := 1) ([] ++ w1) ⟨hx, hb, hml, hown, hgd⟩ hK iL_12 vX12_init hP hD hS hA hl.1 (Nat.le_of_ble_eq_true rfl) eL_law_12.1 ⟨Nat.le_of_ble_eq_true rfl, Nat.le_of_ble_eq_true rfl, Nat.le_of_ble_eq_true rfl, Nat.le_of_ble_eq_true rfl⟩ (fun w2 H locs h2 hP hD hS => ?_)
  refine lv_astore_n (lv' := [(2, .ref q1), (1, .ref q0), (0, .ref b)]) hx hb eL_law_15.1 rfl hl (by decide) rfl (fun ls hl => ?_)
  refine lv_iconst (v := Int32.ofInt 0) hx hb eL_law_16.1 rfl ?_
  refine lv_istore_n (lv' := [(3, vi 0), (2, .ref q1), (1, .ref q0), (0, .ref b)]) hx hb eL_law_17.1 rfl hl (by decide) rfl (fun ls hl => ?_)
  exact law_end l hL C0 hK hZ h1 h2 hP hD hS hl
