/-! MAKING: the constructors. A world: the object that is made, then what it has made -/
abbrev tyc (cA : Nat → ClassId) : List (ClassId × FieldType) := [(cA 1, .int), (cA 2, .long), (cA 3, .boolean), (cA 4, .array .int)]
def Kk (D : va_G) (cA : Nat → ClassId) (U : State) : Prop := va_K D vwCl (tyc cA) U ∧ va_AOA .int U
theorem Kk.moved {D : va_G} {cA : Nat → ClassId} {u U : State} (hvm : u.vm.Alike U.vm) (h : Kk D cA u) : Kk D cA U := ⟨va_K.moved hvm h.1, over_moved hvm h.2⟩
theorem nd_of : ∀ l : List Nat, l.Nodup → va_nd l = true
  | [], _ => rfl
  | a :: l, h => by
    obtain ⟨h1, h2⟩ := List.nodup_cons.mp h
    rw [va_nd, nd_of l h2, decide_eq_true h1]
    rfl
theorem rng_map {α : Type} (a z : List α) : (List.range a.length).map (fun i => (a ++ z)[i]?) = a.map some := by
  apply List.ext_getElem?
  intro i
  rw [List.getElem?_map, List.getElem?_map]
  by_cases hi : i < a.length
  · rw [List.getElem?_range hi, List.getElem?_eq_getElem hi]
    show some ((a ++ z)[i]?) = some (some a[i])
    rw [List.getElem?_append_left hi, List.getElem?_eq_getElem hi]
  · rw [List.getElem?_eq_none (by rw [List.length_range]; omega), List.getElem?_eq_none (by omega)]
    rfl
theorem set_last {α : Type} (b c : α) : ∀ a : List α, (a ++ [b]).set a.length c = a ++ [c]
  | [] => rfl
  | x :: a => congrArg (x :: ·) (set_last b c a)
theorem at_last {α : Type} (b : α) : ∀ a : List α, (a ++ [b])[a.length]? = some b
  | [] => rfl
  | _ :: a => at_last b a
def Ccx (D : va_G) (cA : Nat → ClassId) (y : Mth) (p : Program) (s : State) (m : MethodId) (args : Array Value) (meth : Method) (c : Code) : Prop :=
  p.tables.exec = Jvm.exec ∧ c.code = y.2.2.1 ∧ c.maxLocals = y.2.2.2.1 ∧ s.vm.findClass y.1 = some m.cls ∧ (∀ w ∈ lw_good, w.before args s = true) ∧ Kk D cA s ∧ meth.name = "<init>"
def EvK (D : va_G) (cA : Nat → ClassId) (d : Nat) (y : Mth) (h0 ci pc : Nat) (lv : List (Nat × Value)) (st fs : List Value) (wr : va_W) (mc ms : Nat) (post : va_W → Prop) : Prop :=
  ∀ (l : Launch) (p : Program) (e : Env) (R : Room) (s : State) (m : MethodId) (args : Array Value) (below : List Frame) (meth : Method) (c : Code) (A : Nat → Prop) (H : Heap) (locs : List Loc) (ls : Array Slot) (cells slots : Nat) (Q : State → Prop),
    Ccx D cA y p s m args meth c → (∀ q, s.heap.size ≤ q → A q) → (d ≤ R.frames ∧ 100 * d ≤ R.locals ∧ cells + mc ≤ R.cells ∧ slots + ms ≤ R.slots) → va_P D vwCl ((h0, .inr (ci, fs)) :: wr) H → va_D A ((h0, .inr (ci, fs)) :: wr) → va_S A s.heap H locs → lv_has ls y.2.2.2.1 lv →
    (∀ (H' : Heap) (locs' : List Loc) (ws : va_W) (pc' : Nat) (ls' : Array Slot), post ws → va_P D vwCl ws H' → va_D A ws → va_S A s.heap H' locs' → decode y.2.2.1 pc' = .ok (.return_, 1) → W p l e R s m args below meth c H' locs' (cells + mc) (slots + ms) Q (F0 m pc' ls' [])) →
    W p l e R s m args below meth c H locs cells slots Q (F0 m pc ls st)
def CtI (d : Nat) (y : Mth) (ci : Nat) (fs : List Value) (mc ms : Nat) (post : va_G → (Nat → ClassId) → Nat → va_W → Prop) : Prop := ∀ (l : Launch) (D : va_G) (cA : Nat → ClassId) (h0 sz : Nat), Met l y.2.1 (ev_ws y) { frames := d, cells := mc, slots := ms, locals := 100 * d } (va_Pc [.ref h0] (fun U => U.heap.size = sz ∧ va_P D vwCl [(h0, .inr (ci, fs))] U.heap ∧ Kk D cA U)) (va_Qv (post D cA h0) (fun ws t => va_P D vwCl ws t.heap ∧ va_D (va_A [(h0, .inr (ci, fs))] sz) ws) (va_A [(h0, .inr (ci, fs))] sz)) mc ms (va_A [(h0, .inr (ci, fs))] sz)
theorem va_D1 {A : Nat → Prop} {q : Nat × va_E} (h : A q.1) : va_D A [q] := by
  have key : ∀ (k : Nat) (x : Nat × va_E), [q][k]? = some x → k = 0 ∧ x = q := fun k x hk => by
    have h0 : k < 1 := (List.getElem?_eq_some_iff.mp hk).1
    rw [show k = 0 by omega] at hk
    exact ⟨by omega, (Option.some.inj hk).symm⟩
  refine ⟨fun i j x z hi hj _ => by rw [(key i x hi).1, (key j z hj).1], fun k x hk => ?_⟩
  rw [(key k x hk).2]
  exact h
theorem ctI_of {d : Nat} {y : Mth} {ci : Nat} {fs : List Value} {mc ms : Nat} {post : va_G → (Nat → ClassId) → Nat → va_W → Prop} (hy : plainName y.2.1.cls = true ∧ y.2.1.cls = y.1 ∧ y.2.1.name = "<init>") (hl : 1 ≤ y.2.2.2.1) (hr0 : y.2.2.2.2 = none) (h : ∀ (D : va_G) (cA : Nat → ClassId) (h0 : Nat), EvK D cA d y h0 ci 0 [(0, .ref h0)] [] fs [] mc ms (post D cA h0)) : CtI d y ci fs mc ms post := by
  intro l D cA h0 sz
  refine Met.ofW (cc := y.2.2.1) (maxL := y.2.2.2.1) (ret := y.2.2.2.2) hy.1 rfl ?_
  intro p e s m args below meth c s₁ B hml hv
  obtain ⟨rfl, hsz, hP, hK⟩ := hv
  have hx := B.exec
  have hb := B.bytes
  have hr := B.returns
  have hts := atoms_spec (ws := ev_ws y) B.pre
  have hown : s.vm.findClass y.1 = some m.cls := by rw [← hy.2.1]; exact findClass_of_methodNamed B.named
  have hlocks := B.notSynchronized
  have hin : meth.name = "<init>" := by rw [← hy.2.2]; exact (name_of_methodNamed B.named B.method).1
  subst hsz
  have hA : ∀ q : Nat, s.heap.size ≤ q → va_A [(h0, .inr (ci, fs))] s.heap.size q := fun q h => Or.inr h
  have hL := lv_entry ([.ref h0]) (n := y.2.2.2.1) (show 1 ≤ y.2.2.2.1 from hl)
  rw [lg_entry_eq]
  refine h D cA h0 l p e _ s m _ below meth c (va_A [(h0, .inr (ci, fs))] s.heap.size) s.heap [] _ 0 0 _ ⟨hx, hb, hml, hown, fun w hw => hts w (List.mem_cons_of_mem _ hw), hK, hin⟩ hA ⟨Nat.le_refl _, Nat.le_refl _, Nat.le_of_eq (Nat.zero_add _), Nat.le_of_eq (Nat.zero_add _)⟩ hP (va_D1 (q := (h0, .inr (ci, fs))) (Or.inl ⟨0, _, rfl⟩)) va_S.rf hL ?_
  intro H' locs' ws pc' ls' hp hP' hD' hS' hd
  rw [Nat.zero_add, Nat.zero_add]
  exact W.vret hx hb (hr.trans hr0) (fun t ht hW => ⟨⟨ws, rfl, hp, by rw [ht]; exact hP', hD'⟩, hS'.F ht⟩) hS'.2.2 hd
section EK
variable {D : va_G} {cA : Nat → ClassId} {d : Nat} {y : Mth} {h0 ci pc pc2 : Nat} {lv : List (Nat × Value)} {st fs : List Value} {wr : va_W} {mc ms : Nat} {post : va_W → Prop}
theorem k_ret (hN : Nx y.2.2.1 pc .return_ 1 pc2) (hp : post ((h0, .inr (ci, fs)) :: wr)) : EvK D cA d y h0 ci pc lv [] fs wr 0 0 post := fun l p e R s m args below meth c A H locs ls cells slots Q hC hA hR hP hD hS hL hQ => hQ H locs _ pc ls hp hP hD hS hN.1
theorem k_aload_n {k : Fin 4} {x : Nat} (j : Nat) (hN : Nx y.2.2.1 pc (.aload_n k) 1 pc2) (hl : lv[j]? = some ((k : Nat), .ref x)) (kk : EvK D cA d y h0 ci pc2 lv (.ref x :: st) fs wr mc ms post) : EvK D cA d y h0 ci pc lv st fs wr mc ms post := by
  obtain ⟨hd, rfl⟩ := hN
  intro l p e R s m args below meth c A H locs ls cells slots Q hC hA hR hP hD hS hL hQ
  exact lv_aload_n hC.1 hC.2.1 hd rfl (lv_at hL j hl) (kk l p e R s m args below meth c A H locs ls cells slots Q hC hA hR hP hD hS hL hQ)
theorem k_iload_n {k : Fin 4} {x : Int32} (j : Nat) (hN : Nx y.2.2.1 pc (.iload_n k) 1 pc2) (hl : lv[j]? = some ((k : Nat), .int x)) (kk : EvK D cA d y h0 ci pc2 lv (.int x :: st) fs wr mc ms post) : EvK D cA d y h0 ci pc lv st fs wr mc ms post := by
  obtain ⟨hd, rfl⟩ := hN
  intro l p e R s m args below meth c A H locs ls cells slots Q hC hA hR hP hD hS hL hQ
  exact lv_iload_n hC.1 hC.2.1 hd rfl (lv_at hL j hl) (kk l p e R s m args below meth c A H locs ls cells slots Q hC hA hR hP hD hS hL hQ)
theorem k_obj {idx a : Nat} (hN : Nx y.2.2.1 pc (.invokespecial idx) 3 pc2) (h1 : 1 ≤ d) (hl : Cond.methodLink y.1 idx Lib.objectInit ∈ lw_good) (hi : Cond.instanceMethod Lib.objectInit ∈ lw_good) (hc : Cond.code Lib.objectInit ⟨#[0xb1]⟩ 1 none ∈ lw_good) (kk : EvK D cA d y h0 ci pc2 lv [] fs wr mc ms post) : EvK D cA d y h0 ci pc lv [.ref a] fs wr mc ms post := by
  obtain ⟨hd, rfl⟩ := hN
  intro l p e R s m args below meth c A H locs ls cells slots Q hC hA hR hP hD hS hL hQ
  refine W.objInit hC.1 hC.2.1 hC.2.2.2.1 (hC.2.2.2.2.1 _ hl) (hC.2.2.2.2.1 _ hi) (hC.2.2.2.2.1 _ hc) rfl (by rw [hC.2.2.1]; exact hL.1) rfl hd (by omega) ?_ (kk l p e R s m args below meth c A H locs ls cells slots Q hC hA hR hP hD hS hL hQ)
  show 0 + 0 + 12 ≤ R.locals
  omega
theorem k_iconst {n : Int} (hN : Nx y.2.2.1 pc (.iconst n) 1 pc2) (kk : EvK D cA d y h0 ci pc2 lv (vi n :: st) fs wr mc ms post) : EvK D cA d y h0 ci pc lv st fs wr mc ms post := by
  obtain ⟨hd, rfl⟩ := hN
  intro l p e R s m args below meth c A H locs ls cells slots Q hC hA hR hP hD hS hL hQ
  exact lv_iconst (v := Int32.ofInt n) hC.1 hC.2.1 hd rfl (kk l p e R s m args below meth c A H locs ls cells slots Q hC hA hR hP hD hS hL hQ)
theorem k_lconst {n : Fin 2} (x : Int) (hN : Nx y.2.2.1 pc (.lconst n) 1 pc2) (hv : Int64.ofNat (n : Nat) = Int64.ofInt x) (kk : EvK D cA d y h0 ci pc2 lv (vl x :: st) fs wr mc ms post) : EvK D cA d y h0 ci pc lv st fs wr mc ms post := by
  obtain ⟨hd, rfl⟩ := hN
  intro l p e R s m args below meth c A H locs ls cells slots Q hC hA hR hP hD hS hL hQ
  exact lv_lconst (v := Int64.ofInt x) hC.1 hC.2.1 hd hv (kk l p e R s m args below meth c A H locs ls cells slots Q hC hA hR hP hD hS hL hQ)
theorem k_bipush {n : Int} (hN : Nx y.2.2.1 pc (.bipush n) 2 pc2) (hv : (Int8.ofInt n).toInt32 = Int32.ofInt n) (kk : EvK D cA d y h0 ci pc2 lv (vi n :: st) fs wr mc ms post) : EvK D cA d y h0 ci pc lv st fs wr mc ms post := by
  obtain ⟨hd, rfl⟩ := hN
  intro l p e R s m args below meth c A H locs ls cells slots Q hC hA hR hP hD hS hL hQ
  exact lv_bipush (v := Int32.ofInt n) hC.1 hC.2.1 hd hv (kk l p e R s m args below meth c A H locs ls cells slots Q hC hA hR hP hD hS hL hQ)
theorem k_sipush {n : Int} (hN : Nx y.2.2.1 pc (.sipush n) 3 pc2) (hv : (Int16.ofInt n).toInt32 = Int32.ofInt n) (kk : EvK D cA d y h0 ci pc2 lv (vi n :: st) fs wr mc ms post) : EvK D cA d y h0 ci pc lv st fs wr mc ms post := by
  obtain ⟨hd, rfl⟩ := hN
  intro l p e R s m args below meth c A H locs ls cells slots Q hC hA hR hP hD hS hL hQ
  exact lv_sipush (v := Int32.ofInt n) hC.1 hC.2.1 hd hv (kk l p e R s m args below meth c A H locs ls cells slots Q hC hA hR hP hD hS hL hQ)
theorem k_dup {v : Value} (hN : Nx y.2.2.1 pc .dup 1 pc2) (hv : v.category = 1) (kk : EvK D cA d y h0 ci pc2 lv (v :: v :: st) fs wr mc ms post) : EvK D cA d y h0 ci pc lv (v :: st) fs wr mc ms post := by
  obtain ⟨hd, rfl⟩ := hN
  intro l p e R s m args below meth c A H locs ls cells slots Q hC hA hR hP hD hS hL hQ
  exact lv_dup hC.1 hC.2.1 hd hv (kk l p e R s m args below meth c A H locs ls cells slots Q hC hA hR hP hD hS hL hQ)
theorem k_goto {off : Int} (tgt : Nat) (hN : Nx y.2.2.1 pc (.goto off) 3 pc2) (ht : (pc : Int) + off = (tgt : Int)) (kk : EvK D cA d y h0 ci tgt lv st fs wr mc ms post) : EvK D cA d y h0 ci pc lv st fs wr mc ms post := by
  obtain ⟨hd, rfl⟩ := hN
  intro l p e R s m args below meth c A H locs ls cells slots Q hC hA hR hP hD hS hL hQ
  exact lv_goto hC.1 hC.2.1 hd ht (kk l p e R s m args below meth c A H locs ls cells slots Q hC hA hR hP hD hS hL hQ)
theorem k_geT {x z : Int32} {off : Int} (tgt : Nat) (hN : Nx y.2.2.1 pc (.if_icmp .ge off) 3 pc2) (ht : (pc : Int) + off = (tgt : Int)) (h : z ≤ x) (kk : EvK D cA d y h0 ci tgt lv st fs wr mc ms post) : EvK D cA d y h0 ci pc lv (.int z :: .int x :: st) fs wr mc ms post := by
  obtain ⟨hd, rfl⟩ := hN
  intro l p e R s m args below meth c A H locs ls cells slots Q hC hA hR hP hD hS hL hQ
  exact lv_icmp_ge hC.1 hC.2.1 hd ht (fun _ => kk l p e R s m args below meth c A H locs ls cells slots Q hC hA hR hP hD hS hL hQ) (fun q => absurd h q)
theorem k_geF {x z : Int32} {off : Int} (tgt : Nat) (hN : Nx y.2.2.1 pc (.if_icmp .ge off) 3 pc2) (ht : (pc : Int) + off = (tgt : Int)) (h : ¬ z ≤ x) (kk : EvK D cA d y h0 ci pc2 lv st fs wr mc ms post) : EvK D cA d y h0 ci pc lv (.int z :: .int x :: st) fs wr mc ms post := by
  obtain ⟨hd, rfl⟩ := hN
  intro l p e R s m args below meth c A H locs ls cells slots Q hC hA hR hP hD hS hL hQ
  exact lv_icmp_ge hC.1 hC.2.1 hd ht (fun q => absurd q h) (fun _ => kk l p e R s m args below meth c A H locs ls cells slots Q hC hA hR hP hD hS hL hQ)
theorem k_istore_n {k : Fin 4} {x : Int32} {lv2 : List (Nat × Value)} (hN : Nx y.2.2.1 pc (.istore_n k) 1 pc2) (hn : (k : Nat) < y.2.2.2.1) (hl : ((k : Nat), Value.int x) :: lv.filter (fun q => !(q.1 == (k : Nat)) && !(q.1 + 1 == (k : Nat) && q.2.category == 2)) = lv2) (kk : EvK D cA d y h0 ci pc2 lv2 st fs wr mc ms post) : EvK D cA d y h0 ci pc lv (.int x :: st) fs wr mc ms post := by
  obtain ⟨hd, rfl⟩ := hN
  intro l p e R s m args below meth c A H locs ls cells slots Q hC hA hR hP hD hS hL hQ
  exact lv_istore_n hC.1 hC.2.1 hd rfl hL hn hl (fun ls' hL' => kk l p e R s m args below meth c A H locs ls' cells slots Q hC hA hR hP hD hS hL' hQ)
theorem k_iinc {i j : Nat} {n : Int} {x v : Int32} {lv2 : List (Nat × Value)} (hN : Nx y.2.2.1 pc (.iinc i n) 3 pc2) (hj : lv[j]? = some (i, .int x)) (hv : x + Int32.ofInt n = v) (hn : i < y.2.2.2.1) (hl : (i, Value.int v) :: lv.filter (fun q => !(q.1 == i) && !(q.1 + 1 == i && q.2.category == 2)) = lv2) (kk : EvK D cA d y h0 ci pc2 lv2 st fs wr mc ms post) : EvK D cA d y h0 ci pc lv st fs wr mc ms post := by
  obtain ⟨hd, rfl⟩ := hN
  intro l p e R s m args below meth c A H locs ls cells slots Q hC hA hR hP hD hS hL hQ
  exact lv_iinc hC.1 hC.2.1 hd hL hj hv hn hl (fun ls' hL' => kk l p e R s m args below meth c A H locs ls' cells slots Q hC hA hR hP hD hS hL' hQ)
theorem k_newa {at0 : ArrayType} {ty : FieldType} {n : Int32} {N t : Nat} {a0 : vp_A} (i : Nat) (hN : Nx y.2.2.1 pc (.newarray at0) 2 pc2) (hty : newarray.typeOf at0 = ty) (hw : Cond.arrayClass ty ∈ lw_good) (hi : (tyc cA)[i]? = some (cA t, ty)) (hra : ∀ (U : State) (c : ClassId), va_RA U c ty → U.vm.findClass ("[" ++ ty.toString) = some c) (ha : ∀ c : ClassId, vp_cell c a0 = arrV c N (fun _ => defaultValue ty)) (hn : ¬ n < 0) (hNn : n.toNatClampNeg = N) (hbs : N * componentBytes ty ≤ 536870912)
    (kk : ∀ q, EvK D cA d y h0 ci pc2 lv (.ref q :: st) fs (wr ++ [(q, .inl (cA t, a0))]) mc ms post) : EvK D cA d y h0 ci pc lv (.int n :: st) fs wr (mc + 1) (ms + N) post := by
  obtain ⟨hd, rfl⟩ := hN
  intro l p e R s m args below meth c A H locs ls cells slots Q hC hA hR hP hD hS hL hQ
  refine va_newa hC.1 hC.2.1 (atype := at0) (by rw [hty]; exact hC.2.2.2.2.1 _ hw) hty hC.2.2.2.2.2.1.1 hP hD hS hA ha hn hNn hbs (by omega) (by omega) hd (fun q cB H1 hK1 hP1 hD1 hS1 => ?_)
  have e1 := hra s cB (hK1.2 4 (cB, ty) rfl).2
  have e2 := hra s (cA t) (hC.2.2.2.2.2.1.1.2 i _ hi).2
  have ec : cB = cA t := Option.some.inj (e1.symm.trans e2)
  subst ec
  exact kk q l p e R s m args below meth c A H1 locs ls (cells + 1) (slots + N) Q hC hA ⟨hR.1, hR.2.1, by omega, by omega⟩ hP1 hD1 hS1 hL (fun H' locs' ws pc' ls' b1 b2 b3 b4 b5 => by rw [show cells + 1 + mc = cells + (mc + 1) by omega, show slots + N + ms = slots + (ms + N) by omega]; exact hQ H' locs' ws pc' ls' b1 b2 b3 b4 b5)
theorem k_newI {n : Int32} (N : Nat) (hN : Nx y.2.2.1 pc (.newarray .int) 2 pc2) (hw : Cond.arrayClass .int ∈ lw_good) (hn : ¬ n < 0) (hNn : n.toNatClampNeg = N) (hbs : N * componentBytes .int ≤ 536870912)
    (kk : ∀ q, EvK D cA d y h0 ci pc2 lv (.ref q :: st) fs (wr ++ [(q, .inl (cA 1, N, .inl (fun _ => Int32.ofInt 0)))]) mc ms post) : EvK D cA d y h0 ci pc lv (.int n :: st) fs wr (mc + 1) (ms + N) post :=
  k_newa (at0 := .int) (ty := .int) (t := 1) (a0 := (N, .inl (fun _ => Int32.ofInt 0))) 0 hN rfl hw rfl (fun _ _ h => h) (fun _ => rfl) hn hNn hbs kk
theorem k_newJ {n : Int32} (N : Nat) (hN : Nx y.2.2.1 pc (.newarray .long) 2 pc2) (hw : Cond.arrayClass .long ∈ lw_good) (hn : ¬ n < 0) (hNn : n.toNatClampNeg = N) (hbs : N * componentBytes .long ≤ 536870912)
    (kk : ∀ q, EvK D cA d y h0 ci pc2 lv (.ref q :: st) fs (wr ++ [(q, .inl (cA 2, N, .inr (.inl (fun _ => Int64.ofInt 0))))]) mc ms post) : EvK D cA d y h0 ci pc lv (.int n :: st) fs wr (mc + 1) (ms + N) post :=
  k_newa (at0 := .long) (ty := .long) (t := 2) (a0 := (N, .inr (.inl (fun _ => Int64.ofInt 0)))) 1 hN rfl hw rfl (fun _ _ h => h) (fun _ => rfl) hn hNn hbs kk
theorem k_newZ {n : Int32} (N : Nat) (hN : Nx y.2.2.1 pc (.newarray .boolean) 2 pc2) (hw : Cond.arrayClass .boolean ∈ lw_good) (hn : ¬ n < 0) (hNn : n.toNatClampNeg = N) (hbs : N * componentBytes .boolean ≤ 536870912)
    (kk : ∀ q, EvK D cA d y h0 ci pc2 lv (.ref q :: st) fs (wr ++ [(q, .inl (cA 3, N, .inl (fun _ => Int32.ofInt 0)))]) mc ms post) : EvK D cA d y h0 ci pc lv (.int n :: st) fs wr (mc + 1) (ms + N) post :=
  k_newa (at0 := .boolean) (ty := .boolean) (t := 3) (a0 := (N, .inl (fun _ => Int32.ofInt 0))) 2 hN rfl hw rfl (fun _ _ h => h) (fun _ => rfl) hn hNn hbs kk
/-- rows of rows: 7 of 300 -/
def out7 (r : Nat → Nat) : Nat → Option Nat := fun j => ([r 0, r 1, r 2, r 3, r 4, r 5, r 6] : List Nat)[j]?
def in7 (c : ClassId) (r : Nat → Nat) : va_W := ([r 0, r 1, r 2, r 3, r 4, r 5, r 6] : List Nat).map (fun a => (a, .inl (c, 300, .inl (fun _ => Int32.ofInt 0))))
theorem out7_eq (r : Nat → Nat) : (fun i => if i < 7 then some (r i) else none) = out7 r := by
  funext j
  unfold out7
  match j with
  | 0 => rfl
  | 1 => rfl
  | 2 => rfl
  | 3 => rfl
  | 4 => rfl
  | 5 => rfl
  | 6 => rfl
  | j + 7 => rw [if_neg (by omega)]; rfl
theorem k_mna {idx : Nat} (hN : Nx y.2.2.1 pc (.multianewarray idx 2) 4 pc2) (hcl : Cond.classLink y.1 idx ("[" ++ (FieldType.array .int).toString) ∈ lw_good) (hw : Cond.arrayClass .int ∈ lw_good)
    (kk : ∀ (q : Nat) (r : Nat → Nat), EvK D cA d y h0 ci pc2 lv (.ref q :: st) fs (wr ++ ((q, .inl (cA 4, 7, .inr (.inr (.inr (.inr (out7 r)))))) :: in7 (cA 1) r)) mc ms post) : EvK D cA d y h0 ci pc lv (vi 300 :: vi 7 :: st) fs wr (mc + 8) (ms + 2107) post := by
  obtain ⟨hd, rfl⟩ := hN
  intro l p e R s m args below meth c A H locs ls cells slots Q hC hA hR hP hD hS hL hQ
  have hK := hC.2.2.2.2.2.1.1
  have e0 : ∀ f : Nat → va_E, ((h0, .inr (ci, fs)) :: wr) ++ va_pl [] f = (h0, .inr (ci, fs)) :: wr := fun f => List.append_nil _
  refine va_mna (X := (h0, .inr (ci, fs)) :: wr) (L := []) (f := fun _ => .inl (cA 1, 0, .inl (fun _ => 0))) (z := (300, .inl (fun _ => Int32.ofInt 0))) (ty := .int) (cy := cA 1) (N' := 7) (K' := 300) hC.1 hC.2.1 hC.2.2.2.1 (hC.2.2.2.2.1 _ hcl) hC.2.2.2.2.2.1.2 (hC.2.2.2.2.1 _ hw) (hK.2 0 _ rfl).2 hK (by rw [e0]; exact hP) (by rw [e0]; exact hD) hS hA (by decide) (by decide) (by decide) (by decide) (by decide) (by decide) (by decide) rfl rfl (by omega) (by omega) (fun c => arrV_new c 300 _) hd (fun q r cB H1 hr1 hr2 hK1 hP1 hD1 hS1 => ?_)
  have e1 : s.vm.findClass ("[" ++ (FieldType.array .int).toString) = some cB := (hK1.2 4 (cB, .array .int) rfl).2
  have e2 : s.vm.findClass ("[" ++ (FieldType.array .int).toString) = some (cA 4) := (hK.2 3 _ rfl).2
  have ec : cB = cA 4 := Option.some.inj (e1.symm.trans e2)
  subst ec
  have e3 : va_pl ([] ++ (List.range 7).map r) (vr_up (fun _ => .inl (cA 1, 0, .inl (fun _ => 0))) ((List.range 7).map r) (.inl (cA 1, 300, .inl (fun _ => Int32.ofInt 0)))) = in7 (cA 1) r := List.map_congr_left (fun a ha => by rw [vr_up_in (show a ∈ List.map r (List.range 7) from ha)])
  rw [e3, out7_eq, List.append_assoc] at hP1 hD1
  exact kk q r l p e R s m args below meth c A H1 locs ls (cells + 1 + 7) (slots + 7 + 7 * 300) Q hC hA ⟨hR.1, hR.2.1, by omega, by omega⟩ hP1 hD1 hS1 hL (fun H' locs' ws pc' ls' b1 b2 b3 b4 b5 => by rw [show cells + 1 + 7 + mc = cells + (mc + 8) by omega, show slots + 7 + 7 * 300 + ms = slots + (ms + 2107) by omega]; exact hQ H' locs' ws pc' ls' b1 b2 b3 b4 b5)
def Nwk (own : String) (idx ci N : Nat) (fs : List Value) : Prop := ∃ (C : String) (T : u_T) (ty : Nat → FieldType), vwCl[ci]? = some (C, T, N) ∧ (∀ w ∈ u_ws C T N, w ∈ lw_good) ∧ (∀ k, k < N → parseFieldDescriptor (T k).2.2.1 = some (ty k)) ∧ Cond.classLink own idx C ∈ lw_good ∧ Cond.instantiable C N ∈ lw_good ∧ Cond.initialized C ∈ lw_good ∧ ∀ j, j < N → defaultValue (ty j) = vp_V fs j
theorem k_new {idx ci2 N : Nat} {fs2 : List Value} (hN : Nx y.2.2.1 pc (.new idx) 3 pc2) (hw : Nwk y.1 idx ci2 N fs2) (kk : ∀ q, EvK D cA d y h0 ci pc2 lv (.ref q :: st) fs (wr ++ [(q, .inr (ci2, fs2))]) mc ms post) : EvK D cA d y h0 ci pc lv st fs wr (mc + 1) (ms + N) post := by
  obtain ⟨hd, rfl⟩ := hN
  obtain ⟨C, T, ty, n1, n2, n3, n4, n5, n6, n7⟩ := hw
  intro l p e R s m args below meth c A H locs ls cells slots Q hC hA hR hP hD hS hL hQ
  have hts := hC.2.2.2.2.1
  refine va_new (fs := fs2) hC.1 hC.2.1 hts n2 ty n3 hC.2.2.2.1 (hts _ n4) (hts _ n5) (hts _ n6) hC.2.2.2.2.2.1.1 hP hD hS hA n1 n7 (by omega) (by omega) hd (fun q H1 hP1 hD1 hS1 => ?_)
  exact kk q l p e R s m args below meth c A H1 locs ls (cells + 1) (slots + N) Q hC hA ⟨hR.1, hR.2.1, by omega, by omega⟩ hP1 hD1 hS1 hL (fun H' locs' ws pc' ls' b1 b2 b3 b4 b5 => by rw [show cells + 1 + mc = cells + (mc + 1) by omega, show slots + N + ms = slots + (ms + N) by omega]; exact hQ H' locs' ws pc' ls' b1 b2 b3 b4 b5)
def Fq (own : String) (idx ci f : Nat) (ty : FieldType) : Prop := ∃ (C : String) (T : u_T) (N : Nat) (ty0 : Nat → FieldType), vwCl[ci]? = some (C, T, N) ∧ f < N ∧ (∀ w ∈ u_ws C T N, w ∈ lw_good) ∧ Cond.fieldLink own idx (T f).1 (T f).2.1 (T f).2.2.1 ∈ lw_good ∧
  (∀ k, k < N → parseFieldDescriptor (T k).2.2.1 = some (ty0 k)) ∧ (∀ a, a < N → ∀ b, b < N → a ≠ b → (T a).2.1 ≠ (T b).2.1) ∧ (T f).2.2.2 = true ∧ (T f).1 = own ∧ parseFieldDescriptor (T f).2.2.1 = some ty
theorem k_putF {idx k : Nat} {v : Value} {ty : FieldType} (hN : Nx y.2.2.1 pc (.putfield idx) 3 pc2) (hf : Fq y.1 idx ci k ty) (hn : narrow ty v = v) (hft : fits ty v = true) (hl : k < fs.length) (kk : EvK D cA d y h0 ci pc2 lv st (fs.set k v) wr mc ms post) : EvK D cA d y h0 ci pc lv (v :: .ref h0 :: st) fs wr mc ms post := by
  obtain ⟨hd, rfl⟩ := hN
  obtain ⟨C, T, N, ty0, n1, n2, n3, n4, n5, n6, n7, n8, n9⟩ := hf
  intro l p e R s m args below meth c A H locs ls cells slots Q hC hA hR hP hD hS hL hQ
  have hts := hC.2.2.2.2.1
  refine va_putF (ws := (h0, .inr (ci, fs)) :: wr) hC.1 hC.2.1 hts n3 ty0 n5 n6 hC.2.2.2.1 hC.2.2.2.2.2.1.1 hP hD hS 0 rfl n1 k n2 (hts _ n4) (fun _ h => h) n7 hC.2.2.2.2.2.2 n8 n9 hn hft hl hd (fun H1 locs1 hP1 hD1 hS1 => ?_)
  exact kk l p e R s m args below meth c A H1 locs1 ls cells slots Q hC hA hR hP1 hD1 hS1 hL hQ
theorem k_put {idx k : Nat} {v : Value} {ty : FieldType} (hN : Nx y.2.2.1 pc (.putfield idx) 3 pc2) (hf : Fp y.1 idx ci k ty) (hn : narrow ty v = v) (hft : fits ty v = true) (hl : k < fs.length) (kk : EvK D cA d y h0 ci pc2 lv st (fs.set k v) wr mc ms post) : EvK D cA d y h0 ci pc lv (v :: .ref h0 :: st) fs wr mc ms post := by
  obtain ⟨hd, rfl⟩ := hN
  obtain ⟨C, T, N, ty0, n1, n2, n3, n4, n5, n6, n7, n9⟩ := hf
  intro l p e R s m args below meth c A H locs ls cells slots Q hC hA hR hP hD hS hL hQ
  have hts := hC.2.2.2.2.1
  refine va_put (ws := (h0, .inr (ci, fs)) :: wr) hC.1 hC.2.1 hts n3 ty0 n5 n6 hC.2.2.2.1 hC.2.2.2.2.2.1.1 hP hD hS 0 rfl n1 k n2 (hts _ n4) (fun _ h => h) n7 n9 hn hft hl hd (fun H1 locs1 hP1 hD1 hS1 => ?_)
  exact kk l p e R s m args below meth c A H1 locs1 ls cells slots Q hC hA hR hP1 hD1 hS1 hL hQ
theorem k_get {idx k : Nat} {v : Value} (hN : Nx y.2.2.1 pc (.getfield idx) 3 pc2) (hf : Fl y.1 idx ci k) (hv : fs[k]? = some v) (kk : EvK D cA d y h0 ci pc2 lv (v :: st) fs wr mc ms post) : EvK D cA d y h0 ci pc lv (.ref h0 :: st) fs wr mc ms post := by
  obtain ⟨hd, rfl⟩ := hN
  obtain ⟨C, T, N, n1, n2, n3, n4⟩ := hf
  intro l p e R s m args below meth c A H locs ls cells slots Q hC hA hR hP hD hS hL hQ
  have hts := hC.2.2.2.2.1
  exact va_get (ws := (h0, .inr (ci, fs)) :: wr) hC.1 hC.2.1 hts n3 hC.2.2.2.1 hC.2.2.2.2.2.1.1 hP 0 rfl n1 k n2 (hts _ n4) (fun _ h => h) hv hd (kk l p e R s m args below meth c A H locs ls cells slots Q hC hA hR hP hD hS hL hQ)
theorem k_iast {w0 : va_W} {q n : Nat} {f : Nat → Int32} {i x : Int32} (j : Nat) (hN : Nx y.2.2.1 pc .iastore 1 pc2) (hi : ¬ i < 0) (hj : i.toNatClampNeg = j) (hn : j < n) (kk : EvK D cA d y h0 ci pc2 lv st fs (w0 ++ [(q, .inl (cA 1, n, .inl (upd f j x)))]) mc ms post) : EvK D cA d y h0 ci pc lv (.int x :: .int i :: .ref q :: st) fs (w0 ++ [(q, .inl (cA 1, n, .inl f))]) mc ms post := by
  obtain ⟨hd, rfl⟩ := hN
  subst hj
  intro l p e R s m args below meth c A H locs ls cells slots Q hC hA hR hP hD hS hL hQ
  refine va_iast (ws := (h0, .inr (ci, fs)) :: (w0 ++ [(q, .inl (cA 1, n, .inl f))])) hC.1 hC.2.1 hC.2.2.2.2.2.1.1 hP hD hS (w0.length + 1) 0 (show ((h0, .inr (ci, fs)) :: (w0 ++ [(q, .inl (cA 1, n, .inl f))]) : va_W)[w0.length + 1]? = some (q, .inl (cA 1, n, .inl f)) from at_last (α := Nat × va_E) (q, .inl (cA 1, n, .inl f)) ((h0, .inr (ci, fs)) :: w0)) rfl (fun h => h.elim (fun z => hi z) (fun z => by omega)) hd (fun H1 locs1 hP1 hD1 hS1 => ?_)
  have es : ((h0, .inr (ci, fs)) :: (w0 ++ [(q, .inl (cA 1, n, .inl f))]) : va_W).set (w0.length + 1) (q, .inl (cA 1, n, .inl (upd f i.toNatClampNeg x))) = (h0, .inr (ci, fs)) :: (w0 ++ [(q, .inl (cA 1, n, .inl (upd f i.toNatClampNeg x)))]) := set_last (α := Nat × va_E) (q, .inl (cA 1, n, .inl f)) (q, .inl (cA 1, n, .inl (upd f i.toNatClampNeg x))) ((h0, .inr (ci, fs)) :: w0)
  rw [es] at hP1 hD1
  exact kk l p e R s m args below meth c A H1 locs1 ls cells slots Q hC hA hR hP1 hD1 hS1 hL hQ
def CkI (own : String) (idx : Nat) (z : Mth) : Prop := Cond.methodLink own idx z.2.1 ∈ lw_good ∧ Cond.instanceMethod z.2.1 ∈ lw_good ∧ Cond.code z.2.1 z.2.2.1 z.2.2.2.1 none ∈ lw_good ∧ Cond.initialized z.2.1.cls ∈ lw_good ∧ z.2.1.name = "<init>" ∧ (z.2.1.cls ≠ "java/lang/invoke/MethodHandle" ∧ z.2.1.cls ≠ "java/lang/invoke/VarHandle" ∧ (parseMethodDescriptor z.2.1.desc).map (fun d => d.parameters.length) = some 0) ∧ z.2.2.2.1 ≤ 60 ∧ z.2.2.2.2 = none
theorem cki_good {own : String} {idx : Nat} {z : Mth} (h : CkI own idx z) : GoodIn lw_good (ev_ws z) := fun w hw => by
  rcases List.mem_cons.mp hw with rfl | hw
  · rw [h.2.2.2.2.2.2.2]; exact ⟨h.2.2.1, lw_gw h.2.2.1⟩
  · exact lw_gg w hw
theorem ctI_blind {D : va_G} {cA : Nat → ClassId} {q sz ci2 : Nat} {fs2 : List Value} : FrameBlind (va_Pc [.ref q] (fun U => U.heap.size = sz ∧ va_P D vwCl [(q, .inr (ci2, fs2))] U.heap ∧ Kk D cA U)) := fun a U g mk h => by
  obtain ⟨q0, q1, qP, qK⟩ := h
  exact ⟨q0, q1, qP, Kk.moved (u := U) (U := U.calling g mk a) (Vm.Alike.refl U.vm) qK⟩
theorem w_call {p : Program} {l : Launch} {e : Env} {R : Room} {s : State} {m : MethodId} {args : Array Value} {below : List Frame} {meth : Method} {c : Code} {A : Nat → Prop} {H : Heap} {locs : List Loc} {ls : Array Slot} {cells slots nL : Nat} {Q : State → Prop} {cc : ByteArray} {own : String} {rest : List Value} {idx : Nat} {z : Mth} {ci2 q : Nat} {fs2 : List Value} (w0 : va_W) {mc2 ms2 : Nat} {pz : va_G → (Nat → ClassId) → Nat → va_W → Prop}
    (S : CallFix p m c cc nL s args lw_good own) (hK : Kk D cA s) (hc : CkI own idx z) (hCt : CtI d z ci2 fs2 mc2 ms2 pz) (hP : va_P D vwCl (w0 ++ [(q, .inr (ci2, fs2))]) H) (hD : va_D A (w0 ++ [(q, .inr (ci2, fs2))])) (hS : va_S A s.heap H locs) (hA : ∀ q, s.heap.size ≤ q → A q) (hL : ls.size = nL) (hcat : (rest.map fun v => v.category).sum ≤ 8) (hd : decode cc pc = .ok (.invokespecial idx, 3)) (hR : d + 1 ≤ R.frames ∧ 100 * d + 100 ≤ R.locals ∧ cells + mc2 ≤ R.cells ∧ slots + ms2 ≤ R.slots)
    (kk : ∀ (ws : va_W) (H1 : Heap) (locs1 : List Loc), pz D cA q ws → va_P D vwCl (w0 ++ ws) H1 → va_D A (w0 ++ ws) → va_S A s.heap H1 locs1 → W p l e R s m args below meth c H1 locs1 (cells + mc2) (slots + ms2) Q (F0 m (pc + 3) ls rest)) : W p l e R s m args below meth c H locs cells slots Q (F0 m pc ls (.ref q :: rest)) := by
  have hts := S.2.2.2.2
  have h60 := hc.2.2.2.2.2.2.1
  have hC1 : [w0.length].map (fun i => (w0 ++ [(q, .inr (ci2, fs2))] : va_W)[i]?) = ([(q, .inr (ci2, fs2))] : va_W).map some := congrArg (fun x => [x]) (at_last _ w0)
  have hR1 : (List.range w0.length).map (fun i => (w0 ++ [(q, .inr (ci2, fs2))] : va_W)[i]?) = w0.map some := rng_map w0 [(q, .inr (ci2, fs2))]
  have hPc : va_P D vwCl [(q, .inr (ci2, fs2))] H := fun k x hk => by
    have hk0 : k < 1 := (List.getElem?_eq_some_iff.mp hk).1
    rw [show k = 0 by omega] at hk
    cases hk
    exact hP w0.length _ (at_last _ w0)
  have hFc := va_free (wc := [(q, .inr (ci2, fs2))]) hD hS hA [w0.length] hC1
  refine va_callv (va_runI (As := []) (rest := rest) S (hCt l D cA q H.size) (cwI (bytes := z.2.2.1) (maxL := z.2.2.2.1) (ws' := lw_good) 0 hts (cki_good hc) (by rw [ev_ws, hc.2.2.2.2.2.2.2]) rfl rfl (hts _ hc.2.2.2.1) (hts _ hc.1) (hts _ hc.2.1) hc.2.2.2.2.1 hc.2.2.2.2.2.1 ⟨hR.1, ?_⟩) ⟨ctI_blind, fun U hU hW => ⟨rfl, by rw [hU], by rw [hU]; exact hPc, hK.moved hW.alike⟩⟩ rfl rfl hL rfl (lv_room hcat) hd ⟨hR.2.2.1, hR.2.2.2⟩) hS (fun q _ h => hFc q h) hFc (fun ws t H1 locs1 ht hvm hw hB hz1 hk1 hS1 => ?_)
  · show 8 + (z.2.2.2.1 + 11) + 100 * d ≤ R.locals
    omega
  · obtain ⟨hP1, hD1⟩ := hB
    rw [ht] at hP1
    obtain ⟨hP2, hD2⟩ := va_join (wr := w0) (w1 := ws) hP hD [w0.length] (List.range w0.length) hC1 hR1 (nd_of _ List.nodup_range) (fun i hi h => by have := List.mem_range.mp hi; rw [List.mem_singleton] at h; omega) hk1 hFc hP1 hD1
    exact kk ws H1 locs1 hw hP2 hD2 hS1
theorem k_call {idx : Nat} {z : Mth} {ci2 q : Nat} {fs2 : List Value} {w0 : va_W} {mc2 ms2 : Nat} {pz : va_G → (Nat → ClassId) → Nat → va_W → Prop} (hN : Nx y.2.2.1 pc (.invokespecial idx) 3 pc2) (hc : CkI y.1 idx z) (hcat : (st.map fun v => v.category).sum ≤ 8) (hCt : CtI d z ci2 fs2 mc2 ms2 pz) (kk : ∀ ws, pz D cA q ws → EvK D cA (d + 1) y h0 ci pc2 lv st fs (w0 ++ ws) mc ms post) : EvK D cA (d + 1) y h0 ci pc lv (.ref q :: st) fs (w0 ++ [(q, .inr (ci2, fs2))]) (mc + mc2) (ms + ms2) post := by
  obtain ⟨hd, rfl⟩ := hN
  intro l p e R s m args below meth c A H locs ls cells slots Q hC hA hR hP hD hS hL hQ
  refine w_call ((h0, .inr (ci, fs)) :: w0) ⟨hC.1, hC.2.1, hC.2.2.1, hC.2.2.2.1, hC.2.2.2.2.1⟩ hC.2.2.2.2.2.1 hc hCt hP hD hS hA hL.1 hcat hd ⟨hR.1, by omega, by omega, by omega⟩ (fun ws H1 locs1 hw hP2 hD2 hS1 => ?_)
  exact kk ws hw l p e R s m args below meth c A H1 locs1 ls (cells + mc2) (slots + ms2) Q hC hA ⟨hR.1, hR.2.1, by omega, by omega⟩ hP2 hD2 hS1 hL (fun H' locs' ws' pc' ls' b1 b2 b3 b4 b5 => by rw [show cells + mc2 + mc = cells + (mc + mc2) by omega, show slots + ms2 + ms = slots + (ms + ms2) by omega]; exact hQ H' locs' ws' pc' ls' b1 b2 b3 b4 b5)
end EK
