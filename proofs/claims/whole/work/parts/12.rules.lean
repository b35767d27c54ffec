/-! the rules of Ev -/
theorem i_rt {a : Int} (h : -2147483648 ≤ a ∧ a ≤ 2147483647) : (Int32.ofInt a).toInt = a := Int32.toInt_ofInt_of_le (by omega) (by omega)
theorem l_rt {a : Int} (h : -9223372036854775808 ≤ a ∧ a ≤ 9223372036854775807) : (Int64.ofInt a).toInt = a := Int64.toInt_ofInt_of_le (by omega) (by omega)
theorem i_lt {a b : Int} (ha : -2147483648 ≤ a ∧ a ≤ 2147483647) (hb : -2147483648 ≤ b ∧ b ≤ 2147483647) : Int32.ofInt a < Int32.ofInt b ↔ a < b := by rw [Int32.lt_iff_toInt_lt, i_rt ha, i_rt hb]
theorem i_le {a b : Int} (ha : -2147483648 ≤ a ∧ a ≤ 2147483647) (hb : -2147483648 ≤ b ∧ b ≤ 2147483647) : Int32.ofInt a ≤ Int32.ofInt b ↔ a ≤ b := by rw [Int32.le_iff_toInt_le, i_rt ha, i_rt hb]
theorem i_eq {a b : Int} (ha : -2147483648 ≤ a ∧ a ≤ 2147483647) (hb : -2147483648 ≤ b ∧ b ≤ 2147483647) : Int32.ofInt a = Int32.ofInt b ↔ a = b := by rw [← Int32.toInt_inj, i_rt ha, i_rt hb]
theorem l_lt {a b : Int} (ha : -9223372036854775808 ≤ a ∧ a ≤ 9223372036854775807) (hb : -9223372036854775808 ≤ b ∧ b ≤ 9223372036854775807) : Int64.ofInt a < Int64.ofInt b ↔ a < b := by rw [Int64.lt_iff_toInt_lt, l_rt ha, l_rt hb]
theorem l_eq {a b : Int} (ha : -9223372036854775808 ≤ a ∧ a ≤ 9223372036854775807) (hb : -9223372036854775808 ≤ b ∧ b ≤ 9223372036854775807) : Int64.ofInt a = Int64.ofInt b ↔ a = b := by rw [← Int64.toInt_inj, l_rt ha, l_rt hb]
theorem i_cl {j n : Nat} (h : j < n) (hn : n ≤ 2147483647) : (Int32.ofInt (j : Int)).toNatClampNeg = j := by
  show (Int32.ofInt (j : Int)).toInt.toNat = j
  rw [i_rt (by omega)]
  rfl
theorem i_in {j n : Nat} (h : j < n) (hn : n ≤ 2147483647) : vp_in (Int32.ofInt (j : Int)) n := by
  rw [vp_in_iff, i_rt (by omega)]
  omega
def iOr (a b : Int) : Int := (Int32.ofInt a ||| Int32.ofInt b).toInt
def iAnd (a b : Int) : Int := (Int32.ofInt a &&& Int32.ofInt b).toInt
def iShl (a b : Int) : Int := (Int32.ofInt a <<< (Int32.ofInt b &&& 31)).toInt
def iShr (a b : Int) : Int := (Int32.ofInt a >>> (Int32.ofInt b &&& 31)).toInt
def iUsh (a b : Int) : Int := ((Int32.ofInt a).toUInt32 >>> ((Int32.ofInt b).toUInt32 &&& Int32.toUInt32 31)).toInt32.toInt
def iB (a : Int) : Int := (Int32.ofInt a).toInt8.toInt32.toInt
def iS (a : Int) : Int := (Int32.ofInt a).toInt16.toInt32.toInt
def lc (a b : Int) : Int := if b < a then 1 else if a = b then 0 else -1
section EV
variable {w : Scr} {d : Nat} {y : Mth} {pc pc2 : Nat} {lv st : List Value} {σ : St} {post : Option Value → St → Prop}
theorem ev_p {st2 : List Value} (h : ∀ (l : Launch) (g : Gw) (p : Program) (e : Env) (R : Room) (s : State) (m : MethodId) (args : Array Value) (below : List Frame) (meth : Method) (c : Code) (H : Heap) (locs : List Loc) (ls : Array Slot) (cells slots : Nat) (Q : State → Prop), Cx w g y p s m args c → Lh g ls y.2.2.2.1 lv → W p l e R s m args below meth c H locs cells slots Q (F0 m pc2 ls (st2.map (cv g))) → W p l e R s m args below meth c H locs cells slots Q (F0 m pc ls (st.map (cv g))))
    (k : EvG w d y pc2 lv st2 σ post) : EvG w d y pc lv st σ post := fun l g p e R s m args below meth c H locs ls cells slots Q a1 a2 a3 a4 a5 => h l g p e R s m args below meth c H locs ls cells slots Q a1 a4 (k l g p e R s m args below meth c H locs ls cells slots Q a1 a2 a3 a4 a5)
theorem ev_pl {st2 lv2 : List Value} (h : ∀ (l : Launch) (g : Gw) (p : Program) (e : Env) (R : Room) (s : State) (m : MethodId) (args : Array Value) (below : List Frame) (meth : Method) (c : Code) (H : Heap) (locs : List Loc) (ls : Array Slot) (cells slots : Nat) (Q : State → Prop), Cx w g y p s m args c → Lh g ls y.2.2.2.1 lv → (∀ ls', Lh g ls' y.2.2.2.1 lv2 → W p l e R s m args below meth c H locs cells slots Q (F0 m pc2 ls' (st2.map (cv g)))) → W p l e R s m args below meth c H locs cells slots Q (F0 m pc ls (st.map (cv g))))
    (k : EvG w d y pc2 lv2 st2 σ post) : EvG w d y pc lv st σ post := fun l g p e R s m args below meth c H locs ls cells slots Q a1 a2 a3 a4 a5 => h l g p e R s m args below meth c H locs ls cells slots Q a1 a4 (fun ls' h' => k l g p e R s m args below meth c H locs ls' cells slots Q a1 a2 a3 h' a5)
theorem ev_w {st2 : List Value} {τ : St} (h : ∀ (l : Launch) (g : Gw) (p : Program) (e : Env) (R : Room) (s : State) (m : MethodId) (args : Array Value) (below : List Frame) (meth : Method) (c : Code) (H : Heap) (locs : List Loc) (ls : Array Slot) (cells slots : Nat) (Q : State → Prop), Cx w g y p s m args c → Fit R d cells slots → Wd g σ s H locs → Lh g ls y.2.2.2.1 lv → (∀ H' locs', Wd g τ s H' locs' → W p l e R s m args below meth c H' locs' cells slots Q (F0 m pc2 ls (st2.map (cv g)))) → W p l e R s m args below meth c H locs cells slots Q (F0 m pc ls (st.map (cv g))))
    (k : EvG w d y pc2 lv st2 τ post) : EvG w d y pc lv st σ post := fun l g p e R s m args below meth c H locs ls cells slots Q a1 a2 a3 a4 a5 => h l g p e R s m args below meth c H locs ls cells slots Q a1 a2 a3 a4 (fun H' locs' h' => k l g p e R s m args below meth c H' locs' ls cells slots Q a1 a2 h' a4 a5)
theorem ev_mono {q : Option Value → St → Prop} (h : ∀ r τ, q r τ → post r τ) (k : EvG w d y pc lv st σ q) : EvG w d y pc lv st σ post := fun l g p e R s m args below meth c H locs ls cells slots Q a1 a2 a3 a4 a5 => k l g p e R s m args below meth c H locs ls cells slots Q a1 a2 a3 a4 (fun H' locs' r τ pc' ls' hp => a5 H' locs' r τ pc' ls' (h r τ hp))
theorem ev_iconst {n : Int} (hN : Nx y.2.2.1 pc (.iconst n) 1 pc2) (k : EvG w d y pc2 lv (vi n :: st) σ post) : EvG w d y pc lv st σ post := by
  obtain ⟨hd, rfl⟩ := hN
  exact ev_p (fun _ _ _ _ _ _ _ _ _ _ _ _ _ _ _ _ _ hC hL kk => lv_iconst hC.1 hC.2.1 hd rfl kk) k
theorem ev_bipush {n : Int} (hN : Nx y.2.2.1 pc (.bipush n) 2 pc2) (hv : (Int8.ofInt n).toInt32 = Int32.ofInt n) (k : EvG w d y pc2 lv (vi n :: st) σ post) : EvG w d y pc lv st σ post := by
  obtain ⟨hd, rfl⟩ := hN
  exact ev_p (fun _ _ _ _ _ _ _ _ _ _ _ _ _ _ _ _ _ hC hL kk => lv_bipush hC.1 hC.2.1 hd hv kk) k
theorem ev_sipush {n : Int} (hN : Nx y.2.2.1 pc (.sipush n) 3 pc2) (hv : (Int16.ofInt n).toInt32 = Int32.ofInt n) (k : EvG w d y pc2 lv (vi n :: st) σ post) : EvG w d y pc lv st σ post := by
  obtain ⟨hd, rfl⟩ := hN
  exact ev_p (fun _ _ _ _ _ _ _ _ _ _ _ _ _ _ _ _ _ hC hL kk => lv_sipush hC.1 hC.2.1 hd hv kk) k
theorem ev_lconst {n : Fin 2} (z : Int) (hN : Nx y.2.2.1 pc (.lconst n) 1 pc2) (hv : Int64.ofNat (n : Nat) = Int64.ofInt z) (k : EvG w d y pc2 lv (vl z :: st) σ post) : EvG w d y pc lv st σ post := by
  obtain ⟨hd, rfl⟩ := hN
  exact ev_p (fun _ _ _ _ _ _ _ _ _ _ _ _ _ _ _ _ _ hC hL kk => lv_lconst hC.1 hC.2.1 hd hv kk) k
theorem ev_ldc {i : Nat} {z : Int} (hN : Nx y.2.2.1 pc (.ldc i) 2 pc2) (hw : Cond.constant y.1 i (Int32.ofInt z) ∈ lw_good) (k : EvG w d y pc2 lv (vi z :: st) σ post) : EvG w d y pc lv st σ post := by
  obtain ⟨hd, rfl⟩ := hN
  exact ev_p (fun _ _ _ _ _ _ _ _ _ _ _ _ _ _ _ _ _ hC hL kk => lv_ldc hC.1 hC.2.1 hC.2.2.2.1 (hC.2.2.2.2.1 _ hw) hd kk) k
theorem ev_ldc_w {i : Nat} {z : Int} (hN : Nx y.2.2.1 pc (.ldc_w i) 3 pc2) (hw : Cond.constant y.1 i (Int32.ofInt z) ∈ lw_good) (k : EvG w d y pc2 lv (vi z :: st) σ post) : EvG w d y pc lv st σ post := by
  obtain ⟨hd, rfl⟩ := hN
  exact ev_p (fun _ _ _ _ _ _ _ _ _ _ _ _ _ _ _ _ _ hC hL kk => lv_ldcw hC.1 hC.2.1 hC.2.2.2.1 (hC.2.2.2.2.1 _ hw) hd kk) k
theorem ev_ldc2 {i : Nat} {z : Int} (hN : Nx y.2.2.1 pc (.ldc2_w i) 3 pc2) (hw : Cond.constantLong y.1 i (Int64.ofInt z) ∈ lw_good) (k : EvG w d y pc2 lv (vl z :: st) σ post) : EvG w d y pc lv st σ post := by
  obtain ⟨hd, rfl⟩ := hN
  exact ev_p (fun _ _ _ _ _ _ _ _ _ _ _ _ _ _ _ _ _ hC hL kk => lv_ldc2 hC.1 hC.2.1 hC.2.2.2.1 (hC.2.2.2.2.1 _ hw) hd kk) k
theorem ev_iload_n {i : Fin 4} {x : Int} (hN : Nx y.2.2.1 pc (.iload_n i) 1 pc2) (hl : lv[(i : Nat)]? = some (vi x)) (k : EvG w d y pc2 lv (vi x :: st) σ post) : EvG w d y pc lv st σ post := by
  obtain ⟨hd, rfl⟩ := hN
  exact ev_p (fun _ _ _ _ _ _ _ _ _ _ _ _ _ _ _ _ _ hC hL kk => lv_iload_n hC.1 hC.2.1 hd rfl (hL.2.2 _ _ hl rfl) kk) k
theorem ev_iload {i : Nat} {x : Int} (hN : Nx y.2.2.1 pc (.iload i) 2 pc2) (hl : lv[i]? = some (vi x)) (k : EvG w d y pc2 lv (vi x :: st) σ post) : EvG w d y pc lv st σ post := by
  obtain ⟨hd, rfl⟩ := hN
  exact ev_p (fun _ _ _ _ _ _ _ _ _ _ _ _ _ _ _ _ _ hC hL kk => lv_iload hC.1 hC.2.1 hd (hL.2.2 _ _ hl rfl) kk) k
theorem ev_lload_n {i : Fin 4} {x : Int} (hN : Nx y.2.2.1 pc (.lload_n i) 1 pc2) (hl : lv[(i : Nat)]? = some (vl x)) (k : EvG w d y pc2 lv (vl x :: st) σ post) : EvG w d y pc lv st σ post := by
  obtain ⟨hd, rfl⟩ := hN
  exact ev_p (fun _ _ _ _ _ _ _ _ _ _ _ _ _ _ _ _ _ hC hL kk => lv_lload_n hC.1 hC.2.1 hd rfl (hL.2.2 _ _ hl rfl) kk) k
theorem ev_lload {i : Nat} {x : Int} (hN : Nx y.2.2.1 pc (.lload i) 2 pc2) (hl : lv[i]? = some (vl x)) (k : EvG w d y pc2 lv (vl x :: st) σ post) : EvG w d y pc lv st σ post := by
  obtain ⟨hd, rfl⟩ := hN
  exact ev_p (fun _ _ _ _ _ _ _ _ _ _ _ _ _ _ _ _ _ hC hL kk => lv_lload hC.1 hC.2.1 hd (hL.2.2 _ _ hl rfl) kk) k
theorem ev_aload_n {i : Fin 4} {x : Nat} (hN : Nx y.2.2.1 pc (.aload_n i) 1 pc2) (hl : lv[(i : Nat)]? = some (.ref x)) (k : EvG w d y pc2 lv (.ref x :: st) σ post) : EvG w d y pc lv st σ post := by
  obtain ⟨hd, rfl⟩ := hN
  exact ev_p (fun _ _ _ _ _ _ _ _ _ _ _ _ _ _ _ _ _ hC hL kk => lv_aload_n hC.1 hC.2.1 hd rfl (hL.2.2 _ _ hl rfl) kk) k
theorem ev_aload {i : Nat} {x : Nat} (hN : Nx y.2.2.1 pc (.aload i) 2 pc2) (hl : lv[i]? = some (.ref x)) (k : EvG w d y pc2 lv (.ref x :: st) σ post) : EvG w d y pc lv st σ post := by
  obtain ⟨hd, rfl⟩ := hN
  exact ev_p (fun _ _ _ _ _ _ _ _ _ _ _ _ _ _ _ _ _ hC hL kk => lv_aload hC.1 hC.2.1 hd (hL.2.2 _ _ hl rfl) kk) k
theorem ev_istore_n {i : Fin 4} {x : Int} (hN : Nx y.2.2.1 pc (.istore_n i) 1 pc2) (hi : (i : Nat) < y.2.2.2.1) (k : EvG w d y pc2 (st1 lv (i : Nat) (vi x)) st σ post) : EvG w d y pc lv (vi x :: st) σ post := by
  obtain ⟨hd, rfl⟩ := hN
  exact ev_pl (fun _ _ _ _ _ _ _ _ _ _ _ _ _ _ _ _ _ hC hL kk => lv_istore_n hC.1 hC.2.1 hd rfl hL.has hi rfl (fun ls' h' => kk ls' (Lh.of h' (fun j v => st1_mem j v)))) k
theorem ev_istore {i : Nat} {x : Int} (hN : Nx y.2.2.1 pc (.istore i) 2 pc2) (hi : i < y.2.2.2.1) (k : EvG w d y pc2 (st1 lv i (vi x)) st σ post) : EvG w d y pc lv (vi x :: st) σ post := by
  obtain ⟨hd, rfl⟩ := hN
  exact ev_pl (fun _ _ _ _ _ _ _ _ _ _ _ _ _ _ _ _ _ hC hL kk => lv_istore hC.1 hC.2.1 hd hL.has hi rfl (fun ls' h' => kk ls' (Lh.of h' (fun j v => st1_mem j v)))) k
theorem ev_lstore_n {i : Fin 4} {x : Int} (hN : Nx y.2.2.1 pc (.lstore_n i) 1 pc2) (hi : (i : Nat) + 1 < y.2.2.2.1) (k : EvG w d y pc2 (st2 lv (i : Nat) (vl x)) st σ post) : EvG w d y pc lv (vl x :: st) σ post := by
  obtain ⟨hd, rfl⟩ := hN
  exact ev_pl (fun _ _ _ _ _ _ _ _ _ _ _ _ _ _ _ _ _ hC hL kk => lv_lstore_n hC.1 hC.2.1 hd rfl hL.has hi rfl (fun ls' h' => kk ls' (Lh.of h' (fun j v => st2_mem j v)))) k
theorem ev_lstore {i : Nat} {x : Int} (hN : Nx y.2.2.1 pc (.lstore i) 2 pc2) (hi : i + 1 < y.2.2.2.1) (k : EvG w d y pc2 (st2 lv i (vl x)) st σ post) : EvG w d y pc lv (vl x :: st) σ post := by
  obtain ⟨hd, rfl⟩ := hN
  exact ev_pl (fun _ _ _ _ _ _ _ _ _ _ _ _ _ _ _ _ _ hC hL kk => lv_lstore hC.1 hC.2.1 hd hL.has hi rfl (fun ls' h' => kk ls' (Lh.of h' (fun j v => st2_mem j v)))) k
theorem ev_iinc {i : Nat} {n x : Int} (hN : Nx y.2.2.1 pc (.iinc i n) 3 pc2) (hl : lv[i]? = some (vi x)) (hi : i < y.2.2.2.1) (k : EvG w d y pc2 (st1 lv i (vi (x + n))) st σ post) : EvG w d y pc lv st σ post := by
  obtain ⟨hd, rfl⟩ := hN
  refine ev_pl (fun _ g _ _ _ _ _ _ _ _ _ _ _ _ _ _ _ hC hL kk => ?_) k
  obtain ⟨q, hq⟩ := List.getElem?_of_mem (prs_mem (g := g).mpr ⟨vi x, hl, rfl, rfl⟩)
  exact lv_iinc hC.1 hC.2.1 hd hL.has hq (v := Int32.ofInt (x + n)) (Int32.ofInt_add x n).symm hi rfl (fun ls' h' => kk ls' (Lh.of h' (fun j v => st1_mem j v)))
theorem ev_iadd {a b : Int} (hN : Nx y.2.2.1 pc .iadd 1 pc2) (k : EvG w d y pc2 lv (vi (a + b) :: st) σ post) : EvG w d y pc lv (vi b :: vi a :: st) σ post := by
  obtain ⟨hd, rfl⟩ := hN
  exact ev_p (fun _ _ _ _ _ _ _ _ _ _ _ _ _ _ _ _ _ hC hL kk => lv_iadd hC.1 hC.2.1 hd (by rw [← Int32.ofInt_add]; exact kk)) k
theorem ev_ladd {a b : Int} (hN : Nx y.2.2.1 pc .ladd 1 pc2) (k : EvG w d y pc2 lv (vl (a + b) :: st) σ post) : EvG w d y pc lv (vl b :: vl a :: st) σ post := by
  obtain ⟨hd, rfl⟩ := hN
  exact ev_p (fun _ _ _ _ _ _ _ _ _ _ _ _ _ _ _ _ _ hC hL kk => lv_ladd hC.1 hC.2.1 hd (by rw [← Int64.ofInt_add]; exact kk)) k
theorem ev_isub {a b : Int} (hN : Nx y.2.2.1 pc .isub 1 pc2) (k : EvG w d y pc2 lv (vi (a - b) :: st) σ post) : EvG w d y pc lv (vi b :: vi a :: st) σ post := by
  obtain ⟨hd, rfl⟩ := hN
  exact ev_p (fun _ _ _ _ _ _ _ _ _ _ _ _ _ _ _ _ _ hC hL kk => lv_isub hC.1 hC.2.1 hd (by rw [← Int32.ofInt_sub]; exact kk)) k
theorem ev_lsub {a b : Int} (hN : Nx y.2.2.1 pc .lsub 1 pc2) (k : EvG w d y pc2 lv (vl (a - b) :: st) σ post) : EvG w d y pc lv (vl b :: vl a :: st) σ post := by
  obtain ⟨hd, rfl⟩ := hN
  exact ev_p (fun _ _ _ _ _ _ _ _ _ _ _ _ _ _ _ _ _ hC hL kk => lv_lsub hC.1 hC.2.1 hd (by rw [← Int64.ofInt_sub]; exact kk)) k
theorem ev_imul {a b : Int} (hN : Nx y.2.2.1 pc .imul 1 pc2) (k : EvG w d y pc2 lv (vi (a * b) :: st) σ post) : EvG w d y pc lv (vi b :: vi a :: st) σ post := by
  obtain ⟨hd, rfl⟩ := hN
  exact ev_p (fun _ _ _ _ _ _ _ _ _ _ _ _ _ _ _ _ _ hC hL kk => lv_imul hC.1 hC.2.1 hd (by rw [← Int32.ofInt_mul]; exact kk)) k
theorem ev_lmul {a b : Int} (hN : Nx y.2.2.1 pc .lmul 1 pc2) (k : EvG w d y pc2 lv (vl (a * b) :: st) σ post) : EvG w d y pc lv (vl b :: vl a :: st) σ post := by
  obtain ⟨hd, rfl⟩ := hN
  exact ev_p (fun _ _ _ _ _ _ _ _ _ _ _ _ _ _ _ _ _ hC hL kk => lv_lmul hC.1 hC.2.1 hd (by rw [← Int64.ofInt_mul]; exact kk)) k
theorem vi_t (x : Int32) : vi x.toInt = .int x := congrArg Value.int (Int32.ofInt_toInt x)
theorem ev_iand {a b : Int} (hN : Nx y.2.2.1 pc .iand 1 pc2) (k : EvG w d y pc2 lv (vi (iAnd a b) :: st) σ post) : EvG w d y pc lv (vi b :: vi a :: st) σ post := by
  obtain ⟨hd, rfl⟩ := hN
  exact ev_p (fun _ _ _ _ _ _ _ _ _ _ _ _ _ _ _ _ _ hC hL kk => lv_iand hC.1 hC.2.1 hd (by rw [← vi_t (Int32.ofInt a &&& Int32.ofInt b)]; exact kk)) k
theorem ev_ior {a b : Int} (hN : Nx y.2.2.1 pc .ior 1 pc2) (k : EvG w d y pc2 lv (vi (iOr a b) :: st) σ post) : EvG w d y pc lv (vi b :: vi a :: st) σ post := by
  obtain ⟨hd, rfl⟩ := hN
  exact ev_p (fun _ _ _ _ _ _ _ _ _ _ _ _ _ _ _ _ _ hC hL kk => lv_ior hC.1 hC.2.1 hd (by rw [← vi_t (Int32.ofInt a ||| Int32.ofInt b)]; exact kk)) k
theorem ev_ishl {a b : Int} (hN : Nx y.2.2.1 pc .ishl 1 pc2) (k : EvG w d y pc2 lv (vi (iShl a b) :: st) σ post) : EvG w d y pc lv (vi b :: vi a :: st) σ post := by
  obtain ⟨hd, rfl⟩ := hN
  exact ev_p (fun _ _ _ _ _ _ _ _ _ _ _ _ _ _ _ _ _ hC hL kk => lv_ishl hC.1 hC.2.1 hd (by rw [← vi_t (Int32.ofInt a <<< (Int32.ofInt b &&& 31))]; exact kk)) k
theorem ev_ishr {a b : Int} (hN : Nx y.2.2.1 pc .ishr 1 pc2) (k : EvG w d y pc2 lv (vi (iShr a b) :: st) σ post) : EvG w d y pc lv (vi b :: vi a :: st) σ post := by
  obtain ⟨hd, rfl⟩ := hN
  exact ev_p (fun _ _ _ _ _ _ _ _ _ _ _ _ _ _ _ _ _ hC hL kk => lv_ishr hC.1 hC.2.1 hd (by rw [← vi_t (Int32.ofInt a >>> (Int32.ofInt b &&& 31))]; exact kk)) k
theorem ev_iushr {a b : Int} (hN : Nx y.2.2.1 pc .iushr 1 pc2) (k : EvG w d y pc2 lv (vi (iUsh a b) :: st) σ post) : EvG w d y pc lv (vi b :: vi a :: st) σ post := by
  obtain ⟨hd, rfl⟩ := hN
  exact ev_p (fun _ _ _ _ _ _ _ _ _ _ _ _ _ _ _ _ _ hC hL kk => lv_iushr hC.1 hC.2.1 hd (v := Int32.ofInt (iUsh a b)) (Int32.ofInt_toInt _).symm kk) k
theorem ev_ineg {a : Int} (hN : Nx y.2.2.1 pc .ineg 1 pc2) (k : EvG w d y pc2 lv (vi (-a) :: st) σ post) : EvG w d y pc lv (vi a :: st) σ post := by
  obtain ⟨hd, rfl⟩ := hN
  exact ev_p (fun _ _ _ _ _ _ _ _ _ _ _ _ _ _ _ _ _ hC hL kk => lv_ineg hC.1 hC.2.1 hd (by rw [← Int32.ofInt_neg]; exact kk)) k
theorem i_div {a b : Int} (ha : 0 ≤ a ∧ a ≤ 2147483647) (hb : 0 < b ∧ b ≤ 2147483647) : Int32.ofInt a / Int32.ofInt b = Int32.ofInt (a / b) := by
  obtain ⟨m, rfl⟩ := Int.eq_ofNat_of_zero_le ha.1
  obtain ⟨n, rfl⟩ := Int.eq_ofNat_of_zero_le (Int.le_of_lt hb.1)
  have := pk_div (a := m) (d := n) (by omega) (by omega) (by omega)
  exact this
theorem i_rem {a b : Int} (ha : 0 ≤ a ∧ a ≤ 2147483647) (hb : 0 < b ∧ b ≤ 2147483647) : Int32.ofInt a - Int32.ofInt a / Int32.ofInt b * Int32.ofInt b = Int32.ofInt (a % b) := by
  obtain ⟨m, rfl⟩ := Int.eq_ofNat_of_zero_le ha.1
  obtain ⟨n, rfl⟩ := Int.eq_ofNat_of_zero_le (Int.le_of_lt hb.1)
  have := pk_rem (a := m) (d := n) (by omega) (by omega) (by omega)
  exact this
theorem l_div {a b : Int} (ha : 0 ≤ a ∧ a ≤ 9223372036854775807) (hb : 0 < b ∧ b ≤ 9223372036854775807) : Int64.ofInt a / Int64.ofInt b = Int64.ofInt (a / b) := by
  obtain ⟨m, rfl⟩ := Int.eq_ofNat_of_zero_le ha.1
  obtain ⟨n, rfl⟩ := Int.eq_ofNat_of_zero_le (Int.le_of_lt hb.1)
  have := pk_lDiv (a := m) (b := n) (by omega) (by omega) (by omega)
  exact this
theorem l_rem {a b : Int} (ha : 0 ≤ a ∧ a ≤ 9223372036854775807) (hb : 0 < b ∧ b ≤ 9223372036854775807) : Int64.ofInt a - Int64.ofInt a / Int64.ofInt b * Int64.ofInt b = Int64.ofInt (a % b) := by
  obtain ⟨m, rfl⟩ := Int.eq_ofNat_of_zero_le ha.1
  obtain ⟨n, rfl⟩ := Int.eq_ofNat_of_zero_le (Int.le_of_lt hb.1)
  have := pk_lRem (a := m) (b := n) (by omega) (by omega) (by omega)
  exact this
theorem i_ne0 {b : Int} (hb : 0 < b ∧ b ≤ 2147483647) : ¬ Int32.ofInt b = 0 := by
  intro h
  have := (i_eq (a := b) (b := 0) (by omega) (by omega)).mp h
  omega
theorem l_ne0 {b : Int} (hb : 0 < b ∧ b ≤ 9223372036854775807) : ¬ Int64.ofInt b = 0 := by
  intro h
  have := (l_eq (a := b) (b := 0) (by omega) (by omega)).mp h
  omega
theorem ev_idiv {a b : Int} (hN : Nx y.2.2.1 pc .idiv 1 pc2) (ha : 0 ≤ a ∧ a ≤ 2147483647) (hb : 0 < b ∧ b ≤ 2147483647) (k : EvG w d y pc2 lv (vi (a / b) :: st) σ post) : EvG w d y pc lv (vi b :: vi a :: st) σ post := by
  obtain ⟨hd, rfl⟩ := hN
  exact ev_p (fun _ _ _ _ _ _ _ _ _ _ _ _ _ _ _ _ _ hC hL kk => lv_idiv hC.1 hC.2.1 hd (i_ne0 hb) (by rw [i_div ha hb]; exact kk)) k
theorem ev_irem {a b : Int} (hN : Nx y.2.2.1 pc .irem 1 pc2) (ha : 0 ≤ a ∧ a ≤ 2147483647) (hb : 0 < b ∧ b ≤ 2147483647) (k : EvG w d y pc2 lv (vi (a % b) :: st) σ post) : EvG w d y pc lv (vi b :: vi a :: st) σ post := by
  obtain ⟨hd, rfl⟩ := hN
  exact ev_p (fun _ _ _ _ _ _ _ _ _ _ _ _ _ _ _ _ _ hC hL kk => lv_irem hC.1 hC.2.1 hd (i_ne0 hb) (by rw [i_rem ha hb]; exact kk)) k
theorem ev_ldiv {a b : Int} (hN : Nx y.2.2.1 pc .ldiv 1 pc2) (ha : 0 ≤ a ∧ a ≤ 9223372036854775807) (hb : 0 < b ∧ b ≤ 9223372036854775807) (k : EvG w d y pc2 lv (vl (a / b) :: st) σ post) : EvG w d y pc lv (vl b :: vl a :: st) σ post := by
  obtain ⟨hd, rfl⟩ := hN
  exact ev_p (fun _ _ _ _ _ _ _ _ _ _ _ _ _ _ _ _ _ hC hL kk => lv_ldiv hC.1 hC.2.1 hd (l_ne0 hb) (by rw [l_div ha hb]; exact kk)) k
theorem ev_lrem {a b : Int} (hN : Nx y.2.2.1 pc .lrem 1 pc2) (ha : 0 ≤ a ∧ a ≤ 9223372036854775807) (hb : 0 < b ∧ b ≤ 9223372036854775807) (k : EvG w d y pc2 lv (vl (a % b) :: st) σ post) : EvG w d y pc lv (vl b :: vl a :: st) σ post := by
  obtain ⟨hd, rfl⟩ := hN
  exact ev_p (fun _ _ _ _ _ _ _ _ _ _ _ _ _ _ _ _ _ hC hL kk => lv_lrem hC.1 hC.2.1 hd (l_ne0 hb) (by rw [l_rem ha hb]; exact kk)) k
theorem ev_lcmp {a b : Int} (hN : Nx y.2.2.1 pc .lcmp 1 pc2) (ha : -9223372036854775808 ≤ a ∧ a ≤ 9223372036854775807) (hb : -9223372036854775808 ≤ b ∧ b ≤ 9223372036854775807) (k : EvG w d y pc2 lv (vi (lc a b) :: st) σ post) : EvG w d y pc lv (vl b :: vl a :: st) σ post := by
  obtain ⟨hd, rfl⟩ := hN
  refine ev_p (fun _ _ _ _ _ _ _ _ _ _ _ _ _ _ _ _ _ hC hL kk => W.lcmp hC.1 hC.2.1 hd ?_) k
  have e : lg_cmp (Int64.ofInt a) (Int64.ofInt b) = Int32.ofInt (lc a b) := by
    unfold lg_cmp lc
    by_cases h1 : b < a
    · rw [if_pos h1, if_pos (show Int64.ofInt a > Int64.ofInt b from (l_lt hb ha).mpr h1)]; rfl
    · rw [if_neg h1, if_neg (show ¬ Int64.ofInt a > Int64.ofInt b from fun q => h1 ((l_lt hb ha).mp q))]
      by_cases h2 : a = b
      · rw [if_pos h2, if_pos (by rw [h2])]; rfl
      · rw [if_neg h2, if_neg (fun q => h2 ((l_eq ha hb).mp q))]; rfl
  rw [e]
  exact kk
theorem ev_i2l {a : Int} (hN : Nx y.2.2.1 pc .i2l 1 pc2) (ha : -2147483648 ≤ a ∧ a ≤ 2147483647) (k : EvG w d y pc2 lv (vl a :: st) σ post) : EvG w d y pc lv (vi a :: st) σ post := by
  obtain ⟨hd, rfl⟩ := hN
  exact ev_p (fun _ _ _ _ _ _ _ _ _ _ _ _ _ _ _ _ _ hC hL kk => lv_i2l hC.1 hC.2.1 hd (Int32.toInt64_ofInt (by show (-2147483648 : Int) ≤ a; omega) (by show a ≤ (2147483647 : Int); omega)) kk) k
theorem ev_l2i {a : Int} (hN : Nx y.2.2.1 pc .l2i 1 pc2) (k : EvG w d y pc2 lv (vi a :: st) σ post) : EvG w d y pc lv (vl a :: st) σ post := by
  obtain ⟨hd, rfl⟩ := hN
  exact ev_p (fun _ _ _ _ _ _ _ _ _ _ _ _ _ _ _ _ _ hC hL kk => lv_l2i hC.1 hC.2.1 hd Int64.toInt32_ofInt kk) k
theorem ev_i2b {a : Int} (hN : Nx y.2.2.1 pc .i2b 1 pc2) (k : EvG w d y pc2 lv (vi (iB a) :: st) σ post) : EvG w d y pc lv (vi a :: st) σ post := by
  obtain ⟨hd, rfl⟩ := hN
  exact ev_p (fun _ _ _ _ _ _ _ _ _ _ _ _ _ _ _ _ _ hC hL kk => lv_i2b hC.1 hC.2.1 hd (v := Int32.ofInt (iB a)) (Int32.ofInt_toInt _).symm kk) k
theorem ev_i2s {a : Int} (hN : Nx y.2.2.1 pc .i2s 1 pc2) (k : EvG w d y pc2 lv (vi (iS a) :: st) σ post) : EvG w d y pc lv (vi a :: st) σ post := by
  obtain ⟨hd, rfl⟩ := hN
  exact ev_p (fun _ _ _ _ _ _ _ _ _ _ _ _ _ _ _ _ _ hC hL kk => lv_i2s hC.1 hC.2.1 hd (v := Int32.ofInt (iS a)) (Int32.ofInt_toInt _).symm kk) k
theorem ev_dup {v : Value} (hN : Nx y.2.2.1 pc .dup 1 pc2) (hv : v.category = 1) (k : EvG w d y pc2 lv (v :: v :: st) σ post) : EvG w d y pc lv (v :: st) σ post := by
  obtain ⟨hd, rfl⟩ := hN
  exact ev_p (fun _ _ _ _ _ _ _ _ _ _ _ _ _ _ _ _ _ hC hL kk => lv_dup hC.1 hC.2.1 hd ((cv_cat _ _).trans hv) kk) k
theorem ev_pop {v : Value} (hN : Nx y.2.2.1 pc .pop 1 pc2) (hv : v.category = 1) (k : EvG w d y pc2 lv st σ post) : EvG w d y pc lv (v :: st) σ post := by
  obtain ⟨hd, rfl⟩ := hN
  exact ev_p (fun _ _ _ _ _ _ _ _ _ _ _ _ _ _ _ _ _ hC hL kk => lv_pop hC.1 hC.2.1 hd ((cv_cat _ _).trans hv) kk) k
theorem ev_dup2 {v u : Value} (hN : Nx y.2.2.1 pc .dup2 1 pc2) (hv : v.category = 1) (hw : u.category = 1) (k : EvG w d y pc2 lv (v :: u :: v :: u :: st) σ post) : EvG w d y pc lv (v :: u :: st) σ post := by
  obtain ⟨hd, rfl⟩ := hN
  exact ev_p (fun _ _ _ _ _ _ _ _ _ _ _ _ _ _ _ _ _ hC hL kk => lv_dup2_11 hC.1 hC.2.1 hd ((cv_cat _ _).trans hv) ((cv_cat _ _).trans hw) kk) k
theorem ev_goto {off : Int} (tgt : Nat) (hN : Nx y.2.2.1 pc (.goto off) 3 pc2) (ht : (pc : Int) + off = (tgt : Int)) (k : EvG w d y tgt lv st σ post) : EvG w d y pc lv st σ post := by
  obtain ⟨hd, rfl⟩ := hN
  exact ev_p (fun _ _ _ _ _ _ _ _ _ _ _ _ _ _ _ _ _ hC hL kk => lv_goto hC.1 hC.2.1 hd ht kk) k
theorem ev_icmp_eq {a b : Int} {off : Int} (tgt : Nat) (hN : Nx y.2.2.1 pc (.if_icmp .eq off) 3 pc2) (ht : (pc : Int) + off = (tgt : Int)) (ha : -2147483648 ≤ a ∧ a ≤ 2147483647) (hb : -2147483648 ≤ b ∧ b ≤ 2147483647) (kt : a = b → EvG w d y tgt lv st σ post) (kf : a ≠ b → EvG w d y pc2 lv st σ post) : EvG w d y pc lv (vi b :: vi a :: st) σ post := by
  obtain ⟨hd, rfl⟩ := hN
  exact fun l g p e R s m args below meth c H locs ls cells slots Q a1 a2 a3 a4 a5 => lv_icmp_eq a1.1 a1.2.1 hd ht (fun h => kt ((i_eq ha hb).mp h) l g p e R s m args below meth c H locs ls cells slots Q a1 a2 a3 a4 a5) (fun h => kf (fun q => h ((i_eq ha hb).mpr q)) l g p e R s m args below meth c H locs ls cells slots Q a1 a2 a3 a4 a5)
theorem ev_if_eq {a : Int} {off : Int} (tgt : Nat) (hN : Nx y.2.2.1 pc (.ifCond .eq off) 3 pc2) (ht : (pc : Int) + off = (tgt : Int)) (ha : -2147483648 ≤ a ∧ a ≤ 2147483647) (kt : a = 0 → EvG w d y tgt lv st σ post) (kf : a ≠ 0 → EvG w d y pc2 lv st σ post) : EvG w d y pc lv (vi a :: st) σ post := by
  obtain ⟨hd, rfl⟩ := hN
  exact fun l g p e R s m args below meth c H locs ls cells slots Q a1 a2 a3 a4 a5 => lv_if_eq a1.1 a1.2.1 hd ht (fun h => kt ((i_eq (b := 0) ha (by omega)).mp h) l g p e R s m args below meth c H locs ls cells slots Q a1 a2 a3 a4 a5) (fun h => kf (fun q => h ((i_eq (b := 0) ha (by omega)).mpr q)) l g p e R s m args below meth c H locs ls cells slots Q a1 a2 a3 a4 a5)
theorem ev_icmp_ne {a b : Int} {off : Int} (tgt : Nat) (hN : Nx y.2.2.1 pc (.if_icmp .ne off) 3 pc2) (ht : (pc : Int) + off = (tgt : Int)) (ha : -2147483648 ≤ a ∧ a ≤ 2147483647) (hb : -2147483648 ≤ b ∧ b ≤ 2147483647) (kt : a ≠ b → EvG w d y tgt lv st σ post) (kf : a = b → EvG w d y pc2 lv st σ post) : EvG w d y pc lv (vi b :: vi a :: st) σ post := by
  obtain ⟨hd, rfl⟩ := hN
  exact fun l g p e R s m args below meth c H locs ls cells slots Q a1 a2 a3 a4 a5 => lv_icmp_ne a1.1 a1.2.1 hd ht (fun h => kt (fun q => h ((i_eq ha hb).mpr q)) l g p e R s m args below meth c H locs ls cells slots Q a1 a2 a3 a4 a5) (fun h => kf ((i_eq ha hb).mp h) l g p e R s m args below meth c H locs ls cells slots Q a1 a2 a3 a4 a5)
theorem ev_if_ne {a : Int} {off : Int} (tgt : Nat) (hN : Nx y.2.2.1 pc (.ifCond .ne off) 3 pc2) (ht : (pc : Int) + off = (tgt : Int)) (ha : -2147483648 ≤ a ∧ a ≤ 2147483647) (kt : a ≠ 0 → EvG w d y tgt lv st σ post) (kf : a = 0 → EvG w d y pc2 lv st σ post) : EvG w d y pc lv (vi a :: st) σ post := by
  obtain ⟨hd, rfl⟩ := hN
  exact fun l g p e R s m args below meth c H locs ls cells slots Q a1 a2 a3 a4 a5 => lv_if_ne a1.1 a1.2.1 hd ht (fun h => kt (fun q => h ((i_eq (b := 0) ha (by omega)).mpr q)) l g p e R s m args below meth c H locs ls cells slots Q a1 a2 a3 a4 a5) (fun h => kf ((i_eq (b := 0) ha (by omega)).mp h) l g p e R s m args below meth c H locs ls cells slots Q a1 a2 a3 a4 a5)
theorem ev_icmp_lt {a b : Int} {off : Int} (tgt : Nat) (hN : Nx y.2.2.1 pc (.if_icmp .lt off) 3 pc2) (ht : (pc : Int) + off = (tgt : Int)) (ha : -2147483648 ≤ a ∧ a ≤ 2147483647) (hb : -2147483648 ≤ b ∧ b ≤ 2147483647) (kt : a < b → EvG w d y tgt lv st σ post) (kf : b ≤ a → EvG w d y pc2 lv st σ post) : EvG w d y pc lv (vi b :: vi a :: st) σ post := by
  obtain ⟨hd, rfl⟩ := hN
  exact fun l g p e R s m args below meth c H locs ls cells slots Q a1 a2 a3 a4 a5 => lv_icmp_lt a1.1 a1.2.1 hd ht (fun h => kt ((i_lt ha hb).mp h) l g p e R s m args below meth c H locs ls cells slots Q a1 a2 a3 a4 a5) (fun h => kf (Int.not_lt.mp (fun q => h ((i_lt ha hb).mpr q))) l g p e R s m args below meth c H locs ls cells slots Q a1 a2 a3 a4 a5)
theorem ev_if_lt {a : Int} {off : Int} (tgt : Nat) (hN : Nx y.2.2.1 pc (.ifCond .lt off) 3 pc2) (ht : (pc : Int) + off = (tgt : Int)) (ha : -2147483648 ≤ a ∧ a ≤ 2147483647) (kt : a < 0 → EvG w d y tgt lv st σ post) (kf : 0 ≤ a → EvG w d y pc2 lv st σ post) : EvG w d y pc lv (vi a :: st) σ post := by
  obtain ⟨hd, rfl⟩ := hN
  exact fun l g p e R s m args below meth c H locs ls cells slots Q a1 a2 a3 a4 a5 => lv_if_lt a1.1 a1.2.1 hd ht (fun h => kt ((i_lt (b := 0) ha (by omega)).mp h) l g p e R s m args below meth c H locs ls cells slots Q a1 a2 a3 a4 a5) (fun h => kf (Int.not_lt.mp (fun q => h ((i_lt (b := 0) ha (by omega)).mpr q))) l g p e R s m args below meth c H locs ls cells slots Q a1 a2 a3 a4 a5)
theorem ev_icmp_ge {a b : Int} {off : Int} (tgt : Nat) (hN : Nx y.2.2.1 pc (.if_icmp .ge off) 3 pc2) (ht : (pc : Int) + off = (tgt : Int)) (ha : -2147483648 ≤ a ∧ a ≤ 2147483647) (hb : -2147483648 ≤ b ∧ b ≤ 2147483647) (kt : b ≤ a → EvG w d y tgt lv st σ post) (kf : a < b → EvG w d y pc2 lv st σ post) : EvG w d y pc lv (vi b :: vi a :: st) σ post := by
  obtain ⟨hd, rfl⟩ := hN
  exact fun l g p e R s m args below meth c H locs ls cells slots Q a1 a2 a3 a4 a5 => lv_icmp_ge a1.1 a1.2.1 hd ht (fun h => kt ((i_le hb ha).mp h) l g p e R s m args below meth c H locs ls cells slots Q a1 a2 a3 a4 a5) (fun h => kf (Int.not_le.mp (fun q => h ((i_le hb ha).mpr q))) l g p e R s m args below meth c H locs ls cells slots Q a1 a2 a3 a4 a5)
theorem ev_if_ge {a : Int} {off : Int} (tgt : Nat) (hN : Nx y.2.2.1 pc (.ifCond .ge off) 3 pc2) (ht : (pc : Int) + off = (tgt : Int)) (ha : -2147483648 ≤ a ∧ a ≤ 2147483647) (kt : 0 ≤ a → EvG w d y tgt lv st σ post) (kf : a < 0 → EvG w d y pc2 lv st σ post) : EvG w d y pc lv (vi a :: st) σ post := by
  obtain ⟨hd, rfl⟩ := hN
  exact fun l g p e R s m args below meth c H locs ls cells slots Q a1 a2 a3 a4 a5 => lv_if_ge a1.1 a1.2.1 hd ht (fun h => kt ((i_le (a := 0) (by omega) ha).mp h) l g p e R s m args below meth c H locs ls cells slots Q a1 a2 a3 a4 a5) (fun h => kf (Int.not_le.mp (fun q => h ((i_le (a := 0) (by omega) ha).mpr q))) l g p e R s m args below meth c H locs ls cells slots Q a1 a2 a3 a4 a5)
theorem ev_icmp_gt {a b : Int} {off : Int} (tgt : Nat) (hN : Nx y.2.2.1 pc (.if_icmp .gt off) 3 pc2) (ht : (pc : Int) + off = (tgt : Int)) (ha : -2147483648 ≤ a ∧ a ≤ 2147483647) (hb : -2147483648 ≤ b ∧ b ≤ 2147483647) (kt : b < a → EvG w d y tgt lv st σ post) (kf : a ≤ b → EvG w d y pc2 lv st σ post) : EvG w d y pc lv (vi b :: vi a :: st) σ post := by
  obtain ⟨hd, rfl⟩ := hN
  exact fun l g p e R s m args below meth c H locs ls cells slots Q a1 a2 a3 a4 a5 => lv_icmp_gt a1.1 a1.2.1 hd ht (fun h => kt ((i_lt hb ha).mp h) l g p e R s m args below meth c H locs ls cells slots Q a1 a2 a3 a4 a5) (fun h => kf (Int.not_lt.mp (fun q => h ((i_lt hb ha).mpr q))) l g p e R s m args below meth c H locs ls cells slots Q a1 a2 a3 a4 a5)
theorem ev_if_gt {a : Int} {off : Int} (tgt : Nat) (hN : Nx y.2.2.1 pc (.ifCond .gt off) 3 pc2) (ht : (pc : Int) + off = (tgt : Int)) (ha : -2147483648 ≤ a ∧ a ≤ 2147483647) (kt : 0 < a → EvG w d y tgt lv st σ post) (kf : a ≤ 0 → EvG w d y pc2 lv st σ post) : EvG w d y pc lv (vi a :: st) σ post := by
  obtain ⟨hd, rfl⟩ := hN
  exact fun l g p e R s m args below meth c H locs ls cells slots Q a1 a2 a3 a4 a5 => lv_if_gt a1.1 a1.2.1 hd ht (fun h => kt ((i_lt (a := 0) (by omega) ha).mp h) l g p e R s m args below meth c H locs ls cells slots Q a1 a2 a3 a4 a5) (fun h => kf (Int.not_lt.mp (fun q => h ((i_lt (a := 0) (by omega) ha).mpr q))) l g p e R s m args below meth c H locs ls cells slots Q a1 a2 a3 a4 a5)
theorem ev_icmp_le {a b : Int} {off : Int} (tgt : Nat) (hN : Nx y.2.2.1 pc (.if_icmp .le off) 3 pc2) (ht : (pc : Int) + off = (tgt : Int)) (ha : -2147483648 ≤ a ∧ a ≤ 2147483647) (hb : -2147483648 ≤ b ∧ b ≤ 2147483647) (kt : a ≤ b → EvG w d y tgt lv st σ post) (kf : b < a → EvG w d y pc2 lv st σ post) : EvG w d y pc lv (vi b :: vi a :: st) σ post := by
  obtain ⟨hd, rfl⟩ := hN
  exact fun l g p e R s m args below meth c H locs ls cells slots Q a1 a2 a3 a4 a5 => lv_icmp_le a1.1 a1.2.1 hd ht (fun h => kt ((i_le ha hb).mp h) l g p e R s m args below meth c H locs ls cells slots Q a1 a2 a3 a4 a5) (fun h => kf (Int.not_le.mp (fun q => h ((i_le ha hb).mpr q))) l g p e R s m args below meth c H locs ls cells slots Q a1 a2 a3 a4 a5)
theorem ev_if_le {a : Int} {off : Int} (tgt : Nat) (hN : Nx y.2.2.1 pc (.ifCond .le off) 3 pc2) (ht : (pc : Int) + off = (tgt : Int)) (ha : -2147483648 ≤ a ∧ a ≤ 2147483647) (kt : a ≤ 0 → EvG w d y tgt lv st σ post) (kf : 0 < a → EvG w d y pc2 lv st σ post) : EvG w d y pc lv (vi a :: st) σ post := by
  obtain ⟨hd, rfl⟩ := hN
  exact fun l g p e R s m args below meth c H locs ls cells slots Q a1 a2 a3 a4 a5 => lv_if_le a1.1 a1.2.1 hd ht (fun h => kt ((i_le (b := 0) ha (by omega)).mp h) l g p e R s m args below meth c H locs ls cells slots Q a1 a2 a3 a4 a5) (fun h => kf (Int.not_le.mp (fun q => h ((i_le (b := 0) ha (by omega)).mpr q))) l g p e R s m args below meth c H locs ls cells slots Q a1 a2 a3 a4 a5)
theorem ev_tswO {dflt lo hi : Int} {offs : Array Int} {n : Nat} {x : Int} (tgt : Nat) (hN : Nx y.2.2.1 pc (.tableswitch dflt lo hi offs) n pc2) (hx : -2147483648 ≤ x ∧ x ≤ 2147483647) (h : x < lo ∨ hi < x) (ht : (pc : Int) + dflt = (tgt : Int)) (k : EvG w d y tgt lv st σ post) : EvG w d y pc lv (vi x :: st) σ post := by
  obtain ⟨hd, rfl⟩ := hN
  exact ev_p (fun _ _ _ _ _ _ _ _ _ _ _ _ _ _ _ _ _ hC hL kk => lv_tableOut hC.1 hC.2.1 hd (by rw [i_rt hx]; exact h) ht kk) k
theorem ev_tswI {dflt lo hi off : Int} {offs : Array Int} {n : Nat} {x : Int} (tgt : Nat) (hN : Nx y.2.2.1 pc (.tableswitch dflt lo hi offs) n pc2) (hx : -2147483648 ≤ x ∧ x ≤ 2147483647) (h : lo ≤ x ∧ x ≤ hi) (ho : offs[(x - lo).toNat]? = some off) (ht : (pc : Int) + off = (tgt : Int)) (k : EvG w d y tgt lv st σ post) : EvG w d y pc lv (vi x :: st) σ post := by
  obtain ⟨hd, rfl⟩ := hN
  exact ev_p (fun _ _ _ _ _ _ _ _ _ _ _ _ _ _ _ _ _ hC hL kk => lv_tableIn hC.1 hC.2.1 hd (by rw [i_rt hx]; omega) (by rw [i_rt hx]; omega) (by rw [i_rt hx]; exact ho) ht kk) k
end EV
