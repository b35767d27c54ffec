/-! more rules: values by equations, booleans, longs compared, calls by their number of arguments -/
def bI (P : Prop) [Decidable P] : Int := if P then 1 else 0
theorem bI01 (P : Prop) {_ : Decidable P} : bI P = 0 ∨ bI P = 1 := by
  unfold bI
  split
  · exact Or.inr rfl
  · exact Or.inl rfl
theorem bI_t {P : Prop} {_ : Decidable P} (h : P) : bI P = 1 := by simp [bI, h]
theorem bI_f {P : Prop} {_ : Decidable P} (h : ¬ P) : bI P = 0 := by simp [bI, h]
def rl (r : Option Value) (l : List Value) : List Value := match r with
  | none => l
  | some v => v :: l
theorem rl_eq (r : Option Value) (l : List Value) : r.toList ++ l = rl r l := by cases r <;> rfl
section EM
variable {w : Scr} {d : Nat} {y : Mth} {pc pc2 : Nat} {lv st : List Value} {σ : St} {post : Option Value → St → Prop}
theorem ev_ialdv {k n : Nat} {i x : Int} (j : Nat) (hN : Nx y.2.2.1 pc .iaload 1 pc2) (ha : ak k = some (1, n)) (hi : i = (j : Int)) (hj : j < n) (hv : σ k j = x) (kk : EvG w d y pc2 lv (vi x :: st) σ post) : EvG w d y pc lv (vi i :: .ref k :: st) σ post := ev_iald j hN ha hi hj (by rw [hv]; exact kk)
theorem ev_zaldv {k n : Nat} {i x : Int} (j : Nat) (hN : Nx y.2.2.1 pc .baload 1 pc2) (ha : ak k = some (3, n)) (hi : i = (j : Int)) (hj : j < n) (hv : σ k j = x) (kk : EvG w d y pc2 lv (vi x :: st) σ post) : EvG w d y pc lv (vi i :: .ref k :: st) σ post := ev_zald j hN ha hi hj (by rw [hv]; exact kk)
theorem ev_laldv {k n : Nat} {i x : Int} (j : Nat) (hN : Nx y.2.2.1 pc .laload 1 pc2) (ha : ak k = some (2, n)) (hi : i = (j : Int)) (hj : j < n) (hv : σ k j = x) (kk : EvG w d y pc2 lv (vl x :: st) σ post) : EvG w d y pc lv (vi i :: .ref k :: st) σ post := ev_lald j hN ha hi hj (by rw [hv]; exact kk)
theorem ev_getiv {idx ci f k : Nat} {x : Int} (hN : Nx y.2.2.1 pc (.getfield idx) 3 pc2) (hf : Fl y.1 idx ci f) (hc : fc k f = some (ci, 0)) (hv : σ k f = x) (kk : EvG w d y pc2 lv (vi x :: st) σ post) : EvG w d y pc lv (.ref k :: st) σ post := ev_geti hN hf hc (by rw [hv]; exact kk)
theorem ev_getlv {idx ci f k : Nat} {x : Int} (hN : Nx y.2.2.1 pc (.getfield idx) 3 pc2) (hf : Fl y.1 idx ci f) (hc : fc k f = some (ci, 1)) (hv : σ k f = x) (kk : EvG w d y pc2 lv (vl x :: st) σ post) : EvG w d y pc lv (.ref k :: st) σ post := ev_getl hN hf hc (by rw [hv]; exact kk)
theorem ev_ifb_eq {P : Prop} {_ : Decidable P} {off : Int} (tgt : Nat) (hN : Nx y.2.2.1 pc (.ifCond .eq off) 3 pc2) (ht : (pc : Int) + off = (tgt : Int)) (kt : ¬ P → EvG w d y tgt lv st σ post) (kf : P → EvG w d y pc2 lv st σ post) : EvG w d y pc lv (vi (bI P) :: st) σ post :=
  ev_if_eq tgt hN ht (by rcases bI01 P with h | h <;> omega) (fun h => kt (fun q => by rw [bI_t q] at h; omega)) (fun h => kf (Classical.byContradiction (fun q => h (bI_f q))))
theorem ev_ifb_ne {P : Prop} {_ : Decidable P} {off : Int} (tgt : Nat) (hN : Nx y.2.2.1 pc (.ifCond .ne off) 3 pc2) (ht : (pc : Int) + off = (tgt : Int)) (kt : P → EvG w d y tgt lv st σ post) (kf : ¬ P → EvG w d y pc2 lv st σ post) : EvG w d y pc lv (vi (bI P) :: st) σ post :=
  ev_if_ne tgt hN ht (by rcases bI01 P with h | h <;> omega) (fun h => kt (Classical.byContradiction (fun q => h (bI_f q)))) (fun h => kf (fun q => by rw [bI_t q] at h; omega))
theorem lc_rng (a b : Int) : -1 ≤ lc a b ∧ lc a b ≤ 1 := by
  unfold lc
  split
  · omega
  · split <;> omega
theorem ev_lif_eq {a b : Int} {off : Int} {pc3 : Nat} (tgt : Nat) (hN : Nx y.2.2.1 pc .lcmp 1 pc2) (hM : Nx y.2.2.1 pc2 (.ifCond .eq off) 3 pc3) (ht : (pc2 : Int) + off = (tgt : Int)) (ha : -9223372036854775808 ≤ a ∧ a ≤ 9223372036854775807) (hb : -9223372036854775808 ≤ b ∧ b ≤ 9223372036854775807) (kt : a = b → EvG w d y tgt lv st σ post) (kf : a ≠ b → EvG w d y pc3 lv st σ post) : EvG w d y pc lv (vl b :: vl a :: st) σ post := by
  refine ev_lcmp hN ha hb (ev_if_eq tgt hM ht (by have := lc_rng a b; omega) (fun h => kt ?_) (fun h => kf ?_))
  · unfold lc at h; split at h <;> (try split at h) <;> omega
  · unfold lc at h; split at h <;> (try split at h) <;> omega
theorem ev_lif_ne {a b : Int} {off : Int} {pc3 : Nat} (tgt : Nat) (hN : Nx y.2.2.1 pc .lcmp 1 pc2) (hM : Nx y.2.2.1 pc2 (.ifCond .ne off) 3 pc3) (ht : (pc2 : Int) + off = (tgt : Int)) (ha : -9223372036854775808 ≤ a ∧ a ≤ 9223372036854775807) (hb : -9223372036854775808 ≤ b ∧ b ≤ 9223372036854775807) (kt : a ≠ b → EvG w d y tgt lv st σ post) (kf : a = b → EvG w d y pc3 lv st σ post) : EvG w d y pc lv (vl b :: vl a :: st) σ post := by
  refine ev_lcmp hN ha hb (ev_if_ne tgt hM ht (by have := lc_rng a b; omega) (fun h => kt ?_) (fun h => kf ?_))
  · unfold lc at h; split at h <;> (try split at h) <;> omega
  · unfold lc at h; split at h <;> (try split at h) <;> omega
theorem ev_lif_lt {a b : Int} {off : Int} {pc3 : Nat} (tgt : Nat) (hN : Nx y.2.2.1 pc .lcmp 1 pc2) (hM : Nx y.2.2.1 pc2 (.ifCond .lt off) 3 pc3) (ht : (pc2 : Int) + off = (tgt : Int)) (ha : -9223372036854775808 ≤ a ∧ a ≤ 9223372036854775807) (hb : -9223372036854775808 ≤ b ∧ b ≤ 9223372036854775807) (kt : a < b → EvG w d y tgt lv st σ post) (kf : b ≤ a → EvG w d y pc3 lv st σ post) : EvG w d y pc lv (vl b :: vl a :: st) σ post := by
  refine ev_lcmp hN ha hb (ev_if_lt tgt hM ht (by have := lc_rng a b; omega) (fun h => kt ?_) (fun h => kf ?_))
  · unfold lc at h; split at h <;> (try split at h) <;> omega
  · unfold lc at h; split at h <;> (try split at h) <;> omega
theorem ev_lif_ge {a b : Int} {off : Int} {pc3 : Nat} (tgt : Nat) (hN : Nx y.2.2.1 pc .lcmp 1 pc2) (hM : Nx y.2.2.1 pc2 (.ifCond .ge off) 3 pc3) (ht : (pc2 : Int) + off = (tgt : Int)) (ha : -9223372036854775808 ≤ a ∧ a ≤ 9223372036854775807) (hb : -9223372036854775808 ≤ b ∧ b ≤ 9223372036854775807) (kt : b ≤ a → EvG w d y tgt lv st σ post) (kf : a < b → EvG w d y pc3 lv st σ post) : EvG w d y pc lv (vl b :: vl a :: st) σ post := by
  refine ev_lcmp hN ha hb (ev_if_ge tgt hM ht (by have := lc_rng a b; omega) (fun h => kt ?_) (fun h => kf ?_))
  · unfold lc at h; split at h <;> (try split at h) <;> omega
  · unfold lc at h; split at h <;> (try split at h) <;> omega
theorem ev_lif_gt {a b : Int} {off : Int} {pc3 : Nat} (tgt : Nat) (hN : Nx y.2.2.1 pc .lcmp 1 pc2) (hM : Nx y.2.2.1 pc2 (.ifCond .gt off) 3 pc3) (ht : (pc2 : Int) + off = (tgt : Int)) (ha : -9223372036854775808 ≤ a ∧ a ≤ 9223372036854775807) (hb : -9223372036854775808 ≤ b ∧ b ≤ 9223372036854775807) (kt : b < a → EvG w d y tgt lv st σ post) (kf : a ≤ b → EvG w d y pc3 lv st σ post) : EvG w d y pc lv (vl b :: vl a :: st) σ post := by
  refine ev_lcmp hN ha hb (ev_if_gt tgt hM ht (by have := lc_rng a b; omega) (fun h => kt ?_) (fun h => kf ?_))
  · unfold lc at h; split at h <;> (try split at h) <;> omega
  · unfold lc at h; split at h <;> (try split at h) <;> omega
theorem ev_lif_le {a b : Int} {off : Int} {pc3 : Nat} (tgt : Nat) (hN : Nx y.2.2.1 pc .lcmp 1 pc2) (hM : Nx y.2.2.1 pc2 (.ifCond .le off) 3 pc3) (ht : (pc2 : Int) + off = (tgt : Int)) (ha : -9223372036854775808 ≤ a ∧ a ≤ 9223372036854775807) (hb : -9223372036854775808 ≤ b ∧ b ≤ 9223372036854775807) (kt : a ≤ b → EvG w d y tgt lv st σ post) (kf : b < a → EvG w d y pc3 lv st σ post) : EvG w d y pc lv (vl b :: vl a :: st) σ post := by
  refine ev_lcmp hN ha hb (ev_if_le tgt hM ht (by have := lc_rng a b; omega) (fun h => kt ?_) (fun h => kf ?_))
  · unfold lc at h; split at h <;> (try split at h) <;> omega
  · unfold lc at h; split at h <;> (try split at h) <;> omega
theorem ev_min {a b : Int} {idx : Nat} (hN : Nx y.2.2.1 pc (.invokestatic idx) 3 pc2) (hw : Cond.methodLink y.1 idx Lib.Math.min.name ∈ lw_good ∧ Cond.static Lib.Math.min.name ∈ lw_good ∧ Cond.initialized "java/lang/Math" ∈ lw_good ∧ Cond.code Lib.Math.min.name Lib.Math.min.code 2 (some .int) ∈ lw_good) (hcat : (st.map fun v => v.category).sum ≤ 8) (ha : -2147483648 ≤ a ∧ a ≤ 2147483647) (hb : -2147483648 ≤ b ∧ b ≤ 2147483647) (kk : EvG w (d + 1) y pc2 lv (vi (min a b) :: st) σ post) : EvG w (d + 1) y pc lv (vi b :: vi a :: st) σ post := by
  obtain ⟨hd, rfl⟩ := hN
  refine ev_w (fun l g p e R s m args below meth cc H locs ls cells slots Q hC hF hW hL k2 => ?_) kk
  have h2 := hF.2.1
  refine va_mmin hC.1 hC.2.1 (hC.2.2.1.trans hL.1.symm) hC.2.2.2.1 (hC.2.2.2.2.1 _ hw.1) (hC.2.2.2.2.1 _ hw.2.1) (hC.2.2.2.2.1 _ hw.2.2.1) (hC.2.2.2.2.1 _ hw.2.2.2) (Nat.le_trans (Nat.le_add_left 1 d) hF.1) (by rw [cat_map]; omega) hF.2.2.1 hF.2.2.2 hd ?_
  have e : (if Int32.ofInt b < Int32.ofInt a then Int32.ofInt b else Int32.ofInt a) = Int32.ofInt (min a b) := by
    by_cases h : b < a
    · rw [if_pos ((i_lt hb ha).mpr h)]; congr 1; omega
    · rw [if_neg (fun q => h ((i_lt hb ha).mp q))]; congr 1; omega
  rw [e]
  exact k2 H locs hW
theorem ev_cV0 {idx k : Nat} {z : Mth} {rest : List Value} {q : Option Value → St → Prop} (hN : Nx y.2.2.1 pc (.invokevirtual idx) 3 pc2) (hc : CkV y.1 idx z 0) (ho : oc k = some z.1) (hcat : Nat.ble ((rest.map fun v => v.category).sum) 8 = true) (hCt : Ct d z [.ref k] σ q) (kk : ∀ r τ, q r τ → EvG w (d + 1) y pc2 lv (rl r rest) τ post) : EvG w (d + 1) y pc lv (.ref k :: rest) σ post := ev_callV (av := []) hN hc ho rfl (Nat.le_of_ble_eq_true hcat) hCt (fun r τ h => by rw [rl_eq]; exact kk r τ h)
theorem ev_cV1 {idx k : Nat} {z : Mth} {a1 : Value} {rest : List Value} {q : Option Value → St → Prop} (hN : Nx y.2.2.1 pc (.invokevirtual idx) 3 pc2) (hc : CkV y.1 idx z 1) (ho : oc k = some z.1) (hcat : Nat.ble ((rest.map fun v => v.category).sum) 8 = true) (hCt : Ct d z [.ref k, a1] σ q) (kk : ∀ r τ, q r τ → EvG w (d + 1) y pc2 lv (rl r rest) τ post) : EvG w (d + 1) y pc lv (a1 :: .ref k :: rest) σ post := ev_callV (av := [a1]) hN hc ho rfl (Nat.le_of_ble_eq_true hcat) hCt (fun r τ h => by rw [rl_eq]; exact kk r τ h)
theorem ev_cS1 {idx : Nat} {z : Mth} {a1 : Value} {rest : List Value} {q : Option Value → St → Prop} (hN : Nx y.2.2.1 pc (.invokestatic idx) 3 pc2) (hc : CkS y.1 idx z 1) (hcat : Nat.ble ((rest.map fun v => v.category).sum) 8 = true) (hCt : Ct d z [a1] σ q) (kk : ∀ r τ, q r τ → EvG w (d + 1) y pc2 lv (rl r rest) τ post) : EvG w (d + 1) y pc lv (a1 :: rest) σ post := ev_callS (av := [a1]) hN hc rfl (Nat.le_of_ble_eq_true hcat) hCt (fun r τ h => by rw [rl_eq]; exact kk r τ h)
theorem ev_cV2 {idx k : Nat} {z : Mth} {a1 a2 : Value} {rest : List Value} {q : Option Value → St → Prop} (hN : Nx y.2.2.1 pc (.invokevirtual idx) 3 pc2) (hc : CkV y.1 idx z 2) (ho : oc k = some z.1) (hcat : Nat.ble ((rest.map fun v => v.category).sum) 8 = true) (hCt : Ct d z [.ref k, a1, a2] σ q) (kk : ∀ r τ, q r τ → EvG w (d + 1) y pc2 lv (rl r rest) τ post) : EvG w (d + 1) y pc lv (a2 :: a1 :: .ref k :: rest) σ post := ev_callV (av := [a1, a2]) hN hc ho rfl (Nat.le_of_ble_eq_true hcat) hCt (fun r τ h => by rw [rl_eq]; exact kk r τ h)
theorem ev_cS2 {idx : Nat} {z : Mth} {a1 a2 : Value} {rest : List Value} {q : Option Value → St → Prop} (hN : Nx y.2.2.1 pc (.invokestatic idx) 3 pc2) (hc : CkS y.1 idx z 2) (hcat : Nat.ble ((rest.map fun v => v.category).sum) 8 = true) (hCt : Ct d z [a1, a2] σ q) (kk : ∀ r τ, q r τ → EvG w (d + 1) y pc2 lv (rl r rest) τ post) : EvG w (d + 1) y pc lv (a2 :: a1 :: rest) σ post := ev_callS (av := [a1, a2]) hN hc rfl (Nat.le_of_ble_eq_true hcat) hCt (fun r τ h => by rw [rl_eq]; exact kk r τ h)
theorem ev_cV3 {idx k : Nat} {z : Mth} {a1 a2 a3 : Value} {rest : List Value} {q : Option Value → St → Prop} (hN : Nx y.2.2.1 pc (.invokevirtual idx) 3 pc2) (hc : CkV y.1 idx z 3) (ho : oc k = some z.1) (hcat : Nat.ble ((rest.map fun v => v.category).sum) 8 = true) (hCt : Ct d z [.ref k, a1, a2, a3] σ q) (kk : ∀ r τ, q r τ → EvG w (d + 1) y pc2 lv (rl r rest) τ post) : EvG w (d + 1) y pc lv (a3 :: a2 :: a1 :: .ref k :: rest) σ post := ev_callV (av := [a1, a2, a3]) hN hc ho rfl (Nat.le_of_ble_eq_true hcat) hCt (fun r τ h => by rw [rl_eq]; exact kk r τ h)
theorem ev_cS3 {idx : Nat} {z : Mth} {a1 a2 a3 : Value} {rest : List Value} {q : Option Value → St → Prop} (hN : Nx y.2.2.1 pc (.invokestatic idx) 3 pc2) (hc : CkS y.1 idx z 3) (hcat : Nat.ble ((rest.map fun v => v.category).sum) 8 = true) (hCt : Ct d z [a1, a2, a3] σ q) (kk : ∀ r τ, q r τ → EvG w (d + 1) y pc2 lv (rl r rest) τ post) : EvG w (d + 1) y pc lv (a3 :: a2 :: a1 :: rest) σ post := ev_callS (av := [a1, a2, a3]) hN hc rfl (Nat.le_of_ble_eq_true hcat) hCt (fun r τ h => by rw [rl_eq]; exact kk r τ h)
theorem ev_cV4 {idx k : Nat} {z : Mth} {a1 a2 a3 a4 : Value} {rest : List Value} {q : Option Value → St → Prop} (hN : Nx y.2.2.1 pc (.invokevirtual idx) 3 pc2) (hc : CkV y.1 idx z 4) (ho : oc k = some z.1) (hcat : Nat.ble ((rest.map fun v => v.category).sum) 8 = true) (hCt : Ct d z [.ref k, a1, a2, a3, a4] σ q) (kk : ∀ r τ, q r τ → EvG w (d + 1) y pc2 lv (rl r rest) τ post) : EvG w (d + 1) y pc lv (a4 :: a3 :: a2 :: a1 :: .ref k :: rest) σ post := ev_callV (av := [a1, a2, a3, a4]) hN hc ho rfl (Nat.le_of_ble_eq_true hcat) hCt (fun r τ h => by rw [rl_eq]; exact kk r τ h)
theorem ev_cS4 {idx : Nat} {z : Mth} {a1 a2 a3 a4 : Value} {rest : List Value} {q : Option Value → St → Prop} (hN : Nx y.2.2.1 pc (.invokestatic idx) 3 pc2) (hc : CkS y.1 idx z 4) (hcat : Nat.ble ((rest.map fun v => v.category).sum) 8 = true) (hCt : Ct d z [a1, a2, a3, a4] σ q) (kk : ∀ r τ, q r τ → EvG w (d + 1) y pc2 lv (rl r rest) τ post) : EvG w (d + 1) y pc lv (a4 :: a3 :: a2 :: a1 :: rest) σ post := ev_callS (av := [a1, a2, a3, a4]) hN hc rfl (Nat.le_of_ble_eq_true hcat) hCt (fun r τ h => by rw [rl_eq]; exact kk r τ h)
theorem ev_cV5 {idx k : Nat} {z : Mth} {a1 a2 a3 a4 a5 : Value} {rest : List Value} {q : Option Value → St → Prop} (hN : Nx y.2.2.1 pc (.invokevirtual idx) 3 pc2) (hc : CkV y.1 idx z 5) (ho : oc k = some z.1) (hcat : Nat.ble ((rest.map fun v => v.category).sum) 8 = true) (hCt : Ct d z [.ref k, a1, a2, a3, a4, a5] σ q) (kk : ∀ r τ, q r τ → EvG w (d + 1) y pc2 lv (rl r rest) τ post) : EvG w (d + 1) y pc lv (a5 :: a4 :: a3 :: a2 :: a1 :: .ref k :: rest) σ post := ev_callV (av := [a1, a2, a3, a4, a5]) hN hc ho rfl (Nat.le_of_ble_eq_true hcat) hCt (fun r τ h => by rw [rl_eq]; exact kk r τ h)
theorem ev_cS5 {idx : Nat} {z : Mth} {a1 a2 a3 a4 a5 : Value} {rest : List Value} {q : Option Value → St → Prop} (hN : Nx y.2.2.1 pc (.invokestatic idx) 3 pc2) (hc : CkS y.1 idx z 5) (hcat : Nat.ble ((rest.map fun v => v.category).sum) 8 = true) (hCt : Ct d z [a1, a2, a3, a4, a5] σ q) (kk : ∀ r τ, q r τ → EvG w (d + 1) y pc2 lv (rl r rest) τ post) : EvG w (d + 1) y pc lv (a5 :: a4 :: a3 :: a2 :: a1 :: rest) σ post := ev_callS (av := [a1, a2, a3, a4, a5]) hN hc rfl (Nat.le_of_ble_eq_true hcat) hCt (fun r τ h => by rw [rl_eq]; exact kk r τ h)
theorem ev_cV6 {idx k : Nat} {z : Mth} {a1 a2 a3 a4 a5 a6 : Value} {rest : List Value} {q : Option Value → St → Prop} (hN : Nx y.2.2.1 pc (.invokevirtual idx) 3 pc2) (hc : CkV y.1 idx z 6) (ho : oc k = some z.1) (hcat : Nat.ble ((rest.map fun v => v.category).sum) 8 = true) (hCt : Ct d z [.ref k, a1, a2, a3, a4, a5, a6] σ q) (kk : ∀ r τ, q r τ → EvG w (d + 1) y pc2 lv (rl r rest) τ post) : EvG w (d + 1) y pc lv (a6 :: a5 :: a4 :: a3 :: a2 :: a1 :: .ref k :: rest) σ post := ev_callV (av := [a1, a2, a3, a4, a5, a6]) hN hc ho rfl (Nat.le_of_ble_eq_true hcat) hCt (fun r τ h => by rw [rl_eq]; exact kk r τ h)
theorem ev_cS6 {idx : Nat} {z : Mth} {a1 a2 a3 a4 a5 a6 : Value} {rest : List Value} {q : Option Value → St → Prop} (hN : Nx y.2.2.1 pc (.invokestatic idx) 3 pc2) (hc : CkS y.1 idx z 6) (hcat : Nat.ble ((rest.map fun v => v.category).sum) 8 = true) (hCt : Ct d z [a1, a2, a3, a4, a5, a6] σ q) (kk : ∀ r τ, q r τ → EvG w (d + 1) y pc2 lv (rl r rest) τ post) : EvG w (d + 1) y pc lv (a6 :: a5 :: a4 :: a3 :: a2 :: a1 :: rest) σ post := ev_callS (av := [a1, a2, a3, a4, a5, a6]) hN hc rfl (Nat.le_of_ble_eq_true hcat) hCt (fun r τ h => by rw [rl_eq]; exact kk r τ h)
end EM
/-- the three books: 3, 4, 5, their cells 16, 17, 18 -/
def Bq (b : Nat) : Prop := b = 3 ∨ b = 4 ∨ b = 5
theorem fcB {b : Nat} (h : Bq b) : fc b 0 = some (0, b + 13 + 2) := by rcases h with rfl | rfl | rfl <;> rfl
theorem akB {b : Nat} (h : Bq b) : ak (b + 13) = some (1, 44) := by rcases h with rfl | rfl | rfl <;> rfl
theorem ocB {b : Nat} (h : Bq b) : oc b = some RX0 := by rcases h with rfl | rfl | rfl <;> rfl
theorem Bq3 : Bq 3 := Or.inl rfl
theorem Bq4 : Bq 4 := Or.inr (Or.inl rfl)
theorem Bq5 : Bq 5 := Or.inr (Or.inr rfl)
theorem rkL {j : Nat} (h : j < 7) : rk 21 j = some (24 + j) := by
  match j, h with
  | 0, _ => rfl
  | 1, _ => rfl
  | 2, _ => rfl
  | 3, _ => rfl
  | 4, _ => rfl
  | 5, _ => rfl
  | 6, _ => rfl
theorem rkP {j : Nat} (h : j < 7) : rk 22 j = some (31 + j) := by
  match j, h with
  | 0, _ => rfl
  | 1, _ => rfl
  | 2, _ => rfl
  | 3, _ => rfl
  | 4, _ => rfl
  | 5, _ => rfl
  | 6, _ => rfl
theorem akL {j : Nat} (h : j < 7) : ak (24 + j) = some (1, 300) := by
  match j, h with
  | 0, _ => rfl
  | 1, _ => rfl
  | 2, _ => rfl
  | 3, _ => rfl
  | 4, _ => rfl
  | 5, _ => rfl
  | 6, _ => rfl
theorem akP {j : Nat} (h : j < 7) : ak (31 + j) = some (1, 300) := by
  match j, h with
  | 0, _ => rfl
  | 1, _ => rfl
  | 2, _ => rfl
  | 3, _ => rfl
  | 4, _ => rfl
  | 5, _ => rfl
  | 6, _ => rfl
