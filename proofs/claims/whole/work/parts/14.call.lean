/-! calls -/
def oc (k : Nat) : Option String := match skl[k]? with
  | some (0, ci, _) => (vwCl[ci]?).map (fun q => q.1)
  | _ => none
theorem oc_spec {k : Nat} {C : String} (h : oc k = some C) : ∃ ci fl q, skl[k]? = some (0, ci, fl) ∧ vwCl[ci]? = some q ∧ q.1 = C := by
  unfold oc at h
  split at h
  · rename_i ci fl hs
    obtain ⟨q, h1, h2⟩ := Option.map_eq_some_iff.mp h
    exact ⟨ci, fl, q, hs, h1, h2⟩
  · cases h
def CkN (z : Mth) (n : Nat) : Prop := Cond.code z.2.1 z.2.2.1 z.2.2.2.1 z.2.2.2.2 ∈ lw_good ∧ Cond.initialized z.1 ∈ lw_good ∧ (z.2.1.cls = z.1 ∧ z.2.1.cls ≠ "java/lang/invoke/MethodHandle" ∧ z.2.1.cls ≠ "java/lang/invoke/VarHandle" ∧ (parseMethodDescriptor z.2.1.desc).map (fun d => d.parameters.length) = some n) ∧ z.2.2.2.1 ≤ 60
def CkV (own : String) (idx : Nat) (z : Mth) (n : Nat) : Prop := Cond.methodLink own idx z.2.1 ∈ lw_good ∧ Cond.instanceMethod z.2.1 ∈ lw_good ∧ Cond.selects z.1 z.2.1 z.2.1 ∈ lw_good ∧ CkN z n
def CkS (own : String) (idx : Nat) (z : Mth) (n : Nat) : Prop := Cond.methodLink own idx z.2.1 ∈ lw_good ∧ Cond.static z.2.1 ∈ lw_good ∧ CkN z n
theorem ck_good {z : Mth} {n : Nat} (h : CkN z n) : GoodIn lw_good (ev_ws z) := fun w hw => by
  rcases List.mem_cons.mp hw with rfl | hw
  · exact ⟨h.1, lw_gw h.1⟩
  · exact lw_gg w hw
theorem ck_goodV {own : String} {idx n : Nat} {z : Mth} (h : CkV own idx z n) : GoodIn lw_good (wsV own idx z.1 z.2.1 (ev_ws z)) := fun w hw => by
  obtain ⟨h1, h2, h3, h4⟩ := h
  rcases List.mem_append.mp hw with hw | hw
  · simp only [List.mem_cons, List.not_mem_nil, or_false] at hw
    rcases hw with rfl | rfl | rfl | rfl
    · exact ⟨h1, lw_gw h1⟩
    · exact ⟨h2, lw_gw h2⟩
    · exact ⟨h3, lw_gw h3⟩
    · exact ⟨h4.2.1, lw_gw h4.2.1⟩
  · exact ck_good h4 w hw
theorem ck_goodS {own : String} {idx n : Nat} {z : Mth} (h : CkS own idx z n) : GoodIn lw_good (va_wsS own idx z.2.1 (ev_ws z)) := fun w hw => by
  obtain ⟨h1, h2, h4⟩ := h
  rcases List.mem_append.mp hw with hw | hw
  · simp only [List.mem_cons, List.not_mem_nil, or_false] at hw
    rcases hw with rfl | rfl | rfl
    · exact ⟨h1, lw_gw h1⟩
    · exact ⟨h2, lw_gw h2⟩
    · rw [h4.2.2.1.1]
      exact ⟨h4.2.1, lw_gw h4.2.1⟩
  · exact ck_good h4 w hw
theorem nr_map {g : Gw} {r : Option Value} {rest : List Value} (h : nr r = true) : r.toList ++ rest.map (cv g) = (r.toList ++ rest).map (cv g) := by
  rw [List.map_append]
  congr 1
  cases r with
  | none => rfl
  | some v => cases v <;> first | rfl | cases h
theorem cat_map {g : Gw} {rest : List Value} : ((rest.map (cv g)).map fun v => v.category).sum = (rest.map fun v => v.category).sum := by
  rw [List.map_map]
  congr 1
  exact List.map_congr_left (fun v _ => cv_cat g v)
section EC
variable {w : Scr} {d : Nat} {y : Mth} {pc pc2 : Nat} {lv st : List Value} {σ : St} {post : Option Value → St → Prop}
theorem ev_run {p : Program} {l : Launch} {e : Env} {R : Room} {s : State} {m : MethodId} {args : Array Value} {below : List Frame} {meth : Method} {c : Code} {H : Heap} {locs : List Loc} {ls : Array Slot} {cells slots : Nat} {Q : State → Prop} {g : Gw} {q : Option Value → St → Prop} {st0 : List Value} {rest : List Value} {a : Array Value}
    (hr : va_Run p l e R s m args below meth c H locs cells slots 0 0 (F0 m pc ls st0) (rest.map (cv g)) (ev_Qc g q a) (Ag g))
    (hC : Cx w g y p s m args c) (hF : Fit R d cells slots) (hW : Wd g σ s H locs) (hL : Lh g ls y.2.2.2.1 lv)
    (hQ : ∀ (H' : Heap) (locs' : List Loc) (r : Option Value) (τ : St) (pc' : Nat) (ls' : Array Slot), post r τ → Wd g τ s H' locs' → Rt y pc' r → W p l e R s m args below meth c H' locs' cells slots Q (F0 m pc' ls' r.toList))
    (kk : ∀ r τ, q r τ → EvG w d y (pc + 3) lv (r.toList ++ rest) τ post) : W p l e R s m args below meth c H locs cells slots Q (F0 m pc ls st0) := by
  intro T hT X
  obtain ⟨v, st₀, t, T', L, h0, X', hL', e1, e2, ⟨⟨r, τ, hv, hp, hnr, hP'⟩, hz, hk'⟩, stp⟩ := hr T hT X
  cases hv
  rw [h0] at hz hk'
  obtain ⟨t2, a1, b1⟩ := kk v τ hp l g p e R s m args below meth c T'.heap (locs ++ L) ls cells slots Q hC hF ⟨by rw [e1]; exact hP', Nat.le_trans hW.2.1 (by rw [e1]; exact hz), fun q h1 h2 => by rw [e1, hk' q (Nat.lt_of_lt_of_le h1 hW.2.1) h2]; exact hW.2.2.1 q h1 h2, fun q hq => by
      rcases List.mem_append.mp hq with h | h
      · exact hW.2.2.2 q h
      · exact hL' q h⟩ hL hQ T' rfl X'
  refine ⟨t2, stp t2 ?_, b1⟩
  rw [nr_map hnr]
  exact a1
theorem ev_callV {idx k n : Nat} {z : Mth} {av rest : List Value} {q : Option Value → St → Prop} (hN : Nx y.2.2.1 pc (.invokevirtual idx) 3 pc2) (hc : CkV y.1 idx z n) (ho : oc k = some z.1) (hn : av.length = n) (hcat : (rest.map fun v => v.category).sum ≤ 8) (hCt : Ct d z (.ref k :: av) σ q)
    (kk : ∀ r τ, q r τ → EvG w (d + 1) y pc2 lv (r.toList ++ rest) τ post) : EvG w (d + 1) y pc lv (av.reverse ++ .ref k :: rest) σ post := by
  obtain ⟨hd, rfl⟩ := hN
  obtain ⟨ci, fl, q0, s1, s2, s3⟩ := oc_spec ho
  have hk := skl_lt s1
  intro l g p e R s m args below meth c H locs ls cells slots Q hC hF hW hL hQ
  have hr := va_recv hC.2.2.2.2.2.1 hW.1 s2 (q0 := k) (by rw [wl_at g σ hk, el_obj s1])
  rw [s3] at hr
  refine ev_run (va_runV (As := av.map (cv g)) ⟨hC.1, hC.2.1, hC.2.2.1, hC.2.2.2.1, hC.2.2.2.2.1⟩ (hCt l g) (cwV n hC.2.2.2.2.1 (ck_goodV hc) rfl rfl rfl hc.2.2.2.2.2.1 ⟨hF.1, ?_⟩) ⟨ev_blind g _ σ, hr, fun U hU hWm => ⟨by simp [cv], by rw [hU]; exact hW.1, va_K.moved hWm.alike hC.2.2.2.2.2.1, by rw [hU]; exact hC.2.2.2.2.2.2.1.kept hW.2 hWm.alike, hC.2.2.2.2.2.2.2.1⟩⟩ rfl (by rw [List.length_map]; exact hn) hL.1 (by simp [cv]) (lv_room (by rw [cat_map]; exact hcat)) hd ⟨hF.2.2.1, hF.2.2.2⟩) hC hF hW hL hQ kk
  have h60 := hc.2.2.2.2.2.2
  have h2 := hF.2.1
  show 8 + (z.2.2.2.1 + 11) + 100 * d ≤ R.locals
  omega
theorem ev_callS {idx n : Nat} {z : Mth} {av rest : List Value} {q : Option Value → St → Prop} (hN : Nx y.2.2.1 pc (.invokestatic idx) 3 pc2) (hc : CkS y.1 idx z n) (hn : av.length = n) (hcat : (rest.map fun v => v.category).sum ≤ 8) (hCt : Ct d z av σ q)
    (kk : ∀ r τ, q r τ → EvG w (d + 1) y pc2 lv (r.toList ++ rest) τ post) : EvG w (d + 1) y pc lv (av.reverse ++ rest) σ post := by
  obtain ⟨hd, rfl⟩ := hN
  intro l g p e R s m args below meth c H locs ls cells slots Q hC hF hW hL hQ
  refine ev_run (va_runS (As := av.map (cv g)) ⟨hC.1, hC.2.1, hC.2.2.1, hC.2.2.2.1, hC.2.2.2.2.1⟩ (hCt l g) (va_cwS n hC.2.2.2.2.1 (ck_goodS hc) rfl rfl rfl hc.2.2.2.2.1.2 ⟨hF.1, ?_⟩) ⟨ev_blind g _ σ, fun U hU hWm => ⟨rfl, by rw [hU]; exact hW.1, va_K.moved hWm.alike hC.2.2.2.2.2.1, by rw [hU]; exact hC.2.2.2.2.2.2.1.kept hW.2 hWm.alike, hC.2.2.2.2.2.2.2.1⟩⟩ rfl (by rw [List.length_map]; exact hn) hL.1 (by simp) (lv_room (by rw [cat_map]; exact hcat)) hd ⟨hF.2.2.1, hF.2.2.2⟩) hC hF hW hL hQ kk
  have h60 := hc.2.2.2.2.2
  have h2 := hF.2.1
  show 8 + (z.2.2.2.1 + 11) + 100 * d ≤ R.locals
  omega
/-- the law's script -/
theorem ev_slen (hN : Nx y.2.2.1 pc .arraylength 1 pc2) (hy : y.1 = RL) (kk : EvG w d y pc2 lv (vi w.1 :: st) σ post) : EvG w d y pc lv (.ref 66 :: st) σ post := by
  obtain ⟨hd, rfl⟩ := hN
  intro l g p e R s m args below meth c H locs ls cells slots Q hC hF hW hL hQ
  obtain ⟨hX, hb, hA⟩ := hC.2.2.2.2.2.2.2.2 hy
  exact va_slen hC.1 hC.2.1 hX hb hA hW.2 hd (kk l g p e R s m args below meth c H locs ls cells slots Q hC hF hW hL hQ)
theorem ev_sld {i : Int} (j : Nat) (hN : Nx y.2.2.1 pc .iaload 1 pc2) (hy : y.1 = RL) (hi : i = (j : Int)) (hj : j < w.1) (hn : w.1 ≤ 2147483647) (kk : EvG w d y pc2 lv (vi (w.2 j) :: st) σ post) : EvG w d y pc lv (vi i :: .ref 66 :: st) σ post := by
  obtain ⟨hd, rfl⟩ := hN
  subst hi
  intro l g p e R s m args below meth c H locs ls cells slots Q hC hF hW hL hQ
  obtain ⟨hX, hb, hA⟩ := hC.2.2.2.2.2.2.2.2 hy
  refine va_sld hC.1 hC.2.1 hX hb hA hW.2 (i_in hj hn) hd ?_
  rw [i_cl hj hn]
  exact kk l g p e R s m args below meth c H locs ls cells slots Q hC hF hW hL hQ
end EC
