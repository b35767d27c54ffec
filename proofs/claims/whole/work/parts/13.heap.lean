/-! fields, arrays, calls, ends -/
theorem skl_le : ∀ q ∈ skl, q.2.1 ≤ 1056 := by decide +kernel
theorem ak_n {k t n : Nat} (h : ak k = some (t, n)) : n ≤ 2147483647 := by
  obtain ⟨fl, h1, -⟩ := ak_spec h
  have := skl_le _ (List.mem_of_getElem? h1)
  exact Nat.le_trans this (by decide)
def Fl (own : String) (idx ci f : Nat) : Prop := ∃ (C : String) (T : u_T) (N : Nat), vwCl[ci]? = some (C, T, N) ∧ f < N ∧ (∀ w ∈ u_ws C T N, w ∈ lw_good) ∧ Cond.fieldLink own idx (T f).1 (T f).2.1 (T f).2.2.1 ∈ lw_good
def Fp (own : String) (idx ci f : Nat) (ty : FieldType) : Prop := ∃ (C : String) (T : u_T) (N : Nat) (ty0 : Nat → FieldType), vwCl[ci]? = some (C, T, N) ∧ f < N ∧ (∀ w ∈ u_ws C T N, w ∈ lw_good) ∧ Cond.fieldLink own idx (T f).1 (T f).2.1 (T f).2.2.1 ∈ lw_good ∧
  (∀ k, k < N → parseFieldDescriptor (T k).2.2.1 = some (ty0 k)) ∧ (∀ a, a < N → ∀ b, b < N → a ≠ b → (T a).2.1 ≠ (T b).2.1) ∧ (T f).2.2.2 = false ∧ parseFieldDescriptor (T f).2.2.1 = some ty
def rk (k j : Nat) : Option Nat := match skl[k]? with
  | some (4, _, fl) => fl[j]?
  | _ => none
theorem rk_spec {k j t : Nat} (h : rk k j = some t) : ∃ n fl, skl[k]? = some (4, n, fl) ∧ fl[j]? = some t := by
  unfold rk at h
  split at h
  · rename_i n fl hs
    exact ⟨n, fl, hs, h⟩
  · cases h
section EH
variable {w : Scr} {d : Nat} {y : Mth} {pc pc2 : Nat} {lv st : List Value} {σ : St} {post : Option Value → St → Prop}
theorem ev_get {idx ci f k c : Nat} {v : Value} (hN : Nx y.2.2.1 pc (.getfield idx) 3 pc2) (hf : Fl y.1 idx ci f) (hc : fc k f = some (ci, c)) (hv : ∀ g : Gw, fv g σ k f c = cv g v) (kk : EvG w d y pc2 lv (v :: st) σ post) : EvG w d y pc lv (.ref k :: st) σ post := by
  obtain ⟨hd, rfl⟩ := hN
  obtain ⟨C, T, N, h1, h2, h3, h4⟩ := hf
  obtain ⟨fl, s1, s2⟩ := fc_spec hc
  have hk := skl_lt s1
  refine ev_w (fun l g p e R s m args below meth cc H locs ls cells slots Q hC hF hW hL k2 => ?_) kk
  refine va_get hC.1 hC.2.1 hC.2.2.2.2.1 h3 hC.2.2.2.1 hC.2.2.2.2.2.1 hW.1 k (by rw [wl_at g σ hk, el_obj s1]) h1 f h2 (hC.2.2.2.2.1 _ h4) (fun _ q => q) (fl_at s2) hd ?_
  rw [hv g]
  exact k2 H locs hW
theorem ev_geti {idx ci f k : Nat} (hN : Nx y.2.2.1 pc (.getfield idx) 3 pc2) (hf : Fl y.1 idx ci f) (hc : fc k f = some (ci, 0)) (kk : EvG w d y pc2 lv (vi (σ k f) :: st) σ post) : EvG w d y pc lv (.ref k :: st) σ post := ev_get hN hf hc (fun _ => rfl) kk
theorem ev_getl {idx ci f k : Nat} (hN : Nx y.2.2.1 pc (.getfield idx) 3 pc2) (hf : Fl y.1 idx ci f) (hc : fc k f = some (ci, 1)) (kk : EvG w d y pc2 lv (vl (σ k f) :: st) σ post) : EvG w d y pc lv (.ref k :: st) σ post := ev_get hN hf hc (fun _ => rfl) kk
theorem ev_getr {idx ci f k t : Nat} (hN : Nx y.2.2.1 pc (.getfield idx) 3 pc2) (hf : Fl y.1 idx ci f) (hc : fc k f = some (ci, t + 2)) (kk : EvG w d y pc2 lv (.ref t :: st) σ post) : EvG w d y pc lv (.ref k :: st) σ post := ev_get hN hf hc (fun _ => rfl) kk
theorem fl_set {g : Gw} {σ : St} {k f c : Nat} {x : Int} {fl : List Nat} {v : Value} (h : fl[f]? = some c) (hv : fv g (up σ k f x) k f c = v) : ((fl.zipIdx).map (fun q => fv g σ k q.2 q.1)).set f v = (fl.zipIdx).map (fun q => fv g (up σ k f x) k q.2 q.1) := by
  apply List.ext_getElem?
  intro i
  have hl : f < fl.length := (List.getElem?_eq_some_iff.mp h).1
  by_cases e : i = f
  · subst e
    rw [List.getElem?_set_self (by simpa using hl), fl_at h, hv]
  · rw [List.getElem?_set_ne (Ne.symm e), List.getElem?_map, List.getElem?_map, List.getElem?_zipIdx]
    cases hi : fl[i]? with
    | none => rfl
    | some c' =>
      have e2 : fv g σ k i c' = fv g (up σ k f x) k i c' := by
        unfold fv
        rw [show up σ k f x k i = σ k i by rw [up, upA_s, upF_n _ _ e]]
      simp [e2]
theorem ev_put {idx ci f k c : Nat} {x : Int} {ty : FieldType} {v : Value} (hN : Nx y.2.2.1 pc (.putfield idx) 3 pc2) (hf : Fp y.1 idx ci f ty) (hc : fc k f = some (ci, c)) (hv : ∀ g : Gw, fv g (up σ k f x) k f c = cv g v) (hn : ∀ g : Gw, narrow ty (cv g v) = cv g v) (hfit : ∀ g : Gw, fits ty (cv g v) = true) (kk : EvG w d y pc2 lv st (up σ k f x) post) : EvG w d y pc lv (v :: .ref k :: st) σ post := by
  obtain ⟨hd, rfl⟩ := hN
  obtain ⟨C, T, N, ty0, h1, h2, h3, h4, h5, h6, h7, h8⟩ := hf
  obtain ⟨fl, s1, s2⟩ := fc_spec hc
  have hk := skl_lt s1
  refine ev_w (fun l g p e R s m args below meth cc H locs ls cells slots Q hC hF hW hL k2 => ?_) kk
  refine va_put hC.1 hC.2.1 hC.2.2.2.2.1 h3 ty0 h5 h6 hC.2.2.2.1 hC.2.2.2.2.2.1 hW.1 (wl_D σ hC.2.2.2.2.2.2.2.1) hW.2 k (by rw [wl_at g σ hk, el_obj s1]) h1 f h2 (hC.2.2.2.2.1 _ h4) (fun _ q => q) h7 h8 (hn g) (hfit g) (by rw [List.length_map, List.length_zipIdx]; exact (List.getElem?_eq_some_iff.mp s2).1) hd (fun H1 locs1 hP1 hD1 hS1 => k2 H1 locs1 ⟨?_, hS1⟩)
  rw [fl_set s2 (hv g), ← el_obj s1, show up σ k f x = upA σ k (upF (σ k) f x) from rfl, wl_set hk] at hP1
  exact hP1
theorem ev_puti {idx ci f k : Nat} {x : Int} (hN : Nx y.2.2.1 pc (.putfield idx) 3 pc2) (hf : Fp y.1 idx ci f .int) (hc : fc k f = some (ci, 0)) (kk : EvG w d y pc2 lv st (up σ k f x) post) : EvG w d y pc lv (vi x :: .ref k :: st) σ post := ev_put hN hf hc (fun _ => by show vi (up σ k f x k f) = vi x; rw [up, upA_s, upF_s]) (fun _ => rfl) (fun _ => rfl) kk
theorem ev_putl {idx ci f k : Nat} {x : Int} (hN : Nx y.2.2.1 pc (.putfield idx) 3 pc2) (hf : Fp y.1 idx ci f .long) (hc : fc k f = some (ci, 1)) (kk : EvG w d y pc2 lv st (up σ k f x) post) : EvG w d y pc lv (vl x :: .ref k :: st) σ post := ev_put hN hf hc (fun _ => by show vl (up σ k f x k f) = vl x; rw [up, upA_s, upF_s]) (fun _ => rfl) (fun _ => rfl) kk
theorem z_nar {x : Int} (h : x = 0 ∨ x = 1) : narrow .boolean (vi x) = vi x := by rcases h with rfl | rfl <;> rfl
theorem z_nar2 {x : Int} (h : x = 0 ∨ x = 1) : vp_nar .boolean (Int32.ofInt x) = Int32.ofInt x := by rcases h with rfl | rfl <;> rfl
theorem z_fit {x : Int} (h : x = 0 ∨ x = 1) : fits .boolean (vi x) = true := by rcases h with rfl | rfl <;> rfl
theorem ev_putz {idx ci f k : Nat} {x : Int} (hN : Nx y.2.2.1 pc (.putfield idx) 3 pc2) (hf : Fp y.1 idx ci f .boolean) (hc : fc k f = some (ci, 0)) (hx : x = 0 ∨ x = 1) (kk : EvG w d y pc2 lv st (up σ k f x) post) : EvG w d y pc lv (vi x :: .ref k :: st) σ post := ev_put hN hf hc (fun _ => by show vi (up σ k f x k f) = vi x; rw [up, upA_s, upF_s]) (fun _ => z_nar hx) (fun _ => z_fit hx) kk
theorem ev_iald {k n : Nat} {i : Int} (j : Nat) (hN : Nx y.2.2.1 pc .iaload 1 pc2) (ha : ak k = some (1, n)) (hi : i = (j : Int)) (hj : j < n) (kk : EvG w d y pc2 lv (vi (σ k j) :: st) σ post) : EvG w d y pc lv (vi i :: .ref k :: st) σ post := by
  obtain ⟨hd, rfl⟩ := hN
  subst hi
  have hn := ak_n ha
  obtain ⟨fl, s1, -⟩ := ak_spec ha
  have hk := skl_lt s1
  refine ev_w (fun l g p e R s m args below meth cc H locs ls cells slots Q hC hF hW hL k2 => ?_) kk
  refine va_iald hC.1 hC.2.1 hC.2.2.2.2.2.1 hW.1 k 0 (by rw [wl_at g σ hk, el_1 s1]) rfl (i_in hj hn) hd ?_
  rw [i_cl hj hn]
  exact k2 H locs hW
theorem ev_zald {k n : Nat} {i : Int} (j : Nat) (hN : Nx y.2.2.1 pc .baload 1 pc2) (ha : ak k = some (3, n)) (hi : i = (j : Int)) (hj : j < n) (kk : EvG w d y pc2 lv (vi (σ k j) :: st) σ post) : EvG w d y pc lv (vi i :: .ref k :: st) σ post := by
  obtain ⟨hd, rfl⟩ := hN
  subst hi
  have hn := ak_n ha
  obtain ⟨fl, s1, -⟩ := ak_spec ha
  have hk := skl_lt s1
  refine ev_w (fun l g p e R s m args below meth cc H locs ls cells slots Q hC hF hW hL k2 => ?_) kk
  refine va_zald hC.1 hC.2.1 hC.2.2.2.2.2.1 hW.1 k 2 (by rw [wl_at g σ hk, el_3 s1]) rfl (i_in hj hn) hd ?_
  rw [i_cl hj hn]
  exact k2 H locs hW
theorem ev_lald {k n : Nat} {i : Int} (j : Nat) (hN : Nx y.2.2.1 pc .laload 1 pc2) (ha : ak k = some (2, n)) (hi : i = (j : Int)) (hj : j < n) (kk : EvG w d y pc2 lv (vl (σ k j) :: st) σ post) : EvG w d y pc lv (vi i :: .ref k :: st) σ post := by
  obtain ⟨hd, rfl⟩ := hN
  subst hi
  have hn := ak_n ha
  obtain ⟨fl, s1, -⟩ := ak_spec ha
  have hk := skl_lt s1
  refine ev_w (fun l g p e R s m args below meth cc H locs ls cells slots Q hC hF hW hL k2 => ?_) kk
  refine va_lald hC.1 hC.2.1 hC.2.2.2.2.2.1 hW.1 k 1 (by rw [wl_at g σ hk, el_2 s1]) rfl (i_in hj hn) hd ?_
  rw [i_cl hj hn]
  exact k2 H locs hW
theorem ev_aald {k n t : Nat} {i : Int} (j : Nat) (hN : Nx y.2.2.1 pc .aaload 1 pc2) (ha : ak k = some (4, n)) (hi : i = (j : Int)) (hj : j < n) (hr : rk k j = some t) (kk : EvG w d y pc2 lv (.ref t :: st) σ post) : EvG w d y pc lv (vi i :: .ref k :: st) σ post := by
  obtain ⟨hd, rfl⟩ := hN
  subst hi
  have hn := ak_n ha
  obtain ⟨n', fl, s1, s2⟩ := rk_spec hr
  obtain ⟨fl', s1', -⟩ := ak_spec ha
  cases s1.symm.trans s1'
  have hk := skl_lt s1
  refine ev_w (fun l g p e R s m args below meth cc H locs ls cells slots Q hC hF hW hL k2 => ?_) kk
  have hP := hW.1 k _ (wl_at g σ hk)
  rw [el_4 s1] at hP
  have hcell : H[g.2.2 k]? = some (arrV (g.2.1 4) n (fun q => va_rf ((fl[q]?).map g.2.2))) := hP
  refine W.aald (v := .ref (g.2.2 t)) (ty := .array .int) hC.1 hC.2.1 hcell ((hC.2.2.2.2.2.1.2 3 _ rfl).1 n (fun q => va_rf ((fl[q]?).map g.2.2))) rfl (fun q => by cases q) (by show ¬ (_ < 0 ∨ (arrV _ _ _).slots.size ≤ _); rw [arrV_size]; exact i_in hj hn) (by show (arrV _ _ _).slots[_]? = _; rw [i_cl hj hn, arrV_read _ _ hj, s2]; rfl) rfl rfl hd ?_
  exact k2 H locs hW
theorem upd_i {f : Nat → Int} {j : Nat} {x : Int} : upd (fun q => Int32.ofInt (f q)) j (Int32.ofInt x) = fun q => Int32.ofInt (upF f j x q) := by
  funext q
  by_cases e : q = j
  · subst e; simp [upd, upF]
  · simp [upd, upF, e]
theorem upd_l {f : Nat → Int} {j : Nat} {x : Int} : vp_updL (fun q => Int64.ofInt (f q)) j (Int64.ofInt x) = fun q => Int64.ofInt (upF f j x q) := by
  funext q
  by_cases e : q = j
  · subst e; simp [vp_updL, upF]
  · simp [vp_updL, upF, e]
theorem ev_iast {k n : Nat} {i x : Int} (j : Nat) (hN : Nx y.2.2.1 pc .iastore 1 pc2) (ha : ak k = some (1, n)) (hi : i = (j : Int)) (hj : j < n) (kk : EvG w d y pc2 lv st (up σ k j x) post) : EvG w d y pc lv (vi x :: vi i :: .ref k :: st) σ post := by
  obtain ⟨hd, rfl⟩ := hN
  subst hi
  have hn := ak_n ha
  obtain ⟨fl, s1, -⟩ := ak_spec ha
  have hk := skl_lt s1
  refine ev_w (fun l g p e R s m args below meth cc H locs ls cells slots Q hC hF hW hL k2 => ?_) kk
  refine va_iast hC.1 hC.2.1 hC.2.2.2.2.2.1 hW.1 (wl_D σ hC.2.2.2.2.2.2.2.1) hW.2 k 0 (by rw [wl_at g σ hk, el_1 s1]) rfl (i_in hj hn) hd (fun H1 locs1 hP1 hD1 hS1 => k2 H1 locs1 ⟨?_, hS1⟩)
  rw [i_cl hj hn, upd_i] at hP1
  have e := el_1 (g := g) (σ := up σ k j x) s1
  rw [show up σ k j x k = upF (σ k) j x from upA_s _ _ _] at e
  rw [← e, show up σ k j x = upA σ k (upF (σ k) j x) from rfl, wl_set hk] at hP1
  exact hP1
theorem ev_zast {k n : Nat} {i x : Int} (j : Nat) (hN : Nx y.2.2.1 pc .bastore 1 pc2) (ha : ak k = some (3, n)) (hi : i = (j : Int)) (hj : j < n) (hx : x = 0 ∨ x = 1) (kk : EvG w d y pc2 lv st (up σ k j x) post) : EvG w d y pc lv (vi x :: vi i :: .ref k :: st) σ post := by
  obtain ⟨hd, rfl⟩ := hN
  subst hi
  have hn := ak_n ha
  obtain ⟨fl, s1, -⟩ := ak_spec ha
  have hk := skl_lt s1
  refine ev_w (fun l g p e R s m args below meth cc H locs ls cells slots Q hC hF hW hL k2 => ?_) kk
  refine va_zast hC.1 hC.2.1 hC.2.2.2.2.2.1 hW.1 (wl_D σ hC.2.2.2.2.2.2.2.1) hW.2 k 2 (by rw [wl_at g σ hk, el_3 s1]) rfl (i_in hj hn) hd (fun H1 locs1 hP1 hD1 hS1 => k2 H1 locs1 ⟨?_, hS1⟩)
  rw [i_cl hj hn, z_nar2 hx, upd_i] at hP1
  have e := el_3 (g := g) (σ := up σ k j x) s1
  rw [show up σ k j x k = upF (σ k) j x from upA_s _ _ _] at e
  rw [← e, show up σ k j x = upA σ k (upF (σ k) j x) from rfl, wl_set hk] at hP1
  exact hP1
theorem ev_last {k n : Nat} {i x : Int} (j : Nat) (hN : Nx y.2.2.1 pc .lastore 1 pc2) (ha : ak k = some (2, n)) (hi : i = (j : Int)) (hj : j < n) (kk : EvG w d y pc2 lv st (up σ k j x) post) : EvG w d y pc lv (vl x :: vi i :: .ref k :: st) σ post := by
  obtain ⟨hd, rfl⟩ := hN
  subst hi
  have hn := ak_n ha
  obtain ⟨fl, s1, -⟩ := ak_spec ha
  have hk := skl_lt s1
  refine ev_w (fun l g p e R s m args below meth cc H locs ls cells slots Q hC hF hW hL k2 => ?_) kk
  refine va_last hC.1 hC.2.1 hC.2.2.2.2.2.1 hW.1 (wl_D σ hC.2.2.2.2.2.2.2.1) hW.2 k 1 (by rw [wl_at g σ hk, el_2 s1]) rfl (i_in hj hn) hd (fun H1 locs1 hP1 hD1 hS1 => k2 H1 locs1 ⟨?_, hS1⟩)
  rw [i_cl hj hn, upd_l] at hP1
  have e := el_2 (g := g) (σ := up σ k j x) s1
  rw [show up σ k j x k = upF (σ k) j x from upA_s _ _ _] at e
  rw [← e, show up σ k j x = upA σ k (upF (σ k) j x) from rfl, wl_set hk] at hP1
  exact hP1
/-- arraycopy: the places dp .. dp + n less 1 become the other's from sp on -/
def cpF (f h : Nat → Int) (sp dp n : Nat) : Nat → Int := fun q => if dp ≤ q ∧ q < dp + n then f (sp + (q - dp)) else h q
theorem i_n0 {j : Nat} (h : j ≤ 2147483647) : ¬ Int32.ofInt (j : Int) < 0 := by
  intro q
  have := (i_lt (a := j) (b := 0) (by omega) (by omega)).mp q
  omega
theorem i_cl2 {j : Nat} (h : j ≤ 2147483647) : (Int32.ofInt (j : Int)).toNatClampNeg = j := by
  show (Int32.ofInt (j : Int)).toInt.toNat = j
  rw [i_rt (by omega)]
  rfl
theorem ev_acpi {idx k0 k n0 n1 : Nat} {isp idp inn : Int} (sp dp n : Nat) (hN : Nx y.2.2.1 pc (.invokestatic idx) 3 pc2) (hw : Cond.methodLink y.1 idx arraycopyName ∈ lw_good ∧ Cond.native arraycopyName ∈ lw_good ∧ Cond.static arraycopyName ∈ lw_good ∧ Cond.initialized "java/lang/System" ∈ lw_good) (h0 : ak k0 = some (1, n0)) (h1 : ak k = some (1, n1)) (hsp : isp = (sp : Int)) (hdp : idp = (dp : Int)) (hnn : inn = (n : Int)) (hs : sp + n ≤ n0) (hdn : dp + n ≤ n1) (hcat : (st.map fun v => v.category).sum ≤ 8)
    (kk : EvG w (d + 1) y pc2 lv st (upA σ k (cpF (σ k0) (σ k) sp dp n)) post) : EvG w (d + 1) y pc lv (vi inn :: vi idp :: .ref k :: vi isp :: .ref k0 :: st) σ post := by
  obtain ⟨hd, rfl⟩ := hN
  subst hsp; subst hdp; subst hnn
  have hn0 := ak_n h0
  have hn1 := ak_n h1
  obtain ⟨fl0, s0, -⟩ := ak_spec h0
  obtain ⟨fl, s1, -⟩ := ak_spec h1
  have hk0 := skl_lt s0
  have hk := skl_lt s1
  refine ev_w (fun l g p e R s m args below meth cc H locs ls cells slots Q hC hF hW hL k2 => ?_) kk
  refine va_copyi hC.1 hC.2.1 (hC.2.2.1.trans hL.1.symm) hC.2.2.2.1 (hC.2.2.2.2.1 _ hw.1) (hC.2.2.2.2.1 _ hw.2.1) (hC.2.2.2.2.1 _ hw.2.2.1) (hC.2.2.2.2.1 _ hw.2.2.2) hC.2.2.2.2.2.1 hW.1 (wl_D σ hC.2.2.2.2.2.2.2.1) hW.2 k0 k 0 0 (by rw [wl_at g σ hk0, el_1 s0]) (by rw [wl_at g σ hk, el_1 s1]) rfl rfl rfl (i_n0 (by omega)) (i_n0 (by omega)) (i_n0 (by omega)) (by rw [i_cl2 (by omega), i_cl2 (by omega)]; exact hs) (by rw [i_cl2 (by omega), i_cl2 (by omega)]; exact hdn) (fun _ _ => rfl) (Nat.le_trans (Nat.le_add_left 1 d) hF.1) (Nat.le_trans ?_ hF.2.1) hd (fun H1 locs1 hP1 hD1 hS1 => k2 H1 locs1 ⟨?_, hS1⟩)
  · rw [show nativeFrameWords "java/lang/System" "arraycopy" 5 = 7 by decide +kernel, List.map_map]
    have : (List.map ((fun v => v.category) ∘ cv g) st) = List.map (fun v => v.category) st := List.map_congr_left (fun v _ => cv_cat g v)
    rw [this]
    omega
  · rw [i_cl2 (by omega), i_cl2 (by omega), i_cl2 (by omega)] at hP1
    have e := el_1 (g := g) (σ := upA σ k (cpF (σ k0) (σ k) sp dp n)) s1
    rw [upA_s] at e
    have e2 : va_cpy (fun j => Int32.ofInt (σ k0 j)) (fun j => Int32.ofInt (σ k j)) sp dp n = fun j => Int32.ofInt (cpF (σ k0) (σ k) sp dp n j) := by
      funext q
      unfold va_cpy cpF
      split <;> rfl
    rw [e2, ← e, wl_set hk] at hP1
    exact hP1
theorem ev_acpl {idx k0 k n0 n1 : Nat} {isp idp inn : Int} (sp dp n : Nat) (hN : Nx y.2.2.1 pc (.invokestatic idx) 3 pc2) (hw : Cond.methodLink y.1 idx arraycopyName ∈ lw_good ∧ Cond.native arraycopyName ∈ lw_good ∧ Cond.static arraycopyName ∈ lw_good ∧ Cond.initialized "java/lang/System" ∈ lw_good) (h0 : ak k0 = some (2, n0)) (h1 : ak k = some (2, n1)) (hsp : isp = (sp : Int)) (hdp : idp = (dp : Int)) (hnn : inn = (n : Int)) (hs : sp + n ≤ n0) (hdn : dp + n ≤ n1) (hcat : (st.map fun v => v.category).sum ≤ 8)
    (kk : EvG w (d + 1) y pc2 lv st (upA σ k (cpF (σ k0) (σ k) sp dp n)) post) : EvG w (d + 1) y pc lv (vi inn :: vi idp :: .ref k :: vi isp :: .ref k0 :: st) σ post := by
  obtain ⟨hd, rfl⟩ := hN
  subst hsp; subst hdp; subst hnn
  have hn0 := ak_n h0
  have hn1 := ak_n h1
  obtain ⟨fl0, s0, -⟩ := ak_spec h0
  obtain ⟨fl, s1, -⟩ := ak_spec h1
  have hk0 := skl_lt s0
  have hk := skl_lt s1
  refine ev_w (fun l g p e R s m args below meth cc H locs ls cells slots Q hC hF hW hL k2 => ?_) kk
  refine va_copyl hC.1 hC.2.1 (hC.2.2.1.trans hL.1.symm) hC.2.2.2.1 (hC.2.2.2.2.1 _ hw.1) (hC.2.2.2.2.1 _ hw.2.1) (hC.2.2.2.2.1 _ hw.2.2.1) (hC.2.2.2.2.1 _ hw.2.2.2) hC.2.2.2.2.2.1 hW.1 (wl_D σ hC.2.2.2.2.2.2.2.1) hW.2 k0 k 1 1 (by rw [wl_at g σ hk0, el_2 s0]) (by rw [wl_at g σ hk, el_2 s1]) rfl rfl rfl (i_n0 (by omega)) (i_n0 (by omega)) (i_n0 (by omega)) (by rw [i_cl2 (by omega), i_cl2 (by omega)]; exact hs) (by rw [i_cl2 (by omega), i_cl2 (by omega)]; exact hdn) (fun _ _ => rfl) (Nat.le_trans (Nat.le_add_left 1 d) hF.1) (Nat.le_trans ?_ hF.2.1) hd (fun H1 locs1 hP1 hD1 hS1 => k2 H1 locs1 ⟨?_, hS1⟩)
  · rw [show nativeFrameWords "java/lang/System" "arraycopy" 5 = 7 by decide +kernel, List.map_map]
    have : (List.map ((fun v => v.category) ∘ cv g) st) = List.map (fun v => v.category) st := List.map_congr_left (fun v _ => cv_cat g v)
    rw [this]
    omega
  · rw [i_cl2 (by omega), i_cl2 (by omega), i_cl2 (by omega)] at hP1
    have e := el_2 (g := g) (σ := upA σ k (cpF (σ k0) (σ k) sp dp n)) s1
    rw [upA_s] at e
    have e2 : va_cpy (fun j => Int64.ofInt (σ k0 j)) (fun j => Int64.ofInt (σ k j)) sp dp n = fun j => Int64.ofInt (cpF (σ k0) (σ k) sp dp n j) := by
      funext q
      unfold va_cpy cpF
      split <;> rfl
    rw [e2, ← e, wl_set hk] at hP1
    exact hP1
/-- the static tables -/
theorem ev_gets {idx : Nat} (j : Nat) (hN : Nx y.2.2.1 pc (.getstatic idx) 3 pc2) (hj : j < 3) (hw : Cond.fieldLink y.1 idx RX4 (zn j) "[I" ∈ lw_good) (kk : EvG w d y pc2 lv (.ref (NC + j) :: st) σ post) : EvG w d y pc lv st σ post := by
  obtain ⟨hd, rfl⟩ := hN
  refine ev_w (fun l g p e R s m args below meth cc H locs ls cells slots Q hC hF hW hL k2 => ?_) kk
  exact va_gets hC.1 hC.2.1 (hC.2.2.2.2.2.2.1 j hj).1 hW.2 hC.2.2.2.1 (hC.2.2.2.2.1 _ hw) (fun _ q => q) hd (k2 H locs hW)
theorem ev_ztl {i : Int} (t j : Nat) (hN : Nx y.2.2.1 pc .iaload 1 pc2) (ht : t < 3) (hi : i = (j : Int)) (hj : j < 6) (kk : EvG w d y pc2 lv (vi (zt t j) :: st) σ post) : EvG w d y pc lv (vi i :: .ref (NC + t) :: st) σ post := by
  obtain ⟨hd, rfl⟩ := hN
  subst hi
  refine ev_w (fun l g p e R s m args below meth cc H locs ls cells slots Q hC hF hW hL k2 => ?_) kk
  exact va_ti hC.1 hC.2.1 (hC.2.2.2.2.2.2.1 t ht).2 hW.2 (i_in hj (by decide)) (by rw [i_cl hj (by decide)]; rfl) hd (k2 H locs hW)
theorem ev_ztn (t : Nat) (hN : Nx y.2.2.1 pc .arraylength 1 pc2) (ht : t < 3) (kk : EvG w d y pc2 lv (vi 6 :: st) σ post) : EvG w d y pc lv (.ref (NC + t) :: st) σ post := by
  obtain ⟨hd, rfl⟩ := hN
  refine ev_w (fun l g p e R s m args below meth cc H locs ls cells slots Q hC hF hW hL k2 => ?_) kk
  exact va_tlen hC.1 hC.2.1 (hC.2.2.2.2.2.2.1 t ht).2 hW.2 rfl hd (k2 H locs hW)
/-- ends -/
theorem ev_ret (hN : Nx y.2.2.1 pc .return_ 1 pc2) (hr : y.2.2.2.2 = none) (hp : post none σ) : EvG w d y pc lv [] σ post := fun l g p e R s m args below meth c H locs ls cells slots Q a1 a2 a3 a4 a5 => a5 H locs none σ pc ls hp a3 ⟨hN.1, hr⟩
theorem ev_iret {x : Int} (hN : Nx y.2.2.1 pc .ireturn 1 pc2) (hr : y.2.2.2.2 = some .int) (hp : post (some (vi x)) σ) : EvG w d y pc lv [vi x] σ post := fun l g p e R s m args below meth c H locs ls cells slots Q a1 a2 a3 a4 a5 => a5 H locs (some (vi x)) σ pc ls hp a3 ⟨hN.1, _, hr, rfl⟩
theorem ev_zret {x : Int} (hN : Nx y.2.2.1 pc .ireturn 1 pc2) (hr : y.2.2.2.2 = some .boolean) (hx : x = 0 ∨ x = 1) (hp : post (some (vi x)) σ) : EvG w d y pc lv [vi x] σ post := fun l g p e R s m args below meth c H locs ls cells slots Q a1 a2 a3 a4 a5 => a5 H locs (some (vi x)) σ pc ls hp a3 ⟨hN.1, _, hr, z_nar hx⟩
theorem ev_lret {x : Int} (hN : Nx y.2.2.1 pc .lreturn 1 pc2) (hr : y.2.2.2.2 = some .long) (hp : post (some (vl x)) σ) : EvG w d y pc lv [vl x] σ post := fun l g p e R s m args below meth c H locs ls cells slots Q a1 a2 a3 a4 a5 => a5 H locs (some (vl x)) σ pc ls hp a3 ⟨hN.1, hr⟩
end EH
