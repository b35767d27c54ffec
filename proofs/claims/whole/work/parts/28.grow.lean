/-! Growth (7: rows 24 .. 30, parents 31 .. 37, sizes 23) -/
def imgL (B : Bok) (s : Nat) : List Nat := (List.range (im B s)).map (il B s)
def infl (B : Bok) (l : List Nat) : List Nat := l.flatMap (imgL B)
def rowL (B : Bok) : List Nat := (List.range (B 3)).map (rw_ B)
def Gr (B : Bok) : Nat → List Nat
  | 0 => rowL B
  | n + 1 => infl B (Gr B n)
/-- of which letter each came -/
def prnA (B : Bok) : List Nat → Nat → List Nat
  | [], _ => []
  | s :: r, k => List.replicate (im B s) k ++ prnA B r (k + 1)
def prn (B : Bok) (l : List Nat) : List Nat := prnA B l 0
def AtL (σ : St) (c : Nat) (l : List Nat) : Prop := ∀ (i x : Nat), l[i]? = some x → σ c i = (x : Int)
theorem AtL.of {σ τ : St} {c : Nat} {l : List Nat} (h : AtL σ c l) (e : τ c = σ c) : AtL τ c l := fun i x hi => by rw [e]; exact h i x hi
theorem imgL_len (B : Bok) (s : Nat) : (imgL B s).length = im B s := by simp [imgL]
theorem imgL_at (B : Bok) {s i : Nat} (h : i < im B s) : (imgL B s)[i]? = some (il B s i) := by simp [imgL, h]
theorem rowL_len (B : Bok) : (rowL B).length = B 3 := by simp [rowL]
theorem rowL_at (B : Bok) {i : Nat} (h : i < B 3) : (rowL B)[i]? = some (rw_ B i) := by simp [rowL, h]
theorem infl_app (B : Bok) (a b : List Nat) : infl B (a ++ b) = infl B a ++ infl B b := by simp [infl]
theorem infl_one (B : Bok) (s : Nat) : infl B [s] = imgL B s := by simp [infl]
theorem prnA_app (B : Bok) : ∀ (a b : List Nat) (k : Nat), prnA B (a ++ b) k = prnA B a k ++ prnA B b (k + a.length)
  | [], b, k => by simp [prnA]
  | s :: r, b, k => by
    simp only [List.cons_append, prnA, List.length_cons, List.append_assoc]
    rw [prnA_app B r b (k + 1), show k + 1 + r.length = k + (r.length + 1) by omega]
theorem prnA_len (B : Bok) : ∀ (a : List Nat) (k : Nat), (prnA B a k).length = (infl B a).length
  | [], k => rfl
  | s :: r, k => by
    rw [prnA, List.length_append, List.length_replicate, prnA_len B r (k + 1), show s :: r = [s] ++ r from rfl, infl_app, List.length_append, infl_one, imgL_len]
theorem prn_len (B : Bok) (a : List Nat) : (prn B a).length = (infl B a).length := prnA_len B a 0
theorem take_s {l : List Nat} {i s : Nat} (h : l[i]? = some s) : l.take (i + 1) = l.take i ++ [s] := by
  rw [List.take_succ, h]
  rfl
theorem AtL_push {σ : St} {c : Nat} {l : List Nat} {x : Nat} (h : AtL σ c l) : AtL (up σ c l.length (x : Int)) c (l ++ [x]) := by
  intro i y hi
  by_cases e : i < l.length
  · rw [List.getElem?_append_left e] at hi
    rw [up_n _ _ (by omega)]
    exact h i y hi
  · rw [List.getElem?_append_right (by omega)] at hi
    have h0 : i - l.length < 1 := (List.getElem?_eq_some_iff.mp hi).1
    have e2 : i = l.length := by omega
    subst e2
    simp at hi
    subst hi
    exact up_s _ _ _ _
theorem infl_mono (B : Bok) {l : List Nat} (i : Nat) : (infl B (l.take i)).length ≤ (infl B l).length := by
  conv => rhs; rw [← List.take_append_drop i l, infl_app, List.length_append]
  omega
set_option maxRecDepth 20000 in
theorem c_isStep {d : Nat} {σ : St} {x : Int} (hx : -2147483648 ≤ x ∧ x ≤ 2147483647) : Ct (d) mX3_isStep [vi x] σ (rt (vi (bI (0 ≤ x ∧ x ≤ 6))) σ) := by
  refine ct_of hX3_isStep (Nat.le_of_ble_eq_true rfl) ?_
  refine ev_iload_n eX3_isStep_0 rfl ?_
  refine ev_if_lt 14 eX3_isStep_1 rfl (by omega) (fun h1 => ?_) (fun h1 => ?_)
  · skip
    refine ev_iconst eX3_isStep_14 ?_
    refine ev_zret eX3_isStep_15 rfl (by first | exact Or.inl rfl | exact Or.inr rfl | exact bI01 _) ?_
    exact ⟨congrArg (fun q => some (vi q)) (bI_f (by omega)), rfl⟩
  · skip
    refine ev_iload_n eX3_isStep_4 rfl ?_
    refine ev_bipush eX3_isStep_5 rfl ?_
    refine ev_icmp_gt 14 eX3_isStep_7 rfl (by omega) (by omega) (fun h7 => ?_) (fun h7 => ?_)
    · skip
      refine ev_iconst eX3_isStep_14 ?_
      refine ev_zret eX3_isStep_15 rfl (by first | exact Or.inl rfl | exact Or.inr rfl | exact bI01 _) ?_
      exact ⟨congrArg (fun q => some (vi q)) (bI_f (by omega)), rfl⟩
    · skip
      refine ev_iconst eX3_isStep_10 ?_
      refine ev_goto 15 eX3_isStep_11 rfl ?_
      refine ev_zret eX3_isStep_15 rfl (by first | exact Or.inl rfl | exact Or.inr rfl | exact bI01 _) ?_
      exact ⟨congrArg (fun q => some (vi q)) (bI_t (by omega)), rfl⟩
set_option maxRecDepth 20000 in
theorem c_sizeAt {d : Nat} {σ : St} {k : Nat} (hk : k < 7) : Ct (d) mX3_sizeAt [.ref 7, vi k] σ (rt (vi (σ 23 k)) σ) := by
  refine ct_of hX3_sizeAt (Nat.le_of_ble_eq_true rfl) ?_
  refine ev_aload_n eX3_sizeAt_0 rfl ?_
  refine ev_getr eX3_sizeAt_1 fX3_17 rfl ?_
  refine ev_iload_n eX3_sizeAt_4 rfl ?_
  refine ev_ialdv (k) eX3_sizeAt_5 rfl (by first | rfl | omega) (by omega) rfl ?_
  refine ev_iret eX3_sizeAt_6 rfl ?_
  exact ⟨rfl, rfl⟩
set_option maxRecDepth 20000 in
theorem c_letterAt {d : Nat} {σ : St} {k i : Nat} (hk : k < 7) (hi : i < 300) : Ct (d) mX3_letterAt [.ref 7, vi k, vi i] σ (rt (vi (σ (24 + k) i)) σ) := by
  refine ct_of hX3_letterAt (Nat.le_of_ble_eq_true rfl) ?_
  refine ev_aload_n eX3_letterAt_0 rfl ?_
  refine ev_getr eX3_letterAt_1 fX3_11 rfl ?_
  refine ev_iload_n eX3_letterAt_4 rfl ?_
  refine ev_aald (k) eX3_letterAt_5 rfl (by first | rfl | omega) (by omega) (rkL (by omega)) ?_
  refine ev_iload_n eX3_letterAt_6 rfl ?_
  refine ev_ialdv (i) eX3_letterAt_7 (akL (by omega)) (by first | rfl | omega) (by omega) rfl ?_
  refine ev_iret eX3_letterAt_8 rfl ?_
  exact ⟨rfl, rfl⟩
set_option maxRecDepth 20000 in
theorem c_go_in {d : Nat} {σ : St} {b : Nat} {B : Bok} (hb : Bq b) (hB : BkC σ (b + 13) B) (hf : Wf B) {s0 : Nat} (hs1 : 1 ≤ s0) (hs6 : s0 ≤ 6) {post : Option Value → St → Prop} {s i : Nat} (hs : s < 4) (hi300 : i < 300) {L Q : List Nat} (hLQ : L.length = Q.length) (h300 : L.length + im B s ≤ 300) (hk : ∀ τ : St, AtL τ (24 + s0) (L ++ imgL B s) → AtL τ (31 + s0) (Q ++ List.replicate (im B s) i) → τ 23 = σ 23 → (∀ k, k ≠ 23 → k ≠ 24 + s0 → k ≠ 31 + s0 → τ k = σ k) → Ev (d + 2) mX3_growOnce 99 [.ref 7, .ref b, vi s0, vi L.length, vi i, vi s, vi (im B s), vi (im B s)] [] τ post) : ∀ (fu : Nat) {j : Nat} {τ : St}, im B s - j < fu → j ≤ im B s → AtL τ (24 + s0) (L ++ (imgL B s).take j) → AtL τ (31 + s0) (Q ++ List.replicate j i) → τ 23 = σ 23 → (∀ k, k ≠ 23 → k ≠ 24 + s0 → k ≠ 31 + s0 → τ k = σ k) → Ev (d + 2) mX3_growOnce 54 [.ref 7, .ref b, vi s0, vi L.length, vi i, vi s, vi (im B s), vi j] [] τ (post) := by
  intro fu
  induction fu with
  | zero => intros; omega
  | succ fu ih =>
    intro j τ hn h1 h2 h3 h5 h9
    refine ev_iload eX3_growOnce_54 rfl ?_
    refine ev_iload eX3_growOnce_56 rfl ?_
    refine ev_icmp_ge 99 eX3_growOnce_58 rfl (by omega) (by omega) (fun h58 => ?_) (fun h58 => ?_)
    · skip
      obtain rfl : j = im B s := by omega
      rw [List.take_of_length_le (by rw [imgL_len]; omega)] at h2
      exact hk τ h2 h3 h5 h9
    · skip
      refine ev_aload_n eX3_growOnce_61 rfl ?_
      refine ev_getr eX3_growOnce_62 fX3_11 rfl ?_
      refine ev_iload_n eX3_growOnce_65 rfl ?_
      refine ev_aald (s0) eX3_growOnce_66 rfl (by first | rfl | omega) (by omega) (rkL (by omega)) ?_
      refine ev_iload_n eX3_growOnce_67 rfl ?_
      refine ev_iload eX3_growOnce_68 rfl ?_
      refine ev_iadd eX3_growOnce_70 ?_
      refine ev_aload_n eX3_growOnce_71 rfl ?_
      refine ev_iload eX3_growOnce_72 rfl ?_
      refine ev_iload eX3_growOnce_74 rfl ?_
      refine ev_cV2 eX3_growOnce_76 ⟨lX3_38, kX0_imageLetter⟩ (ocB hb) rfl (c_imageLetter hb (fun j hj => by rw [h9 _ (by have := hb; unfold Bq at this; omega) (by have := hb; unfold Bq at this; omega) (by have := hb; unfold Bq at this; omega)]; exact hB j hj) hf.1 hs (i := j) (by omega) (hf.2.2.2.1 s hs)) ?_
      rintro _ _ ⟨rfl, rfl⟩
      refine ev_iast ((L.length + j)) eX3_growOnce_79 (akL (by omega)) (by first | rfl | omega) (by omega) ?_
      refine ev_aload_n eX3_growOnce_80 rfl ?_
      refine ev_getr eX3_growOnce_81 fX3_14 rfl ?_
      refine ev_iload_n eX3_growOnce_84 rfl ?_
      refine ev_aald (s0) eX3_growOnce_85 rfl (by first | rfl | omega) (by omega) (rkP (by omega)) ?_
      refine ev_iload_n eX3_growOnce_86 rfl ?_
      refine ev_iload eX3_growOnce_87 rfl ?_
      refine ev_iadd eX3_growOnce_89 ?_
      refine ev_iload eX3_growOnce_90 rfl ?_
      refine ev_iast ((L.length + j)) eX3_growOnce_92 (akP (by omega)) (by first | rfl | omega) (by omega) ?_
      refine ev_iinc eX3_growOnce_93 rfl (by decide) ?_
      refine ev_goto 54 eX3_growOnce_96 rfl ?_
      have e1 : (L ++ (imgL B s).take j).length = L.length + j := by rw [List.length_append, List.length_take, imgL_len]; omega
      have e2 : (Q ++ List.replicate j i).length = L.length + j := by rw [List.length_append, List.length_replicate]; omega
      refine ih (j := j + 1) (by omega) (by omega) ?_ ?_ ?_ (fun k a1 a2 a3 => by rw [up_o _ _ _ a3, up_o _ _ _ a2]; exact h9 k a1 a2 a3)
      · have h := AtL_push (x := il B s j) h2
        rw [e1, List.append_assoc, ← take_s (imgL_at B (by omega))] at h
        exact h.of (up_o _ _ _ (by omega))
      · have h := AtL_push (x := i) (h3.of (τ := up τ (24 + s0) (L.length + j) (il B s j : Int)) (up_o _ _ _ (by omega)))
        rw [e2, List.append_assoc, ← List.replicate_succ'] at h
        exact h
      · rw [up_o _ _ _ (by omega), up_o _ _ _ (by omega)]; exact h5
set_option maxRecDepth 20000 in
theorem c_go_l {d : Nat} {σ : St} {b : Nat} {B : Bok} (hb : Bq b) (hB : BkC σ (b + 13) B) (hf : Wf B) {s0 : Nat} (hs1 : 1 ≤ s0) (hs6 : s0 ≤ 6) {l : List Nat} (hl : AtL σ (24 + (s0 - 1)) l) (hz : σ 23 (s0 - 1) = (l.length : Int)) (hl3 : l.length ≤ 300) (hlt : ∀ x ∈ l, x < 4)  : ∀ (fu : Nat) {i c : Nat} {u5 u6 u7 : Value} {τ : St}, l.length - i < fu → i ≤ l.length → c = (infl B (l.take i)).length → c ≤ 300 → AtL τ (24 + s0) (infl B (l.take i)) → AtL τ (31 + s0) (prn B (l.take i)) → τ 23 = σ 23 → (∀ k, k ≠ 23 → k ≠ 24 + s0 → k ≠ 31 + s0 → τ k = σ k) → Ev (d + 2) mX3_growOnce 5 [.ref 7, .ref b, vi s0, vi c, vi i, u5, u6, u7] [] τ (fun r τ => (∀ k, k ≠ 23 → k ≠ 24 + s0 → k ≠ 31 + s0 → τ k = σ k) ∧ ((some (vi 1) = r ∧ (infl B l).length ≤ 300 ∧ AtL τ (24 + s0) (infl B l) ∧ AtL τ (31 + s0) (prn B l) ∧ τ 23 = upF (σ 23) s0 ((infl B l).length : Int)) ∨ (some (vi 0) = r ∧ τ 23 = σ 23 ∧ 300 < (infl B l).length))) := by
  intro fu
  induction fu with
  | zero => intros; omega
  | succ fu ih =>
    intro i c u5 u6 u7 τ hn h1 h2 h3 h4a h5 h6 h9
    refine ev_iload eX3_growOnce_5 rfl ?_
    refine ev_aload_n eX3_growOnce_7 rfl ?_
    refine ev_getr eX3_growOnce_8 fX3_17 rfl ?_
    refine ev_iload_n eX3_growOnce_11 rfl ?_
    refine ev_iconst eX3_growOnce_12 ?_
    refine ev_isub eX3_growOnce_13 ?_
    refine ev_ialdv ((s0 - 1)) eX3_growOnce_14 rfl (by first | rfl | omega) (by omega) (show _ = (l.length : Int) by rw [h6]; exact hz) ?_
    refine ev_icmp_ge 110 eX3_growOnce_15 rfl (by omega) (by omega) (fun h15 => ?_) (fun h15 => ?_)
    · skip
      refine ev_aload_n eX3_growOnce_110 rfl ?_
      refine ev_getr eX3_growOnce_111 fX3_17 rfl ?_
      refine ev_iload_n eX3_growOnce_114 rfl ?_
      refine ev_iload_n eX3_growOnce_115 rfl ?_
      refine ev_iast (s0) eX3_growOnce_116 rfl (by first | rfl | omega) (by omega) ?_
      refine ev_iconst eX3_growOnce_117 ?_
      refine ev_zret eX3_growOnce_118 rfl (by first | exact Or.inl rfl | exact Or.inr rfl | exact bI01 _) ?_
      obtain rfl : i = l.length := by omega
      rw [List.take_length] at h2 h4a h5
      refine ⟨fun k a1 a2 a3 => by rw [up_o _ _ _ a1]; exact h9 k a1 a2 a3, Or.inl ⟨rfl, by omega, h4a.of (up_o _ _ _ (by omega)), h5.of (up_o _ _ _ (by omega)), ?_⟩⟩
      rw [up, upA_s, h6, h2]
    · skip
      obtain ⟨s, hsi⟩ : ∃ s, l[i]? = some s := ⟨_, List.getElem?_eq_getElem (show i < l.length by omega)⟩
      have hs := hlt s (List.mem_of_getElem? hsi)
      have h4 := im_le hf hs
      have e3 : (infl B (l.take (i + 1))).length = (infl B (l.take i)).length + im B s := by rw [take_s hsi, infl_app, infl_one, List.length_append, imgL_len]
      have e4 := infl_mono B (l := l) (i + 1)
      refine ev_aload_n eX3_growOnce_18 rfl ?_
      refine ev_getr eX3_growOnce_19 fX3_11 rfl ?_
      refine ev_iload_n eX3_growOnce_22 rfl ?_
      refine ev_iconst eX3_growOnce_23 ?_
      refine ev_isub eX3_growOnce_24 ?_
      refine ev_aald ((s0 - 1)) eX3_growOnce_25 rfl (by first | rfl | omega) (by omega) (rkL (by omega)) ?_
      refine ev_iload eX3_growOnce_26 rfl ?_
      refine ev_ialdv (i) eX3_growOnce_28 (akL (by omega)) (by first | rfl | omega) (by omega) (show _ = (s : Int) by rw [h9 _ (by omega) (by omega) (by omega)]; exact hl i s hsi) ?_
      refine ev_istore eX3_growOnce_29 (by decide) ?_
      refine ev_aload_n eX3_growOnce_31 rfl ?_
      refine ev_iload eX3_growOnce_32 rfl ?_
      refine ev_cV1 eX3_growOnce_34 ⟨lX3_35, kX0_imageSize⟩ (ocB hb) rfl (c_imageSize hb (fun j hj => by rw [h9 _ (by have := hb; unfold Bq at this; omega) (by have := hb; unfold Bq at this; omega) (by have := hb; unfold Bq at this; omega)]; exact hB j hj) hf.1 hs) ?_
      rintro _ _ ⟨rfl, rfl⟩
      refine ev_istore eX3_growOnce_37 (by decide) ?_
      refine ev_iload eX3_growOnce_39 rfl ?_
      refine ev_sipush eX3_growOnce_41 rfl ?_
      refine ev_iload_n eX3_growOnce_44 rfl ?_
      refine ev_isub eX3_growOnce_45 ?_
      refine ev_icmp_le 51 eX3_growOnce_46 rfl (by omega) (by omega) (fun h46 => ?_) (fun h46 => ?_)
      · skip
        refine ev_iconst eX3_growOnce_51 ?_
        refine ev_istore eX3_growOnce_52 (by decide) ?_
        subst h2
        refine c_go_in hb hB hf hs1 hs6 (s := s) (i := i) hs (by omega) (L := infl B (l.take i)) (Q := prn B (l.take i)) (prn_len B _).symm (by omega) (fun τ2 g1 g2 g3 g4 => ?_) 5 (j := 0) (by omega) (by omega) (by simpa using h4a) (by simpa using h5) h6 h9
        refine ev_iload_n eX3_growOnce_99 rfl ?_
        refine ev_iload eX3_growOnce_100 rfl ?_
        refine ev_iadd eX3_growOnce_102 ?_
        refine ev_istore_n eX3_growOnce_103 (by decide) ?_
        refine ev_iinc eX3_growOnce_104 rfl (by decide) ?_
        refine ev_goto 5 eX3_growOnce_107 rfl ?_
        have e3 : (infl B (l.take (i + 1))).length = (infl B (l.take i)).length + im B s := by rw [take_s hsi, infl_app, infl_one, List.length_append, imgL_len]
        refine ih (i := i + 1) (c := (infl B (l.take i)).length + im B s) (by omega) (by omega) e3.symm (by omega) ?_ ?_ g3 g4
        · rw [take_s hsi, infl_app, infl_one]; exact g1
        · rw [take_s hsi, prn, prnA_app, List.length_take, Nat.min_eq_left (by omega), Nat.zero_add]
          simp only [prnA, List.append_nil]
          exact g2
      · skip
        refine ev_iconst eX3_growOnce_49 ?_
        refine ev_zret eX3_growOnce_50 rfl (by first | exact Or.inl rfl | exact Or.inr rfl | exact bI01 _) ?_
        exact ⟨h9, Or.inr ⟨rfl, h6, by omega⟩⟩
set_option maxRecDepth 20000 in
theorem c_growOnce {d : Nat} {σ : St} {b : Nat} {B : Bok} (hb : Bq b) (hB : BkC σ (b + 13) B) (hf : Wf B) {s0 : Nat} (hs1 : 1 ≤ s0) (hs6 : s0 ≤ 6) {l : List Nat} (hl : AtL σ (24 + (s0 - 1)) l) (hz : σ 23 (s0 - 1) = (l.length : Int)) (hl3 : l.length ≤ 300) (hlt : ∀ x ∈ l, x < 4)  : Ct (d + 2) mX3_growOnce [.ref 7, .ref b, vi s0] σ (fun r τ => (∀ k, k ≠ 23 → k ≠ 24 + s0 → k ≠ 31 + s0 → τ k = σ k) ∧ ((some (vi 1) = r ∧ (infl B l).length ≤ 300 ∧ AtL τ (24 + s0) (infl B l) ∧ AtL τ (31 + s0) (prn B l) ∧ τ 23 = upF (σ 23) s0 ((infl B l).length : Int)) ∨ (some (vi 0) = r ∧ τ 23 = σ 23 ∧ 300 < (infl B l).length))) := by
  refine ct_of hX3_growOnce (Nat.le_of_ble_eq_true rfl) ?_
  refine ev_iconst eX3_growOnce_0 ?_
  refine ev_istore_n eX3_growOnce_1 (by decide) ?_
  refine ev_iconst eX3_growOnce_2 ?_
  refine ev_istore eX3_growOnce_3 (by decide) ?_
  exact c_go_l hb hB hf hs1 hs6 hl hz hl3 hlt 301 (i := 0) (c := 0) (by omega) (by omega) rfl (by omega) (fun i x h => by simp [infl] at h) (fun i x h => by simp [prn, prnA] at h) rfl (fun k _ _ _ => rfl)
