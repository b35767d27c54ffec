/-! Kinds (11: trace 44) -/
def isK (k v : Nat) : Prop := v = 0 ∨ k = v ∨ (v = 1 ∧ (k = 2 ∨ k = 3)) ∨ (v = 4 ∧ k = 5)
/-- a body leaves its number -/
def lvS (σ : St) (n : Nat) (x : Int) : St := up (up σ 44 n x) 11 1 ((n : Int) + 1)
theorem lvS_n (σ : St) (n : Nat) (x : Int) : lvS σ n x 11 1 = ((n + 1 : Nat) : Int) := by unfold lvS; rw [up_s]; push_cast; rfl
theorem lvS_o (σ : St) (n : Nat) (x : Int) {k : Nat} (h1 : k ≠ 44) (h2 : k ≠ 11) : lvS σ n x k = σ k := by unfold lvS; rw [up_o _ _ _ h2, up_o _ _ _ h1]
theorem lvS_B {σ : St} {b n : Nat} {x : Int} {B : Bok} (hb : Bq b) (h : BkC σ (b + 13) B) : BkC (lvS σ n x) (b + 13) B := by
  intro j hj
  rw [lvS_o _ _ _ (by have := hb; unfold Bq at this; omega) (by have := hb; unfold Bq at this; omega)]
  exact h j hj
set_option maxRecDepth 20000 in
theorem c_bodyCount {d : Nat} {σ : St} {n : Nat} (hn : σ 11 1 = (n : Int)) : Ct (d) mX4_bodyCount [.ref 11] σ (rt (vi n) σ) := by
  refine ct_of hX4_bodyCount (Nat.le_of_ble_eq_true rfl) ?_
  refine ev_aload_n eX4_bodyCount_0 rfl ?_
  refine ev_getiv eX4_bodyCount_1 fX4_13 rfl hn ?_
  refine ev_iret eX4_bodyCount_4 rfl ?_
  exact ⟨rfl, rfl⟩
set_option maxRecDepth 20000 in
theorem c_body {d : Nat} {σ : St} {i : Nat} (hi : i < 16) : Ct (d) mX4_body [.ref 11, vi i] σ (rt (vi (σ 44 i)) σ) := by
  refine ct_of hX4_body (Nat.le_of_ble_eq_true rfl) ?_
  refine ev_aload_n eX4_body_0 rfl ?_
  refine ev_getr eX4_body_1 fX4_9 rfl ?_
  refine ev_iload_n eX4_body_4 rfl ?_
  refine ev_ialdv (i) eX4_body_5 rfl (by first | rfl | omega) (by omega) rfl ?_
  refine ev_iret eX4_body_6 rfl ?_
  exact ⟨rfl, rfl⟩
set_option maxRecDepth 20000 in
theorem c_leave {d : Nat} {σ : St} {n : Nat} {x : Int} (hn : σ 11 1 = (n : Int)) (h16 : n < 16) : Ct (d) mX4_leave [.ref 11, vi x] σ (rv (lvS σ n x)) := by
  refine ct_of hX4_leave (Nat.le_of_ble_eq_true rfl) ?_
  refine ev_aload_n eX4_leave_0 rfl ?_
  refine ev_getiv eX4_leave_1 fX4_13 rfl hn ?_
  refine ev_bipush eX4_leave_4 rfl ?_
  refine ev_icmp_lt 10 eX4_leave_6 rfl (by omega) (by omega) (fun h6 => ?_) (fun h6 => False.elim (by omega))
  refine ev_aload_n eX4_leave_10 rfl ?_
  refine ev_getr eX4_leave_11 fX4_9 rfl ?_
  refine ev_aload_n eX4_leave_14 rfl ?_
  refine ev_getiv eX4_leave_15 fX4_13 rfl hn ?_
  refine ev_iload_n eX4_leave_18 rfl ?_
  refine ev_iast (n) eX4_leave_19 rfl (by first | rfl | omega) (by omega) ?_
  refine ev_aload_n eX4_leave_20 rfl ?_
  refine ev_dup eX4_leave_21 rfl ?_
  refine ev_getiv eX4_leave_22 fX4_13 rfl (show _ = (n : Int) by rw [up_o _ _ _ (by decide)]; exact hn) ?_
  refine ev_iconst eX4_leave_25 ?_
  refine ev_iadd eX4_leave_26 ?_
  refine ev_puti eX4_leave_27 pX4_13 rfl ?_
  refine ev_ret eX4_leave_30 rfl ?_
  exact ⟨rfl, rfl⟩
set_option maxRecDepth 20000 in
theorem c_sizeBody {d : Nat} {σ : St} {b : Nat} {B : Bok} (hb : Bq b) (hB : BkC σ (b + 13) B) (hf : Wf B) {s : Nat} (hs : s < 4) : Ct (d + 1) mX4_sizeBody [.ref b, vi s] σ (rt (vi (zt 1 (bk B s))) σ) := by
  refine ct_of hX4_sizeBody (Nat.le_of_ble_eq_true rfl) ?_
  refine ev_gets 1 eX4_sizeBody_0 (by decide) zX4_31 ?_
  refine ev_aload_n eX4_sizeBody_3 rfl ?_
  refine ev_iload_n eX4_sizeBody_4 rfl ?_
  refine ev_cV1 eX4_sizeBody_5 ⟨lX4_34, kX0_kindOf⟩ (ocB hb) rfl (c_kindOf hb hB hf.1 hs) ?_
  rintro _ _ ⟨rfl, rfl⟩
  have hk := hf.2.2.2.2.1 s hs
  refine ev_ztl 1 (bk B s) eX4_sizeBody_8 (by decide) (by first | rfl | omega) (by omega) ?_
  refine ev_iret eX4_sizeBody_9 rfl ?_
  exact ⟨rfl, rfl⟩
set_option maxRecDepth 20000 in
theorem c_markBody {d : Nat} {σ : St} {b : Nat} {B : Bok} (hb : Bq b) (hB : BkC σ (b + 13) B) (hf : Wf B) {s : Nat} (hs : s < 4) : Ct (d + 1) mX4_markBody [.ref b, vi s] σ (rt (vi (zt 2 (bk B s))) σ) := by
  refine ct_of hX4_markBody (Nat.le_of_ble_eq_true rfl) ?_
  refine ev_gets 2 eX4_markBody_0 (by decide) zX4_40 ?_
  refine ev_aload_n eX4_markBody_3 rfl ?_
  refine ev_iload_n eX4_markBody_4 rfl ?_
  refine ev_cV1 eX4_markBody_5 ⟨lX4_34, kX0_kindOf⟩ (ocB hb) rfl (c_kindOf hb hB hf.1 hs) ?_
  rintro _ _ ⟨rfl, rfl⟩
  have hk := hf.2.2.2.2.1 s hs
  refine ev_ztl 2 (bk B s) eX4_markBody_8 (by decide) (by first | rfl | omega) (by omega) ?_
  refine ev_iret eX4_markBody_9 rfl ?_
  exact ⟨rfl, rfl⟩
def nrst : Nat → Nat
  | 2 => 1
  | 3 => 1
  | 5 => 4
  | _ => 0
theorem zt0 {k : Nat} (h : k ≤ 5) : zt 0 k = (nrst k : Int) := by
  match k, h with
  | 0, _ => rfl
  | 1, _ => rfl
  | 2, _ => rfl
  | 3, _ => rfl
  | 4, _ => rfl
  | 5, _ => rfl
theorem nrst_lt {k : Nat} (h : 0 < k) (h5 : k ≤ 5) : nrst k < k := by
  match k, h, h5 with
  | 1, _, _ => decide
  | 2, _, _ => decide
  | 3, _, _ => decide
  | 4, _, _ => decide
  | 5, _, _ => decide
theorem isK_all : ∀ k : Fin 6, ∀ v : Fin 6, 0 < k.val → k.val ≠ v.val → ((v.val = 0 ∨ k.val = v.val ∨ (v.val = 1 ∧ (k.val = 2 ∨ k.val = 3)) ∨ (v.val = 4 ∧ k.val = 5)) ↔ (v.val = 0 ∨ nrst k.val = v.val ∨ (v.val = 1 ∧ (nrst k.val = 2 ∨ nrst k.val = 3)) ∨ (v.val = 4 ∧ nrst k.val = 5))) := by decide
theorem isK_step {k v : Nat} (h : 0 < k) (h5 : k ≤ 5) (hv : v ≤ 5) (hne : k ≠ v) : isK k v ↔ isK (nrst k) v := isK_all ⟨k, by omega⟩ ⟨v, by omega⟩ h hne
set_option maxRecDepth 20000 in
theorem c_isA_l {d : Nat} {σ : St} {k v : Nat} (hk : k ≤ 5) (hv : v ≤ 5) : ∀ (fu : Nat) {c i : Nat}, c < fu → c ≤ 5 → i + c ≤ 5 → (isK c v ↔ isK k v) → Ev (d) mX4_isA 4 [vi k, vi v, vi c, vi i] [] σ (rt (vi (bC (isK k v))) σ) := by
  intro fu
  induction fu with
  | zero => intros; omega
  | succ fu ih =>
    intro c i hn h1 h2 h3
    refine ev_iload_n eX4_isA_4 rfl ?_
    refine ev_gets 0 eX4_isA_5 (by decide) zX4_17 ?_
    refine ev_ztn 0 eX4_isA_8 (by decide) ?_
    refine ev_icmp_ge 43 eX4_isA_9 rfl (by omega) (by omega) (fun h9 => False.elim (by omega)) (fun h9 => ?_)
    refine ev_iload_n eX4_isA_12 rfl ?_
    refine ev_if_le 43 eX4_isA_13 rfl (by omega) (fun h13 => ?_) (fun h13 => ?_)
    · skip
      refine ev_iload_n eX4_isA_43 rfl ?_
      refine ev_if_ne 51 eX4_isA_44 rfl (by omega) (fun h44 => ?_) (fun h44 => ?_)
      · skip
        refine ev_iconst eX4_isA_51 ?_
        refine ev_zret eX4_isA_52 rfl (by first | exact Or.inl rfl | exact Or.inr rfl | exact bI01 _) ?_
        exact ⟨congrArg (fun q => some (vi q)) (bI_f (fun z => by have z2 := h3.mpr z; unfold isK at z2; omega)), rfl⟩
      · skip
        refine ev_iconst eX4_isA_47 ?_
        refine ev_goto 52 eX4_isA_48 rfl ?_
        refine ev_zret eX4_isA_52 rfl (by first | exact Or.inl rfl | exact Or.inr rfl | exact bI01 _) ?_
        exact ⟨congrArg (fun q => some (vi q)) (bI_t (h3.mp (Or.inl (by omega)))), rfl⟩
    · skip
      refine ev_iload_n eX4_isA_16 rfl ?_
      refine ev_gets 0 eX4_isA_17 (by decide) zX4_17 ?_
      refine ev_ztn 0 eX4_isA_20 (by decide) ?_
      refine ev_icmp_ge 43 eX4_isA_21 rfl (by omega) (by omega) (fun h21 => False.elim (by omega)) (fun h21 => ?_)
      refine ev_iload_n eX4_isA_24 rfl ?_
      refine ev_iload_n eX4_isA_25 rfl ?_
      refine ev_icmp_ne 31 eX4_isA_26 rfl (by omega) (by omega) (fun h26 => ?_) (fun h26 => ?_)
      · skip
        refine ev_gets 0 eX4_isA_31 (by decide) zX4_17 ?_
        refine ev_iload_n eX4_isA_34 rfl ?_
        refine ev_ztl 0 (c) eX4_isA_35 (by decide) (by first | rfl | omega) (by omega) ?_
        rw [zt0 h1]
        refine ev_istore_n eX4_isA_36 (by decide) ?_
        refine ev_iinc eX4_isA_37 rfl (by decide) ?_
        refine ev_goto 4 eX4_isA_40 rfl ?_
        have q := nrst_lt (k := c) (by omega) h1
        exact ih (c := nrst c) (i := i + 1) (by omega) (by omega) (by omega) ((isK_step (by omega) h1 hv (by omega)).symm.trans h3)
      · skip
        refine ev_iconst eX4_isA_29 ?_
        refine ev_zret eX4_isA_30 rfl (by first | exact Or.inl rfl | exact Or.inr rfl | exact bI01 _) ?_
        exact ⟨congrArg (fun q => some (vi q)) (bI_t (h3.mp (Or.inr (Or.inl (by omega))))), rfl⟩
set_option maxRecDepth 20000 in
theorem c_isA {d : Nat} {σ : St} {k v : Nat} (hk : k ≤ 5) (hv : v ≤ 5) : Ct (d) mX4_isA [vi k, vi v] σ (rt (vi (bC (isK k v))) σ) := by
  refine ct_of hX4_isA (Nat.le_of_ble_eq_true rfl) ?_
  refine ev_iload_n eX4_isA_0 rfl ?_
  refine ev_istore_n eX4_isA_1 (by decide) ?_
  refine ev_iconst eX4_isA_2 ?_
  refine ev_istore_n eX4_isA_3 (by decide) ?_
  exact c_isA_l hk hv 6 (c := k) (i := 0) (by omega) hk (by omega) Iff.rfl
def toldN (x : Int) : Nat := if x = 112 then 1 else if x = 109 then 2 else if x = 108 then 3 else if x = 102 then 4 else if x = 115 then 5 else 0
theorem toldN_le (x : Int) : toldN x ≤ 5 := by
  unfold toldN
  repeat (first | omega | split)
set_option maxRecDepth 20000 in
theorem c_toldBy {d : Nat} {σ : St} {x : Int} (hx : -1 ≤ x ∧ x ≤ 255) : Ct d mX4_toldBy [vi x] σ (rt (vi (toldN x)) σ) := by
  refine ct_of hX4_toldBy (Nat.le_of_ble_eq_true rfl) ?_
  refine ev_iload_n eX4_toldBy_0 rfl ?_
  by_cases h : x < 102 ∨ 115 < x
  · refine ev_tswO 82 eX4_toldBy_1 (by omega) (by omega) rfl ?_
    refine ev_iconst eX4_toldBy_82 ?_
    refine ev_iret eX4_toldBy_83 rfl ?_
    exact ⟨congrArg (fun q => some (vi q)) (by unfold toldN; rw [if_neg (by omega), if_neg (by omega), if_neg (by omega), if_neg (by omega), if_neg (by omega)]; rfl), rfl⟩
  · rcases (show x = 102 ∨ x = 103 ∨ x = 104 ∨ x = 105 ∨ x = 106 ∨ x = 107 ∨ x = 108 ∨ x = 109 ∨ x = 110 ∨ x = 111 ∨ x = 112 ∨ x = 113 ∨ x = 114 ∨ x = 115 by omega) with rfl | rfl | rfl | rfl | rfl | rfl | rfl | rfl | rfl | rfl | rfl | rfl | rfl | rfl
    · refine ev_tswI 78 eX4_toldBy_1 (by omega) (by omega) rfl rfl ?_
      refine ev_iconst eX4_toldBy_78 ?_
      refine ev_iret eX4_toldBy_79 rfl ?_
      exact ⟨rfl, rfl⟩
    · refine ev_tswI 82 eX4_toldBy_1 (by omega) (by omega) rfl rfl ?_
      refine ev_iconst eX4_toldBy_82 ?_
      refine ev_iret eX4_toldBy_83 rfl ?_
      exact ⟨rfl, rfl⟩
    · refine ev_tswI 82 eX4_toldBy_1 (by omega) (by omega) rfl rfl ?_
      refine ev_iconst eX4_toldBy_82 ?_
      refine ev_iret eX4_toldBy_83 rfl ?_
      exact ⟨rfl, rfl⟩
    · refine ev_tswI 82 eX4_toldBy_1 (by omega) (by omega) rfl rfl ?_
      refine ev_iconst eX4_toldBy_82 ?_
      refine ev_iret eX4_toldBy_83 rfl ?_
      exact ⟨rfl, rfl⟩
    · refine ev_tswI 82 eX4_toldBy_1 (by omega) (by omega) rfl rfl ?_
      refine ev_iconst eX4_toldBy_82 ?_
      refine ev_iret eX4_toldBy_83 rfl ?_
      exact ⟨rfl, rfl⟩
    · refine ev_tswI 82 eX4_toldBy_1 (by omega) (by omega) rfl rfl ?_
      refine ev_iconst eX4_toldBy_82 ?_
      refine ev_iret eX4_toldBy_83 rfl ?_
      exact ⟨rfl, rfl⟩
    · refine ev_tswI 76 eX4_toldBy_1 (by omega) (by omega) rfl rfl ?_
      refine ev_iconst eX4_toldBy_76 ?_
      refine ev_iret eX4_toldBy_77 rfl ?_
      exact ⟨rfl, rfl⟩
    · refine ev_tswI 74 eX4_toldBy_1 (by omega) (by omega) rfl rfl ?_
      refine ev_iconst eX4_toldBy_74 ?_
      refine ev_iret eX4_toldBy_75 rfl ?_
      exact ⟨rfl, rfl⟩
    · refine ev_tswI 82 eX4_toldBy_1 (by omega) (by omega) rfl rfl ?_
      refine ev_iconst eX4_toldBy_82 ?_
      refine ev_iret eX4_toldBy_83 rfl ?_
      exact ⟨rfl, rfl⟩
    · refine ev_tswI 82 eX4_toldBy_1 (by omega) (by omega) rfl rfl ?_
      refine ev_iconst eX4_toldBy_82 ?_
      refine ev_iret eX4_toldBy_83 rfl ?_
      exact ⟨rfl, rfl⟩
    · refine ev_tswI 72 eX4_toldBy_1 (by omega) (by omega) rfl rfl ?_
      refine ev_iconst eX4_toldBy_72 ?_
      refine ev_iret eX4_toldBy_73 rfl ?_
      exact ⟨rfl, rfl⟩
    · refine ev_tswI 82 eX4_toldBy_1 (by omega) (by omega) rfl rfl ?_
      refine ev_iconst eX4_toldBy_82 ?_
      refine ev_iret eX4_toldBy_83 rfl ?_
      exact ⟨rfl, rfl⟩
    · refine ev_tswI 82 eX4_toldBy_1 (by omega) (by omega) rfl rfl ?_
      refine ev_iconst eX4_toldBy_82 ?_
      refine ev_iret eX4_toldBy_83 rfl ?_
      exact ⟨rfl, rfl⟩
    · refine ev_tswI 80 eX4_toldBy_1 (by omega) (by omega) rfl rfl ?_
      refine ev_iconst eX4_toldBy_80 ?_
      refine ev_iret eX4_toldBy_81 rfl ?_
      exact ⟨rfl, rfl⟩
set_option maxRecDepth 20000 in
theorem c_g10 {d : Nat} {σ : St} {b : Nat} {B : Bok} (hb : Bq b) (hB : BkC σ (b + 13) B) (hf : Wf B) {s n : Nat} (hs : s < 4) (hn : σ 11 1 = (n : Int))  (h16 : n + 1 ≤ 16) {dp : Nat} (hdp : dp ≤ 12) : Ct (d + 1) mX4_give [.ref 11, .ref b, vi s, vi 10, vi dp] σ (rt (vi ((pt B s 0 : Int))) (lvS σ n 10)) := by
  refine ct_of hX4_give (Nat.le_of_ble_eq_true rfl) ?_
  refine ev_iload eX4_give_0 rfl ?_
  refine ev_bipush eX4_give_2 rfl ?_
  refine ev_icmp_le 9 eX4_give_4 rfl (by omega) (by omega) (fun h4 => ?_) (fun h4 => False.elim (by omega))
  refine ev_aload_n eX4_give_9 rfl ?_
  refine ev_iload_n eX4_give_10 rfl ?_
  refine ev_cV1 eX4_give_11 ⟨lX4_43, kX4_leave⟩ rfl rfl (c_leave hn (by omega)) ?_
  rintro _ _ ⟨rfl, rfl⟩
  have hB1 := lvS_B (n := n) (x := 10) hb hB
  have hn1 := lvS_n σ n 10
  refine ev_iload eX4_give_14 rfl ?_
  refine ev_iconst eX4_give_16 ?_
  refine ev_iadd eX4_give_17 ?_
  refine ev_istore eX4_give_18 (by decide) ?_
  refine ev_iload_n eX4_give_20 rfl ?_
  refine ev_tswI 96 eX4_give_21 (by omega) (by omega) rfl rfl ?_
  refine ev_aload_n eX4_give_96 rfl ?_
  refine ev_iload_n eX4_give_97 rfl ?_
  refine ev_iconst eX4_give_98 ?_
  refine ev_cV2 eX4_give_99 ⟨lX4_47, kX0_part⟩ (ocB hb) rfl (c_part hb hB1 hf.1 hs (w := 0) (by omega)) ?_
  rintro _ _ ⟨rfl, rfl⟩
  refine ev_iret eX4_give_102 rfl ?_
  exact ⟨rfl, rfl⟩
set_option maxRecDepth 20000 in
theorem c_g20 {d : Nat} {σ : St} {b : Nat} {B : Bok} (hb : Bq b) (hB : BkC σ (b + 13) B) (hf : Wf B) {s n : Nat} (hs : s < 4) (hn : σ 11 1 = (n : Int))  (h16 : n + 1 ≤ 16) {dp : Nat} (hdp : dp ≤ 12) : Ct (d + 1) mX4_give [.ref 11, .ref b, vi s, vi 20, vi dp] σ (rt (vi ((s : Int))) (lvS σ n 20)) := by
  refine ct_of hX4_give (Nat.le_of_ble_eq_true rfl) ?_
  refine ev_iload eX4_give_0 rfl ?_
  refine ev_bipush eX4_give_2 rfl ?_
  refine ev_icmp_le 9 eX4_give_4 rfl (by omega) (by omega) (fun h4 => ?_) (fun h4 => False.elim (by omega))
  refine ev_aload_n eX4_give_9 rfl ?_
  refine ev_iload_n eX4_give_10 rfl ?_
  refine ev_cV1 eX4_give_11 ⟨lX4_43, kX4_leave⟩ rfl rfl (c_leave hn (by omega)) ?_
  rintro _ _ ⟨rfl, rfl⟩
  have hB1 := lvS_B (n := n) (x := 20) hb hB
  have hn1 := lvS_n σ n 20
  refine ev_iload eX4_give_14 rfl ?_
  refine ev_iconst eX4_give_16 ?_
  refine ev_iadd eX4_give_17 ?_
  refine ev_istore eX4_give_18 (by decide) ?_
  refine ev_iload_n eX4_give_20 rfl ?_
  refine ev_tswI 167 eX4_give_21 (by omega) (by omega) rfl rfl ?_
  refine ev_iload_n eX4_give_167 rfl ?_
  refine ev_iret eX4_give_168 rfl ?_
  exact ⟨rfl, rfl⟩
set_option maxRecDepth 20000 in
theorem c_g21 {d : Nat} {σ : St} {b : Nat} {B : Bok} (hb : Bq b) (hB : BkC σ (b + 13) B) (hf : Wf B) {s n : Nat} (hs : s < 4) (hn : σ 11 1 = (n : Int))  (h16 : n + 2 ≤ 16) {dp : Nat} (hdp : dp ≤ 11) : Ct (d + 2) mX4_give [.ref 11, .ref b, vi s, vi 21, vi dp] σ (rt (vi ((s : Int) + (ws B s : Int))) (lvS (lvS σ n 21) (n + 1) 20)) := by
  refine ct_of hX4_give (Nat.le_of_ble_eq_true rfl) ?_
  refine ev_iload eX4_give_0 rfl ?_
  refine ev_bipush eX4_give_2 rfl ?_
  refine ev_icmp_le 9 eX4_give_4 rfl (by omega) (by omega) (fun h4 => ?_) (fun h4 => False.elim (by omega))
  refine ev_aload_n eX4_give_9 rfl ?_
  refine ev_iload_n eX4_give_10 rfl ?_
  refine ev_cV1 eX4_give_11 ⟨lX4_43, kX4_leave⟩ rfl rfl (c_leave hn (by omega)) ?_
  rintro _ _ ⟨rfl, rfl⟩
  have hB1 := lvS_B (n := n) (x := 21) hb hB
  have hn1 := lvS_n σ n 21
  refine ev_iload eX4_give_14 rfl ?_
  refine ev_iconst eX4_give_16 ?_
  refine ev_iadd eX4_give_17 ?_
  refine ev_istore eX4_give_18 (by decide) ?_
  refine ev_iload_n eX4_give_20 rfl ?_
  refine ev_tswI 169 eX4_give_21 (by omega) (by omega) rfl rfl ?_
  refine ev_aload_n eX4_give_169 rfl ?_
  refine ev_aload_n eX4_give_170 rfl ?_
  refine ev_iload_n eX4_give_171 rfl ?_
  refine ev_bipush eX4_give_172 rfl ?_
  refine ev_iload eX4_give_174 rfl ?_
  refine ev_cV4 eX4_give_176 ⟨lX4_27, kX4_give⟩ rfl rfl (c_g20 hb hB1 hf hs hn1 (by omega) (dp := dp + 1) (by omega)) ?_
  rintro _ _ ⟨rfl, rfl⟩
  have hB2 := lvS_B (n := n + 1) (x := 20) hb hB1
  refine ev_aload_n eX4_give_179 rfl ?_
  refine ev_iload_n eX4_give_180 rfl ?_
  refine ev_cV1 eX4_give_181 ⟨lX4_51, kX0_wordSize⟩ (ocB hb) rfl (c_wordSize hb hB2 hf.1 hs) ?_
  rintro _ _ ⟨rfl, rfl⟩
  refine ev_iadd eX4_give_184 ?_
  refine ev_iret eX4_give_185 rfl ?_
  exact ⟨rfl, rfl⟩
set_option maxRecDepth 20000 in
theorem c_g13 {d : Nat} {σ : St} {b : Nat} {B : Bok} (hb : Bq b) (hB : BkC σ (b + 13) B) (hf : Wf B) {s n : Nat} (hs : s < 4) (hn : σ 11 1 = (n : Int))  (h16 : n + 2 ≤ 16) {dp : Nat} (hdp : dp ≤ 11) : Ct (d + 2) mX4_give [.ref 11, .ref b, vi s, vi 13, vi dp] σ (rt (vi ((pt B s 0 : Int) - 100)) (lvS (lvS σ n 13) (n + 1) 10)) := by
  refine ct_of hX4_give (Nat.le_of_ble_eq_true rfl) ?_
  refine ev_iload eX4_give_0 rfl ?_
  refine ev_bipush eX4_give_2 rfl ?_
  refine ev_icmp_le 9 eX4_give_4 rfl (by omega) (by omega) (fun h4 => ?_) (fun h4 => False.elim (by omega))
  refine ev_aload_n eX4_give_9 rfl ?_
  refine ev_iload_n eX4_give_10 rfl ?_
  refine ev_cV1 eX4_give_11 ⟨lX4_43, kX4_leave⟩ rfl rfl (c_leave hn (by omega)) ?_
  rintro _ _ ⟨rfl, rfl⟩
  have hB1 := lvS_B (n := n) (x := 13) hb hB
  have hn1 := lvS_n σ n 13
  refine ev_iload eX4_give_14 rfl ?_
  refine ev_iconst eX4_give_16 ?_
  refine ev_iadd eX4_give_17 ?_
  refine ev_istore eX4_give_18 (by decide) ?_
  refine ev_iload_n eX4_give_20 rfl ?_
  refine ev_tswI 140 eX4_give_21 (by omega) (by omega) rfl rfl ?_
  refine ev_aload_n eX4_give_140 rfl ?_
  refine ev_aload_n eX4_give_141 rfl ?_
  refine ev_iload_n eX4_give_142 rfl ?_
  refine ev_bipush eX4_give_143 rfl ?_
  refine ev_iload eX4_give_145 rfl ?_
  refine ev_cV4 eX4_give_147 ⟨lX4_27, kX4_give⟩ rfl rfl (c_g10 hb hB1 hf hs hn1 (by omega) (dp := dp + 1) (by omega)) ?_
  rintro _ _ ⟨rfl, rfl⟩
  refine ev_bipush eX4_give_150 rfl ?_
  refine ev_isub eX4_give_152 ?_
  refine ev_iret eX4_give_153 rfl ?_
  exact ⟨rfl, rfl⟩
set_option maxRecDepth 20000 in
theorem c_g14 {d : Nat} {σ : St} {b : Nat} {B : Bok} (hb : Bq b) (hB : BkC σ (b + 13) B) (hf : Wf B) {s n : Nat} (hs : s < 4) (hn : σ 11 1 = (n : Int))  (h16 : n + 3 ≤ 16) {dp : Nat} (hdp : dp ≤ 10) : Ct (d + 3) mX4_give [.ref 11, .ref b, vi s, vi 14, vi dp] σ (rt (vi (2 * ((pt B s 0 : Int) - 100))) (lvS (lvS (lvS σ n 14) (n + 1) 13) (n + 1 + 1) 10)) := by
  refine ct_of hX4_give (Nat.le_of_ble_eq_true rfl) ?_
  refine ev_iload eX4_give_0 rfl ?_
  refine ev_bipush eX4_give_2 rfl ?_
  refine ev_icmp_le 9 eX4_give_4 rfl (by omega) (by omega) (fun h4 => ?_) (fun h4 => False.elim (by omega))
  refine ev_aload_n eX4_give_9 rfl ?_
  refine ev_iload_n eX4_give_10 rfl ?_
  refine ev_cV1 eX4_give_11 ⟨lX4_43, kX4_leave⟩ rfl rfl (c_leave hn (by omega)) ?_
  rintro _ _ ⟨rfl, rfl⟩
  have hB1 := lvS_B (n := n) (x := 14) hb hB
  have hn1 := lvS_n σ n 14
  refine ev_iload eX4_give_14 rfl ?_
  refine ev_iconst eX4_give_16 ?_
  refine ev_iadd eX4_give_17 ?_
  refine ev_istore eX4_give_18 (by decide) ?_
  refine ev_iload_n eX4_give_20 rfl ?_
  refine ev_tswI 154 eX4_give_21 (by omega) (by omega) rfl rfl ?_
  refine ev_iconst eX4_give_154 ?_
  refine ev_aload_n eX4_give_155 rfl ?_
  refine ev_aload_n eX4_give_156 rfl ?_
  refine ev_iload_n eX4_give_157 rfl ?_
  refine ev_bipush eX4_give_158 rfl ?_
  refine ev_iload eX4_give_160 rfl ?_
  refine ev_cV4 eX4_give_162 ⟨lX4_27, kX4_give⟩ rfl rfl (c_g13 hb hB1 hf hs hn1 (by omega) (dp := dp + 1) (by omega)) ?_
  rintro _ _ ⟨rfl, rfl⟩
  refine ev_imul eX4_give_165 ?_
  refine ev_iret eX4_give_166 rfl ?_
  exact ⟨rfl, rfl⟩
set_option maxRecDepth 20000 in
theorem c_g22 {d : Nat} {σ : St} {b : Nat} {B : Bok} (hb : Bq b) (hB : BkC σ (b + 13) B) (hf : Wf B) {s n : Nat} (hs : s < 4) (hn : σ 11 1 = (n : Int))  (h16 : n + 3 ≤ 16) {dp : Nat} (hdp : dp ≤ 10) : Ct (d + 3) mX4_give [.ref 11, .ref b, vi s, vi 22, vi dp] σ (rt (vi ((s : Int) + (ws B s : Int) - 1000)) (lvS (lvS (lvS σ n 22) (n + 1) 21) (n + 1 + 1) 20)) := by
  refine ct_of hX4_give (Nat.le_of_ble_eq_true rfl) ?_
  refine ev_iload eX4_give_0 rfl ?_
  refine ev_bipush eX4_give_2 rfl ?_
  refine ev_icmp_le 9 eX4_give_4 rfl (by omega) (by omega) (fun h4 => ?_) (fun h4 => False.elim (by omega))
  refine ev_aload_n eX4_give_9 rfl ?_
  refine ev_iload_n eX4_give_10 rfl ?_
  refine ev_cV1 eX4_give_11 ⟨lX4_43, kX4_leave⟩ rfl rfl (c_leave hn (by omega)) ?_
  rintro _ _ ⟨rfl, rfl⟩
  have hB1 := lvS_B (n := n) (x := 22) hb hB
  have hn1 := lvS_n σ n 22
  refine ev_iload eX4_give_14 rfl ?_
  refine ev_iconst eX4_give_16 ?_
  refine ev_iadd eX4_give_17 ?_
  refine ev_istore eX4_give_18 (by decide) ?_
  refine ev_iload_n eX4_give_20 rfl ?_
  refine ev_tswI 186 eX4_give_21 (by omega) (by omega) rfl rfl ?_
  refine ev_aload_n eX4_give_186 rfl ?_
  refine ev_aload_n eX4_give_187 rfl ?_
  refine ev_iload_n eX4_give_188 rfl ?_
  refine ev_bipush eX4_give_189 rfl ?_
  refine ev_iload eX4_give_191 rfl ?_
  refine ev_cV4 eX4_give_193 ⟨lX4_27, kX4_give⟩ rfl rfl (c_g21 hb hB1 hf hs hn1 (by omega) (dp := dp + 1) (by omega)) ?_
  rintro _ _ ⟨rfl, rfl⟩
  refine ev_sipush eX4_give_196 rfl ?_
  refine ev_isub eX4_give_199 ?_
  refine ev_iret eX4_give_200 rfl ?_
  exact ⟨rfl, rfl⟩
set_option maxRecDepth 20000 in
theorem c_g24 {d : Nat} {σ : St} {b : Nat} {B : Bok} (hb : Bq b) (hB : BkC σ (b + 13) B) (hf : Wf B) {s n : Nat} (hs : s < 4) (hn : σ 11 1 = (n : Int))  (h16 : n + 3 ≤ 16) {dp : Nat} (hdp : dp ≤ 10) : Ct (d + 3) mX4_give [.ref 11, .ref b, vi s, vi 24, vi dp] σ (rt (vi (2 * ((s : Int) + (ws B s : Int)))) (lvS (lvS (lvS σ n 24) (n + 1) 21) (n + 1 + 1) 20)) := by
  refine ct_of hX4_give (Nat.le_of_ble_eq_true rfl) ?_
  refine ev_iload eX4_give_0 rfl ?_
  refine ev_bipush eX4_give_2 rfl ?_
  refine ev_icmp_le 9 eX4_give_4 rfl (by omega) (by omega) (fun h4 => ?_) (fun h4 => False.elim (by omega))
  refine ev_aload_n eX4_give_9 rfl ?_
  refine ev_iload_n eX4_give_10 rfl ?_
  refine ev_cV1 eX4_give_11 ⟨lX4_43, kX4_leave⟩ rfl rfl (c_leave hn (by omega)) ?_
  rintro _ _ ⟨rfl, rfl⟩
  have hB1 := lvS_B (n := n) (x := 24) hb hB
  have hn1 := lvS_n σ n 24
  refine ev_iload eX4_give_14 rfl ?_
  refine ev_iconst eX4_give_16 ?_
  refine ev_iadd eX4_give_17 ?_
  refine ev_istore eX4_give_18 (by decide) ?_
  refine ev_iload_n eX4_give_20 rfl ?_
  refine ev_tswI 226 eX4_give_21 (by omega) (by omega) rfl rfl ?_
  refine ev_iconst eX4_give_226 ?_
  refine ev_aload_n eX4_give_227 rfl ?_
  refine ev_aload_n eX4_give_228 rfl ?_
  refine ev_iload_n eX4_give_229 rfl ?_
  refine ev_bipush eX4_give_230 rfl ?_
  refine ev_iload eX4_give_232 rfl ?_
  refine ev_cV4 eX4_give_234 ⟨lX4_27, kX4_give⟩ rfl rfl (c_g21 hb hB1 hf hs hn1 (by omega) (dp := dp + 1) (by omega)) ?_
  rintro _ _ ⟨rfl, rfl⟩
  refine ev_imul eX4_give_237 ?_
  refine ev_iret eX4_give_238 rfl ?_
  exact ⟨rfl, rfl⟩
set_option maxRecDepth 20000 in
theorem c_g11_1 {d : Nat} {σ : St} {b : Nat} {B : Bok} (hb : Bq b) (hB : BkC σ (b + 13) B) (hf : Wf B) {s n : Nat} (hs : s < 4) (hn : σ 11 1 = (n : Int)) (hk : bk B s = 1) (h16 : n + 4 ≤ 16) {dp : Nat} (hdp : dp ≤ 10) : Ct (d + 3) mX4_give [.ref 11, .ref b, vi s, vi 11, vi dp] σ (rt (vi ((pt B s 0 : Int) + ((s : Int) + (ws B s : Int)))) (lvS (lvS (lvS (lvS (σ) (n) 11) (n + 1) 10) (n + 1 + 1) 21) (n + 1 + 1 + 1) 20)) := by
  refine ct_of hX4_give (Nat.le_of_ble_eq_true rfl) ?_
  refine ev_iload eX4_give_0 rfl ?_
  refine ev_bipush eX4_give_2 rfl ?_
  refine ev_icmp_le 9 eX4_give_4 rfl (by omega) (by omega) (fun h4 => ?_) (fun h4 => False.elim (by omega))
  refine ev_aload_n eX4_give_9 rfl ?_
  refine ev_iload_n eX4_give_10 rfl ?_
  refine ev_cV1 eX4_give_11 ⟨lX4_43, kX4_leave⟩ rfl rfl (c_leave hn (by omega)) ?_
  rintro _ _ ⟨rfl, rfl⟩
  have hB1 := lvS_B (n := n) (x := 11) hb hB
  have hn1 := lvS_n σ n 11
  refine ev_iload eX4_give_14 rfl ?_
  refine ev_iconst eX4_give_16 ?_
  refine ev_iadd eX4_give_17 ?_
  refine ev_istore eX4_give_18 (by decide) ?_
  refine ev_iload_n eX4_give_20 rfl ?_
  refine ev_tswI 103 eX4_give_21 (by omega) (by omega) rfl rfl ?_
  refine ev_aload_n eX4_give_103 rfl ?_
  refine ev_aload_n eX4_give_104 rfl ?_
  refine ev_iload_n eX4_give_105 rfl ?_
  refine ev_bipush eX4_give_106 rfl ?_
  refine ev_iload eX4_give_108 rfl ?_
  refine ev_cV4 eX4_give_110 ⟨lX4_27, kX4_give⟩ rfl rfl (c_g10 hb hB1 hf hs hn1 (by omega) (dp := dp + 1) (by omega)) ?_
  rintro _ _ ⟨rfl, rfl⟩
  have hB2 := lvS_B (n := n + 1) (x := 10) hb hB1
  have hn2 := lvS_n (lvS σ n 11) (n + 1) 10
  refine ev_aload_n eX4_give_113 rfl ?_
  refine ev_aload_n eX4_give_114 rfl ?_
  refine ev_iload_n eX4_give_115 rfl ?_
  refine ev_aload_n eX4_give_116 rfl ?_
  refine ev_iload_n eX4_give_117 rfl ?_
  refine ev_cS2 eX4_give_118 ⟨lX4_24, kX4_markBody⟩ rfl (c_markBody hb hB2 hf hs) ?_
  rintro _ _ ⟨rfl, rfl⟩
  rw [hk]
  refine ev_iload eX4_give_121 rfl ?_
  refine ev_cV4 eX4_give_123 ⟨lX4_27, kX4_give⟩ rfl rfl (c_g21 hb hB2 hf hs hn2 (by omega) (dp := dp + 1) (by omega)) ?_
  rintro _ _ ⟨rfl, rfl⟩
  refine ev_iadd eX4_give_126 ?_
  refine ev_iret eX4_give_127 rfl ?_
  exact ⟨rfl, rfl⟩
set_option maxRecDepth 20000 in
theorem c_g11_2 {d : Nat} {σ : St} {b : Nat} {B : Bok} (hb : Bq b) (hB : BkC σ (b + 13) B) (hf : Wf B) {s n : Nat} (hs : s < 4) (hn : σ 11 1 = (n : Int)) (hk : bk B s = 2) (h16 : n + 5 ≤ 16) {dp : Nat} (hdp : dp ≤ 9) : Ct (d + 4) mX4_give [.ref 11, .ref b, vi s, vi 11, vi dp] σ (rt (vi ((pt B s 0 : Int) + 2 * ((s : Int) + (ws B s : Int)))) (lvS (lvS (lvS (lvS (lvS (σ) (n) 11) (n + 1) 10) (n + 1 + 1) 24) (n + 1 + 1 + 1) 21) (n + 1 + 1 + 1 + 1) 20)) := by
  refine ct_of hX4_give (Nat.le_of_ble_eq_true rfl) ?_
  refine ev_iload eX4_give_0 rfl ?_
  refine ev_bipush eX4_give_2 rfl ?_
  refine ev_icmp_le 9 eX4_give_4 rfl (by omega) (by omega) (fun h4 => ?_) (fun h4 => False.elim (by omega))
  refine ev_aload_n eX4_give_9 rfl ?_
  refine ev_iload_n eX4_give_10 rfl ?_
  refine ev_cV1 eX4_give_11 ⟨lX4_43, kX4_leave⟩ rfl rfl (c_leave hn (by omega)) ?_
  rintro _ _ ⟨rfl, rfl⟩
  have hB1 := lvS_B (n := n) (x := 11) hb hB
  have hn1 := lvS_n σ n 11
  refine ev_iload eX4_give_14 rfl ?_
  refine ev_iconst eX4_give_16 ?_
  refine ev_iadd eX4_give_17 ?_
  refine ev_istore eX4_give_18 (by decide) ?_
  refine ev_iload_n eX4_give_20 rfl ?_
  refine ev_tswI 103 eX4_give_21 (by omega) (by omega) rfl rfl ?_
  refine ev_aload_n eX4_give_103 rfl ?_
  refine ev_aload_n eX4_give_104 rfl ?_
  refine ev_iload_n eX4_give_105 rfl ?_
  refine ev_bipush eX4_give_106 rfl ?_
  refine ev_iload eX4_give_108 rfl ?_
  refine ev_cV4 eX4_give_110 ⟨lX4_27, kX4_give⟩ rfl rfl (c_g10 hb hB1 hf hs hn1 (by omega) (dp := dp + 1) (by omega)) ?_
  rintro _ _ ⟨rfl, rfl⟩
  have hB2 := lvS_B (n := n + 1) (x := 10) hb hB1
  have hn2 := lvS_n (lvS σ n 11) (n + 1) 10
  refine ev_aload_n eX4_give_113 rfl ?_
  refine ev_aload_n eX4_give_114 rfl ?_
  refine ev_iload_n eX4_give_115 rfl ?_
  refine ev_aload_n eX4_give_116 rfl ?_
  refine ev_iload_n eX4_give_117 rfl ?_
  refine ev_cS2 eX4_give_118 ⟨lX4_24, kX4_markBody⟩ rfl (c_markBody hb hB2 hf hs) ?_
  rintro _ _ ⟨rfl, rfl⟩
  rw [hk]
  refine ev_iload eX4_give_121 rfl ?_
  refine ev_cV4 eX4_give_123 ⟨lX4_27, kX4_give⟩ rfl rfl (c_g24 hb hB2 hf hs hn2 (by omega) (dp := dp + 1) (by omega)) ?_
  rintro _ _ ⟨rfl, rfl⟩
  refine ev_iadd eX4_give_126 ?_
  refine ev_iret eX4_give_127 rfl ?_
  exact ⟨rfl, rfl⟩
set_option maxRecDepth 20000 in
theorem c_g11_3 {d : Nat} {σ : St} {b : Nat} {B : Bok} (hb : Bq b) (hB : BkC σ (b + 13) B) (hf : Wf B) {s n : Nat} (hs : s < 4) (hn : σ 11 1 = (n : Int)) (hk : bk B s = 3) (h16 : n + 5 ≤ 16) {dp : Nat} (hdp : dp ≤ 9) : Ct (d + 4) mX4_give [.ref 11, .ref b, vi s, vi 11, vi dp] σ (rt (vi ((pt B s 0 : Int) + (((s : Int) + (ws B s : Int)) - 1000))) (lvS (lvS (lvS (lvS (lvS (σ) (n) 11) (n + 1) 10) (n + 1 + 1) 22) (n + 1 + 1 + 1) 21) (n + 1 + 1 + 1 + 1) 20)) := by
  refine ct_of hX4_give (Nat.le_of_ble_eq_true rfl) ?_
  refine ev_iload eX4_give_0 rfl ?_
  refine ev_bipush eX4_give_2 rfl ?_
  refine ev_icmp_le 9 eX4_give_4 rfl (by omega) (by omega) (fun h4 => ?_) (fun h4 => False.elim (by omega))
  refine ev_aload_n eX4_give_9 rfl ?_
  refine ev_iload_n eX4_give_10 rfl ?_
  refine ev_cV1 eX4_give_11 ⟨lX4_43, kX4_leave⟩ rfl rfl (c_leave hn (by omega)) ?_
  rintro _ _ ⟨rfl, rfl⟩
  have hB1 := lvS_B (n := n) (x := 11) hb hB
  have hn1 := lvS_n σ n 11
  refine ev_iload eX4_give_14 rfl ?_
  refine ev_iconst eX4_give_16 ?_
  refine ev_iadd eX4_give_17 ?_
  refine ev_istore eX4_give_18 (by decide) ?_
  refine ev_iload_n eX4_give_20 rfl ?_
  refine ev_tswI 103 eX4_give_21 (by omega) (by omega) rfl rfl ?_
  refine ev_aload_n eX4_give_103 rfl ?_
  refine ev_aload_n eX4_give_104 rfl ?_
  refine ev_iload_n eX4_give_105 rfl ?_
  refine ev_bipush eX4_give_106 rfl ?_
  refine ev_iload eX4_give_108 rfl ?_
  refine ev_cV4 eX4_give_110 ⟨lX4_27, kX4_give⟩ rfl rfl (c_g10 hb hB1 hf hs hn1 (by omega) (dp := dp + 1) (by omega)) ?_
  rintro _ _ ⟨rfl, rfl⟩
  have hB2 := lvS_B (n := n + 1) (x := 10) hb hB1
  have hn2 := lvS_n (lvS σ n 11) (n + 1) 10
  refine ev_aload_n eX4_give_113 rfl ?_
  refine ev_aload_n eX4_give_114 rfl ?_
  refine ev_iload_n eX4_give_115 rfl ?_
  refine ev_aload_n eX4_give_116 rfl ?_
  refine ev_iload_n eX4_give_117 rfl ?_
  refine ev_cS2 eX4_give_118 ⟨lX4_24, kX4_markBody⟩ rfl (c_markBody hb hB2 hf hs) ?_
  rintro _ _ ⟨rfl, rfl⟩
  rw [hk]
  refine ev_iload eX4_give_121 rfl ?_
  refine ev_cV4 eX4_give_123 ⟨lX4_27, kX4_give⟩ rfl rfl (c_g22 hb hB2 hf hs hn2 (by omega) (dp := dp + 1) (by omega)) ?_
  rintro _ _ ⟨rfl, rfl⟩
  refine ev_iadd eX4_give_126 ?_
  refine ev_iret eX4_give_127 rfl ?_
  exact ⟨rfl, rfl⟩
set_option maxRecDepth 20000 in
theorem c_g12 {d : Nat} {σ : St} {b : Nat} {B : Bok} (hb : Bq b) (hB : BkC σ (b + 13) B) (hf : Wf B) {s n : Nat} (hs : s < 4) (hn : σ 11 1 = (n : Int)) (hk : bk B s = 2) (h16 : n + 6 ≤ 16) {dp : Nat} (hdp : dp ≤ 8) : Ct (d + 5) mX4_give [.ref 11, .ref b, vi s, vi 12, vi dp] σ (rt (vi (-((pt B s 0 : Int) + 2 * ((s : Int) + (ws B s : Int))))) (lvS (lvS (lvS (lvS (lvS (lvS (σ) (n) 12) (n + 1) 11) (n + 1 + 1) 10) (n + 1 + 1 + 1) 24) (n + 1 + 1 + 1 + 1) 21) (n + 1 + 1 + 1 + 1 + 1) 20)) := by
  refine ct_of hX4_give (Nat.le_of_ble_eq_true rfl) ?_
  refine ev_iload eX4_give_0 rfl ?_
  refine ev_bipush eX4_give_2 rfl ?_
  refine ev_icmp_le 9 eX4_give_4 rfl (by omega) (by omega) (fun h4 => ?_) (fun h4 => False.elim (by omega))
  refine ev_aload_n eX4_give_9 rfl ?_
  refine ev_iload_n eX4_give_10 rfl ?_
  refine ev_cV1 eX4_give_11 ⟨lX4_43, kX4_leave⟩ rfl rfl (c_leave hn (by omega)) ?_
  rintro _ _ ⟨rfl, rfl⟩
  have hB1 := lvS_B (n := n) (x := 12) hb hB
  have hn1 := lvS_n σ n 12
  refine ev_iload eX4_give_14 rfl ?_
  refine ev_iconst eX4_give_16 ?_
  refine ev_iadd eX4_give_17 ?_
  refine ev_istore eX4_give_18 (by decide) ?_
  refine ev_iload_n eX4_give_20 rfl ?_
  refine ev_tswI 128 eX4_give_21 (by omega) (by omega) rfl rfl ?_
  refine ev_aload_n eX4_give_128 rfl ?_
  refine ev_aload_n eX4_give_129 rfl ?_
  refine ev_iload_n eX4_give_130 rfl ?_
  refine ev_bipush eX4_give_131 rfl ?_
  refine ev_iload eX4_give_133 rfl ?_
  refine ev_cV4 eX4_give_135 ⟨lX4_27, kX4_give⟩ rfl rfl (c_g11_2 hb hB1 hf hs hn1 hk (by omega) (dp := dp + 1) (by omega)) ?_
  rintro _ _ ⟨rfl, rfl⟩
  refine ev_ineg eX4_give_138 ?_
  refine ev_iret eX4_give_139 rfl ?_
  exact ⟨rfl, rfl⟩
set_option maxRecDepth 20000 in
theorem c_g23_4 {d : Nat} {σ : St} {b : Nat} {B : Bok} (hb : Bq b) (hB : BkC σ (b + 13) B) (hf : Wf B) {s n : Nat} (hs : s < 4) (hn : σ 11 1 = (n : Int)) (hk : bk B s = 4) (h16 : n + 4 ≤ 16) {dp : Nat} (hdp : dp ≤ 10) : Ct (d + 3) mX4_give [.ref 11, .ref b, vi s, vi 23, vi dp] σ (rt (vi ((s : Int) - ((pt B s 0 : Int) - 100))) (lvS (lvS (lvS (lvS (σ) (n) 23) (n + 1) 20) (n + 1 + 1) 13) (n + 1 + 1 + 1) 10)) := by
  refine ct_of hX4_give (Nat.le_of_ble_eq_true rfl) ?_
  refine ev_iload eX4_give_0 rfl ?_
  refine ev_bipush eX4_give_2 rfl ?_
  refine ev_icmp_le 9 eX4_give_4 rfl (by omega) (by omega) (fun h4 => ?_) (fun h4 => False.elim (by omega))
  refine ev_aload_n eX4_give_9 rfl ?_
  refine ev_iload_n eX4_give_10 rfl ?_
  refine ev_cV1 eX4_give_11 ⟨lX4_43, kX4_leave⟩ rfl rfl (c_leave hn (by omega)) ?_
  rintro _ _ ⟨rfl, rfl⟩
  have hB1 := lvS_B (n := n) (x := 23) hb hB
  have hn1 := lvS_n σ n 23
  refine ev_iload eX4_give_14 rfl ?_
  refine ev_iconst eX4_give_16 ?_
  refine ev_iadd eX4_give_17 ?_
  refine ev_istore eX4_give_18 (by decide) ?_
  refine ev_iload_n eX4_give_20 rfl ?_
  refine ev_tswI 201 eX4_give_21 (by omega) (by omega) rfl rfl ?_
  refine ev_aload_n eX4_give_201 rfl ?_
  refine ev_aload_n eX4_give_202 rfl ?_
  refine ev_iload_n eX4_give_203 rfl ?_
  refine ev_bipush eX4_give_204 rfl ?_
  refine ev_iload eX4_give_206 rfl ?_
  refine ev_cV4 eX4_give_208 ⟨lX4_27, kX4_give⟩ rfl rfl (c_g20 hb hB1 hf hs hn1 (by omega) (dp := dp + 1) (by omega)) ?_
  rintro _ _ ⟨rfl, rfl⟩
  have hB2 := lvS_B (n := n + 1) (x := 20) hb hB1
  have hn2 := lvS_n (lvS σ n 23) (n + 1) 20
  refine ev_aload_n eX4_give_211 rfl ?_
  refine ev_aload_n eX4_give_212 rfl ?_
  refine ev_iload_n eX4_give_213 rfl ?_
  refine ev_aload_n eX4_give_214 rfl ?_
  refine ev_iload_n eX4_give_215 rfl ?_
  refine ev_cS2 eX4_give_216 ⟨lX4_20, kX4_sizeBody⟩ rfl (c_sizeBody hb hB2 hf hs) ?_
  rintro _ _ ⟨rfl, rfl⟩
  rw [hk]
  refine ev_iload eX4_give_219 rfl ?_
  refine ev_cV4 eX4_give_221 ⟨lX4_27, kX4_give⟩ rfl rfl (c_g13 hb hB2 hf hs hn2 (by omega) (dp := dp + 1) (by omega)) ?_
  rintro _ _ ⟨rfl, rfl⟩
  refine ev_isub eX4_give_224 ?_
  refine ev_iret eX4_give_225 rfl ?_
  exact ⟨rfl, rfl⟩
set_option maxRecDepth 20000 in
theorem c_g23_5 {d : Nat} {σ : St} {b : Nat} {B : Bok} (hb : Bq b) (hB : BkC σ (b + 13) B) (hf : Wf B) {s n : Nat} (hs : s < 4) (hn : σ 11 1 = (n : Int)) (hk : bk B s = 5) (h16 : n + 5 ≤ 16) {dp : Nat} (hdp : dp ≤ 9) : Ct (d + 4) mX4_give [.ref 11, .ref b, vi s, vi 23, vi dp] σ (rt (vi ((s : Int) - 2 * ((pt B s 0 : Int) - 100))) (lvS (lvS (lvS (lvS (lvS (σ) (n) 23) (n + 1) 20) (n + 1 + 1) 14) (n + 1 + 1 + 1) 13) (n + 1 + 1 + 1 + 1) 10)) := by
  refine ct_of hX4_give (Nat.le_of_ble_eq_true rfl) ?_
  refine ev_iload eX4_give_0 rfl ?_
  refine ev_bipush eX4_give_2 rfl ?_
  refine ev_icmp_le 9 eX4_give_4 rfl (by omega) (by omega) (fun h4 => ?_) (fun h4 => False.elim (by omega))
  refine ev_aload_n eX4_give_9 rfl ?_
  refine ev_iload_n eX4_give_10 rfl ?_
  refine ev_cV1 eX4_give_11 ⟨lX4_43, kX4_leave⟩ rfl rfl (c_leave hn (by omega)) ?_
  rintro _ _ ⟨rfl, rfl⟩
  have hB1 := lvS_B (n := n) (x := 23) hb hB
  have hn1 := lvS_n σ n 23
  refine ev_iload eX4_give_14 rfl ?_
  refine ev_iconst eX4_give_16 ?_
  refine ev_iadd eX4_give_17 ?_
  refine ev_istore eX4_give_18 (by decide) ?_
  refine ev_iload_n eX4_give_20 rfl ?_
  refine ev_tswI 201 eX4_give_21 (by omega) (by omega) rfl rfl ?_
  refine ev_aload_n eX4_give_201 rfl ?_
  refine ev_aload_n eX4_give_202 rfl ?_
  refine ev_iload_n eX4_give_203 rfl ?_
  refine ev_bipush eX4_give_204 rfl ?_
  refine ev_iload eX4_give_206 rfl ?_
  refine ev_cV4 eX4_give_208 ⟨lX4_27, kX4_give⟩ rfl rfl (c_g20 hb hB1 hf hs hn1 (by omega) (dp := dp + 1) (by omega)) ?_
  rintro _ _ ⟨rfl, rfl⟩
  have hB2 := lvS_B (n := n + 1) (x := 20) hb hB1
  have hn2 := lvS_n (lvS σ n 23) (n + 1) 20
  refine ev_aload_n eX4_give_211 rfl ?_
  refine ev_aload_n eX4_give_212 rfl ?_
  refine ev_iload_n eX4_give_213 rfl ?_
  refine ev_aload_n eX4_give_214 rfl ?_
  refine ev_iload_n eX4_give_215 rfl ?_
  refine ev_cS2 eX4_give_216 ⟨lX4_20, kX4_sizeBody⟩ rfl (c_sizeBody hb hB2 hf hs) ?_
  rintro _ _ ⟨rfl, rfl⟩
  rw [hk]
  refine ev_iload eX4_give_219 rfl ?_
  refine ev_cV4 eX4_give_221 ⟨lX4_27, kX4_give⟩ rfl rfl (c_g14 hb hB2 hf hs hn2 (by omega) (dp := dp + 1) (by omega)) ?_
  rintro _ _ ⟨rfl, rfl⟩
  refine ev_isub eX4_give_224 ?_
  refine ev_iret eX4_give_225 rfl ?_
  exact ⟨rfl, rfl⟩
def lvL (σ : St) : Nat → List Int → St
  | _, [] => σ
  | n, x :: r => lvL (lvS σ n x) (n + 1) r
/-- what an ask answers, and the bodies that begin -/
def akV (k : Nat) (s P W : Int) (e : Nat) : Int := match k, e with
  | 1, 0 => P + (s + W)
  | 2, 0 => -(P + 2 * (s + W))
  | 3, 0 => P + (s + W - 1000)
  | 4, 0 => P - 100
  | 5, 0 => 2 * (P - 100)
  | 1, _ => s + W
  | 2, _ => 2 * (s + W)
  | 3, _ => s + W - 1000
  | 4, _ => s - (P - 100)
  | _, _ => s - 2 * (P - 100)
def akT (k e : Nat) : List Int := match k, e with
  | 1, 0 => [11, 10, 21, 20]
  | 2, 0 => [12, 11, 10, 24, 21, 20]
  | 3, 0 => [11, 10, 22, 21, 20]
  | 4, 0 => [13, 10]
  | 5, 0 => [14, 13, 10]
  | 1, _ => [21, 20]
  | 2, _ => [24, 21, 20]
  | 3, _ => [22, 21, 20]
  | 4, _ => [23, 20, 13, 10]
  | _, _ => [23, 20, 14, 13, 10]
set_option maxRecDepth 20000 in
theorem c_answer {d : Nat} {σ : St} {b : Nat} {B : Bok} (hb : Bq b) (hB : BkC σ (b + 13) B) (hf : Wf B) {s e : Nat} (hs : s < 4) (he : e < 2) (hk1 : 1 ≤ bk B s) : Ct (d + 7) mX4_answer [.ref 11, .ref b, vi s, vi e] σ (rt (vi (akV (bk B s) s (pt B s 0) (ws B s) e)) (lvL (up σ 11 1 0) 0 (akT (bk B s) e))) := by
  have hk5 := hf.2.2.2.2.1 s hs
  have hB1 : BkC (up σ 11 1 0) (b + 13) B := fun j hj => by rw [up_o _ _ _ (by have := hb; unfold Bq at this; omega)]; exact hB j hj
  have hn1 : up σ 11 1 0 11 1 = ((0 : Nat) : Int) := up_s _ _ _ _
  refine ct_of hX4_answer (Nat.le_of_ble_eq_true rfl) ?_
  rcases (show bk B s = 1 ∨ bk B s = 2 ∨ bk B s = 3 ∨ bk B s = 4 ∨ bk B s = 5 by omega) with hk | hk | hk | hk | hk
  · rcases (show e = 0 ∨ e = 1 by omega) with rfl | rfl
    · rw [hk]
      refine ev_aload_n eX4_answer_0 rfl ?_
      refine ev_iconst eX4_answer_1 ?_
      refine ev_puti eX4_answer_2 pX4_13 rfl ?_
      refine ev_aload_n eX4_answer_5 rfl ?_
      refine ev_aload_n eX4_answer_6 rfl ?_
      refine ev_iload_n eX4_answer_7 rfl ?_
      refine ev_iload_n eX4_answer_8 rfl ?_
      refine ev_if_ne 20 eX4_answer_9 rfl (by omega) (fun h9 => False.elim (by omega)) (fun h9 => ?_)
      refine ev_aload_n eX4_answer_12 rfl ?_
      refine ev_iload_n eX4_answer_13 rfl ?_
      refine ev_cS2 eX4_answer_14 ⟨lX4_20, kX4_sizeBody⟩ rfl (c_sizeBody hb hB1 hf hs) ?_
      rintro _ _ ⟨rfl, rfl⟩
      rw [hk]
      refine ev_goto 25 eX4_answer_17 rfl ?_
      refine ev_iconst eX4_answer_25 ?_
      refine ev_cV4 eX4_answer_26 ⟨lX4_27, kX4_give⟩ rfl rfl (c_g11_1 hb hB1 hf hs hn1 hk (by omega) (dp := 0) (by omega)) ?_
      rintro _ _ ⟨rfl, rfl⟩
      refine ev_iret eX4_answer_29 rfl ?_
      exact ⟨rfl, rfl⟩
    · rw [hk]
      refine ev_aload_n eX4_answer_0 rfl ?_
      refine ev_iconst eX4_answer_1 ?_
      refine ev_puti eX4_answer_2 pX4_13 rfl ?_
      refine ev_aload_n eX4_answer_5 rfl ?_
      refine ev_aload_n eX4_answer_6 rfl ?_
      refine ev_iload_n eX4_answer_7 rfl ?_
      refine ev_iload_n eX4_answer_8 rfl ?_
      refine ev_if_ne 20 eX4_answer_9 rfl (by omega) (fun h9 => ?_) (fun h9 => False.elim (by omega))
      refine ev_aload_n eX4_answer_20 rfl ?_
      refine ev_iload_n eX4_answer_21 rfl ?_
      refine ev_cS2 eX4_answer_22 ⟨lX4_24, kX4_markBody⟩ rfl (c_markBody hb hB1 hf hs) ?_
      rintro _ _ ⟨rfl, rfl⟩
      rw [hk]
      refine ev_iconst eX4_answer_25 ?_
      refine ev_cV4 eX4_answer_26 ⟨lX4_27, kX4_give⟩ rfl rfl (c_g21 hb hB1 hf hs hn1 (by omega) (dp := 0) (by omega)) ?_
      rintro _ _ ⟨rfl, rfl⟩
      refine ev_iret eX4_answer_29 rfl ?_
      exact ⟨rfl, rfl⟩
  · rcases (show e = 0 ∨ e = 1 by omega) with rfl | rfl
    · rw [hk]
      refine ev_aload_n eX4_answer_0 rfl ?_
      refine ev_iconst eX4_answer_1 ?_
      refine ev_puti eX4_answer_2 pX4_13 rfl ?_
      refine ev_aload_n eX4_answer_5 rfl ?_
      refine ev_aload_n eX4_answer_6 rfl ?_
      refine ev_iload_n eX4_answer_7 rfl ?_
      refine ev_iload_n eX4_answer_8 rfl ?_
      refine ev_if_ne 20 eX4_answer_9 rfl (by omega) (fun h9 => False.elim (by omega)) (fun h9 => ?_)
      refine ev_aload_n eX4_answer_12 rfl ?_
      refine ev_iload_n eX4_answer_13 rfl ?_
      refine ev_cS2 eX4_answer_14 ⟨lX4_20, kX4_sizeBody⟩ rfl (c_sizeBody hb hB1 hf hs) ?_
      rintro _ _ ⟨rfl, rfl⟩
      rw [hk]
      refine ev_goto 25 eX4_answer_17 rfl ?_
      refine ev_iconst eX4_answer_25 ?_
      refine ev_cV4 eX4_answer_26 ⟨lX4_27, kX4_give⟩ rfl rfl (c_g12 hb hB1 hf hs hn1 hk (by omega) (dp := 0) (by omega)) ?_
      rintro _ _ ⟨rfl, rfl⟩
      refine ev_iret eX4_answer_29 rfl ?_
      exact ⟨rfl, rfl⟩
    · rw [hk]
      refine ev_aload_n eX4_answer_0 rfl ?_
      refine ev_iconst eX4_answer_1 ?_
      refine ev_puti eX4_answer_2 pX4_13 rfl ?_
      refine ev_aload_n eX4_answer_5 rfl ?_
      refine ev_aload_n eX4_answer_6 rfl ?_
      refine ev_iload_n eX4_answer_7 rfl ?_
      refine ev_iload_n eX4_answer_8 rfl ?_
      refine ev_if_ne 20 eX4_answer_9 rfl (by omega) (fun h9 => ?_) (fun h9 => False.elim (by omega))
      refine ev_aload_n eX4_answer_20 rfl ?_
      refine ev_iload_n eX4_answer_21 rfl ?_
      refine ev_cS2 eX4_answer_22 ⟨lX4_24, kX4_markBody⟩ rfl (c_markBody hb hB1 hf hs) ?_
      rintro _ _ ⟨rfl, rfl⟩
      rw [hk]
      refine ev_iconst eX4_answer_25 ?_
      refine ev_cV4 eX4_answer_26 ⟨lX4_27, kX4_give⟩ rfl rfl (c_g24 hb hB1 hf hs hn1 (by omega) (dp := 0) (by omega)) ?_
      rintro _ _ ⟨rfl, rfl⟩
      refine ev_iret eX4_answer_29 rfl ?_
      exact ⟨rfl, rfl⟩
  · rcases (show e = 0 ∨ e = 1 by omega) with rfl | rfl
    · rw [hk]
      refine ev_aload_n eX4_answer_0 rfl ?_
      refine ev_iconst eX4_answer_1 ?_
      refine ev_puti eX4_answer_2 pX4_13 rfl ?_
      refine ev_aload_n eX4_answer_5 rfl ?_
      refine ev_aload_n eX4_answer_6 rfl ?_
      refine ev_iload_n eX4_answer_7 rfl ?_
      refine ev_iload_n eX4_answer_8 rfl ?_
      refine ev_if_ne 20 eX4_answer_9 rfl (by omega) (fun h9 => False.elim (by omega)) (fun h9 => ?_)
      refine ev_aload_n eX4_answer_12 rfl ?_
      refine ev_iload_n eX4_answer_13 rfl ?_
      refine ev_cS2 eX4_answer_14 ⟨lX4_20, kX4_sizeBody⟩ rfl (c_sizeBody hb hB1 hf hs) ?_
      rintro _ _ ⟨rfl, rfl⟩
      rw [hk]
      refine ev_goto 25 eX4_answer_17 rfl ?_
      refine ev_iconst eX4_answer_25 ?_
      refine ev_cV4 eX4_answer_26 ⟨lX4_27, kX4_give⟩ rfl rfl (c_g11_3 hb hB1 hf hs hn1 hk (by omega) (dp := 0) (by omega)) ?_
      rintro _ _ ⟨rfl, rfl⟩
      refine ev_iret eX4_answer_29 rfl ?_
      exact ⟨rfl, rfl⟩
    · rw [hk]
      refine ev_aload_n eX4_answer_0 rfl ?_
      refine ev_iconst eX4_answer_1 ?_
      refine ev_puti eX4_answer_2 pX4_13 rfl ?_
      refine ev_aload_n eX4_answer_5 rfl ?_
      refine ev_aload_n eX4_answer_6 rfl ?_
      refine ev_iload_n eX4_answer_7 rfl ?_
      refine ev_iload_n eX4_answer_8 rfl ?_
      refine ev_if_ne 20 eX4_answer_9 rfl (by omega) (fun h9 => ?_) (fun h9 => False.elim (by omega))
      refine ev_aload_n eX4_answer_20 rfl ?_
      refine ev_iload_n eX4_answer_21 rfl ?_
      refine ev_cS2 eX4_answer_22 ⟨lX4_24, kX4_markBody⟩ rfl (c_markBody hb hB1 hf hs) ?_
      rintro _ _ ⟨rfl, rfl⟩
      rw [hk]
      refine ev_iconst eX4_answer_25 ?_
      refine ev_cV4 eX4_answer_26 ⟨lX4_27, kX4_give⟩ rfl rfl (c_g22 hb hB1 hf hs hn1 (by omega) (dp := 0) (by omega)) ?_
      rintro _ _ ⟨rfl, rfl⟩
      refine ev_iret eX4_answer_29 rfl ?_
      exact ⟨rfl, rfl⟩
  · rcases (show e = 0 ∨ e = 1 by omega) with rfl | rfl
    · rw [hk]
      refine ev_aload_n eX4_answer_0 rfl ?_
      refine ev_iconst eX4_answer_1 ?_
      refine ev_puti eX4_answer_2 pX4_13 rfl ?_
      refine ev_aload_n eX4_answer_5 rfl ?_
      refine ev_aload_n eX4_answer_6 rfl ?_
      refine ev_iload_n eX4_answer_7 rfl ?_
      refine ev_iload_n eX4_answer_8 rfl ?_
      refine ev_if_ne 20 eX4_answer_9 rfl (by omega) (fun h9 => False.elim (by omega)) (fun h9 => ?_)
      refine ev_aload_n eX4_answer_12 rfl ?_
      refine ev_iload_n eX4_answer_13 rfl ?_
      refine ev_cS2 eX4_answer_14 ⟨lX4_20, kX4_sizeBody⟩ rfl (c_sizeBody hb hB1 hf hs) ?_
      rintro _ _ ⟨rfl, rfl⟩
      rw [hk]
      refine ev_goto 25 eX4_answer_17 rfl ?_
      refine ev_iconst eX4_answer_25 ?_
      refine ev_cV4 eX4_answer_26 ⟨lX4_27, kX4_give⟩ rfl rfl (c_g13 hb hB1 hf hs hn1 (by omega) (dp := 0) (by omega)) ?_
      rintro _ _ ⟨rfl, rfl⟩
      refine ev_iret eX4_answer_29 rfl ?_
      exact ⟨rfl, rfl⟩
    · rw [hk]
      refine ev_aload_n eX4_answer_0 rfl ?_
      refine ev_iconst eX4_answer_1 ?_
      refine ev_puti eX4_answer_2 pX4_13 rfl ?_
      refine ev_aload_n eX4_answer_5 rfl ?_
      refine ev_aload_n eX4_answer_6 rfl ?_
      refine ev_iload_n eX4_answer_7 rfl ?_
      refine ev_iload_n eX4_answer_8 rfl ?_
      refine ev_if_ne 20 eX4_answer_9 rfl (by omega) (fun h9 => ?_) (fun h9 => False.elim (by omega))
      refine ev_aload_n eX4_answer_20 rfl ?_
      refine ev_iload_n eX4_answer_21 rfl ?_
      refine ev_cS2 eX4_answer_22 ⟨lX4_24, kX4_markBody⟩ rfl (c_markBody hb hB1 hf hs) ?_
      rintro _ _ ⟨rfl, rfl⟩
      rw [hk]
      refine ev_iconst eX4_answer_25 ?_
      refine ev_cV4 eX4_answer_26 ⟨lX4_27, kX4_give⟩ rfl rfl (c_g23_4 hb hB1 hf hs hn1 hk (by omega) (dp := 0) (by omega)) ?_
      rintro _ _ ⟨rfl, rfl⟩
      refine ev_iret eX4_answer_29 rfl ?_
      exact ⟨rfl, rfl⟩
  · rcases (show e = 0 ∨ e = 1 by omega) with rfl | rfl
    · rw [hk]
      refine ev_aload_n eX4_answer_0 rfl ?_
      refine ev_iconst eX4_answer_1 ?_
      refine ev_puti eX4_answer_2 pX4_13 rfl ?_
      refine ev_aload_n eX4_answer_5 rfl ?_
      refine ev_aload_n eX4_answer_6 rfl ?_
      refine ev_iload_n eX4_answer_7 rfl ?_
      refine ev_iload_n eX4_answer_8 rfl ?_
      refine ev_if_ne 20 eX4_answer_9 rfl (by omega) (fun h9 => False.elim (by omega)) (fun h9 => ?_)
      refine ev_aload_n eX4_answer_12 rfl ?_
      refine ev_iload_n eX4_answer_13 rfl ?_
      refine ev_cS2 eX4_answer_14 ⟨lX4_20, kX4_sizeBody⟩ rfl (c_sizeBody hb hB1 hf hs) ?_
      rintro _ _ ⟨rfl, rfl⟩
      rw [hk]
      refine ev_goto 25 eX4_answer_17 rfl ?_
      refine ev_iconst eX4_answer_25 ?_
      refine ev_cV4 eX4_answer_26 ⟨lX4_27, kX4_give⟩ rfl rfl (c_g14 hb hB1 hf hs hn1 (by omega) (dp := 0) (by omega)) ?_
      rintro _ _ ⟨rfl, rfl⟩
      refine ev_iret eX4_answer_29 rfl ?_
      exact ⟨rfl, rfl⟩
    · rw [hk]
      refine ev_aload_n eX4_answer_0 rfl ?_
      refine ev_iconst eX4_answer_1 ?_
      refine ev_puti eX4_answer_2 pX4_13 rfl ?_
      refine ev_aload_n eX4_answer_5 rfl ?_
      refine ev_aload_n eX4_answer_6 rfl ?_
      refine ev_iload_n eX4_answer_7 rfl ?_
      refine ev_iload_n eX4_answer_8 rfl ?_
      refine ev_if_ne 20 eX4_answer_9 rfl (by omega) (fun h9 => ?_) (fun h9 => False.elim (by omega))
      refine ev_aload_n eX4_answer_20 rfl ?_
      refine ev_iload_n eX4_answer_21 rfl ?_
      refine ev_cS2 eX4_answer_22 ⟨lX4_24, kX4_markBody⟩ rfl (c_markBody hb hB1 hf hs) ?_
      rintro _ _ ⟨rfl, rfl⟩
      rw [hk]
      refine ev_iconst eX4_answer_25 ?_
      refine ev_cV4 eX4_answer_26 ⟨lX4_27, kX4_give⟩ rfl rfl (c_g23_5 hb hB1 hf hs hn1 hk (by omega) (dp := 0) (by omega)) ?_
      rintro _ _ ⟨rfl, rfl⟩
      refine ev_iret eX4_answer_29 rfl ?_
      exact ⟨rfl, rfl⟩
