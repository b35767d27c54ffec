/-! InflatedRows: what is told, done, asked (small calls) -/
def TpC (σ : St) (tp : Nat → Nat) (n : Nat) : Prop := σ 2 1 = (n : Int) ∧ n ≤ 120 ∧ ∀ i, i < n → tp i ≤ 255 ∧ σ 15 i = (tp i : Int)
/-- a book that is there, or none -/
def OkZ (B : Bok) : Prop := Ok B ∨ ∀ j, j < 44 → B j = 0
theorem OkZ.ok {B : Bok} (h : OkZ B) (h2 : 0 < B 2) : Ok B := h.elim id (fun q => by have := q 2 (by omega); omega)
theorem OkZ.wf {B : Bok} (h : OkZ B) : Wf B := by
  rcases h with h | h
  · exact h.1
  · refine ⟨fun j hj => by rw [h j hj]; omega, by rw [h 2 (by omega)]; omega, by rw [h 3 (by omega)]; omega, fun s hs => ?_, fun s hs => ?_, fun s v hs hv => ?_, by rw [h 0 (by omega)]; omega, by rw [h 1 (by omega)]; omega, fun s i hs hi => ?_, fun i hi => ?_⟩
    · unfold ws; rw [h _ (by omega)]; omega
    · unfold bk; rw [h _ (by omega)]; omega
    · unfold pt; rw [h _ (by omega)]; omega
    · unfold wd; rw [h _ (by omega)]; omega
    · unfold rw_; rw [h _ (by omega)]; omega
set_option maxRecDepth 20000 in
theorem c_tsize {d : Nat} {σ : St} {n : Nat} (hn : σ 2 1 = (n : Int)) : Ct (d) mX10_size [.ref 2] σ (rt (vi n) σ) := by
  refine ct_of hX10_size (Nat.le_of_ble_eq_true rfl) ?_
  refine ev_aload_n eX10_size_0 rfl ?_
  refine ev_getiv eX10_size_1 fX10_13 rfl hn ?_
  refine ev_iret eX10_size_4 rfl ?_
  exact ⟨rfl, rfl⟩
set_option maxRecDepth 20000 in
theorem c_tadd {d : Nat} {σ : St} {n : Nat} {x : Int} (hn : σ 2 1 = (n : Int)) (h1 : n < 120) : Ct (d) mX10_add [.ref 2, vi x] σ (rv (up (up σ 15 n x) 2 1 ((n : Int) + 1))) := by
  refine ct_of hX10_add (Nat.le_of_ble_eq_true rfl) ?_
  refine ev_aload_n eX10_add_0 rfl ?_
  refine ev_getiv eX10_add_1 fX10_13 rfl hn ?_
  refine ev_bipush eX10_add_4 rfl ?_
  refine ev_icmp_lt 10 eX10_add_6 rfl (by omega) (by omega) (fun h6 => ?_) (fun h6 => False.elim (by omega))
  refine ev_aload_n eX10_add_10 rfl ?_
  refine ev_getr eX10_add_11 fX10_9 rfl ?_
  refine ev_aload_n eX10_add_14 rfl ?_
  refine ev_getiv eX10_add_15 fX10_13 rfl hn ?_
  refine ev_iload_n eX10_add_18 rfl ?_
  refine ev_iast (n) eX10_add_19 rfl (by first | rfl | omega) (by omega) ?_
  refine ev_aload_n eX10_add_20 rfl ?_
  refine ev_dup eX10_add_21 rfl ?_
  refine ev_getiv eX10_add_22 fX10_13 rfl (show _ = (n : Int) by rw [up_o _ _ _ (by decide)]; exact hn) ?_
  refine ev_iconst eX10_add_25 ?_
  refine ev_iadd eX10_add_26 ?_
  refine ev_puti eX10_add_27 pX10_13 rfl ?_
  refine ev_ret eX10_add_30 rfl ?_
  exact ⟨rfl, rfl⟩
set_option maxRecDepth 20000 in
theorem o_feed {d : Nat} {σ : St} {n : Nat} (hn : σ 2 1 = (n : Int)) (hn1 : n ≤ 120) {x : Int} (hx : -2147483648 ≤ x ∧ x ≤ 2147483647) : Ct (d + 1) mX11_feed [.ref 0, vi x] σ (fun r τ => (¬ (0 ≤ x ∧ x ≤ 255) → some (vi (-1000001)) = r ∧ σ = τ) ∧ ((0 ≤ x ∧ x ≤ 255) ∧ 120 ≤ n → some (vi (-1000003)) = r ∧ σ = τ) ∧ ((0 ≤ x ∧ x ≤ 255) ∧ n < 120 → some (vi ((n : Int) + 1)) = r ∧ up (up σ 15 n x) 2 1 ((n : Int) + 1) = τ)) := by
  refine ct_of hX11_feed (Nat.le_of_ble_eq_true rfl) ?_
  refine ev_iload_n eX11_feed_0 rfl ?_
  refine ev_if_lt 11 eX11_feed_1 rfl (by omega) (fun h1 => ?_) (fun h1 => ?_)
  · skip
    refine ev_ldc eX11_feed_11 qX11_89 ?_
    refine ev_iret eX11_feed_13 rfl ?_
    refine ⟨fun hc => ?_, fun hc => ?_, fun hc => ?_⟩ <;> first | (exfalso; omega) | (exact ⟨rfl, rfl⟩)
  · skip
    refine ev_iload_n eX11_feed_4 rfl ?_
    refine ev_sipush eX11_feed_5 rfl ?_
    refine ev_icmp_le 14 eX11_feed_8 rfl (by omega) (by omega) (fun h8 => ?_) (fun h8 => ?_)
    · skip
      refine ev_aload_n eX11_feed_14 rfl ?_
      refine ev_getr eX11_feed_15 fX11_19 rfl ?_
      refine ev_cV0 eX11_feed_18 ⟨lX11_126, kX10_size⟩ rfl rfl (c_tsize hn) ?_
      rintro _ _ ⟨rfl, rfl⟩
      refine ev_bipush eX11_feed_21 rfl ?_
      refine ev_icmp_lt 29 eX11_feed_23 rfl (by omega) (by omega) (fun h23 => ?_) (fun h23 => ?_)
      · skip
        refine ev_aload_n eX11_feed_29 rfl ?_
        refine ev_getr eX11_feed_30 fX11_19 rfl ?_
        refine ev_iload_n eX11_feed_33 rfl ?_
        refine ev_cV1 eX11_feed_34 ⟨lX11_131, kX10_add⟩ rfl rfl (c_tadd hn (by omega)) ?_
        rintro _ _ ⟨rfl, rfl⟩
        refine ev_aload_n eX11_feed_37 rfl ?_
        refine ev_getr eX11_feed_38 fX11_19 rfl ?_
        refine ev_cV0 eX11_feed_41 ⟨lX11_126, kX10_size⟩ rfl rfl (c_tsize (n := n + 1) (by rw [up_s]; rfl)) ?_
        rintro _ _ ⟨rfl, rfl⟩
        refine ev_iret eX11_feed_44 rfl ?_
        refine ⟨fun hc => ?_, fun hc => ?_, fun hc => ?_⟩ <;> first | (exfalso; omega) | (exact ⟨rfl, rfl⟩)
      · skip
        refine ev_ldc eX11_feed_26 qX11_130 ?_
        refine ev_iret eX11_feed_28 rfl ?_
        refine ⟨fun hc => ?_, fun hc => ?_, fun hc => ?_⟩ <;> first | (exfalso; omega) | (exact ⟨rfl, rfl⟩)
    · skip
      refine ev_ldc eX11_feed_11 qX11_89 ?_
      refine ev_iret eX11_feed_13 rfl ?_
      refine ⟨fun hc => ?_, fun hc => ?_, fun hc => ?_⟩ <;> first | (exfalso; omega) | (exact ⟨rfl, rfl⟩)
set_option maxRecDepth 20000 in
theorem o_fault {d : Nat} {σ : St}  : Ct (d) mX11_fault [.ref 0] σ (rt (vi (σ 0 11)) σ) := by
  refine ct_of hX11_fault (Nat.le_of_ble_eq_true rfl) ?_
  refine ev_aload_n eX11_fault_0 rfl ?_
  refine ev_geti eX11_fault_1 fX11_78 rfl ?_
  refine ev_iret eX11_fault_4 rfl ?_
  exact ⟨rfl, rfl⟩
set_option maxRecDepth 20000 in
theorem o_status {d : Nat} {σ : St}  : Ct (d) mX11_status [.ref 0] σ (rt (vi (σ 0 12)) σ) := by
  refine ct_of hX11_status (Nat.le_of_ble_eq_true rfl) ?_
  refine ev_aload_n eX11_status_0 rfl ?_
  refine ev_geti eX11_status_1 fX11_82 rfl ?_
  refine ev_iret eX11_status_4 rfl ?_
  exact ⟨rfl, rfl⟩
set_option maxRecDepth 20000 in
theorem o_undo {d : Nat} {σ : St} {od na : Nat} (ho : σ 6 2 = (od : Int)) (hod : od < 24) (ha : σ 6 3 = (na : Int)) (hna : na ≤ 24)  : Ct (d + 3) mX11_undo [.ref 0] σ (fun r τ => (na = 0 → some (vi (-1000002)) = r ∧ σ = τ) ∧ (1 ≤ na → some (vi ((na - 1 : Nat) : Int)) = r ∧ τ 6 2 = (od : Int) ∧ τ 6 3 = ((na - 1 : Nat) : Int) ∧ τ 6 4 = σ 6 4 ∧ τ 16 = cpF (σ 19) (σ 16) ((od + (na - 1)) % 24 * 44) 0 44 ∧ ∀ k, k ≠ 6 → k ≠ 16 → τ k = σ k)) := by
  refine ct_of hX11_undo (Nat.le_of_ble_eq_true rfl) ?_
  refine ev_aload_n eX11_undo_0 rfl ?_
  refine ev_getr eX11_undo_1 fX11_39 rfl ?_
  refine ev_cV0 eX11_undo_4 ⟨lX11_155, kX6_actCount⟩ rfl rfl c_actCount ?_
  rintro _ _ ⟨rfl, rfl⟩
  rw [ha]
  refine ev_if_ne 13 eX11_undo_7 rfl (by omega) (fun h7 => ?_) (fun h7 => ?_)
  · skip
    refine ev_aload_n eX11_undo_13 rfl ?_
    refine ev_getr eX11_undo_14 fX11_39 rfl ?_
    refine ev_aload_n eX11_undo_17 rfl ?_
    refine ev_getr eX11_undo_18 fX11_26 rfl ?_
    refine ev_cV1 eX11_undo_21 ⟨lX11_159, kX6_takeBack⟩ rfl rfl (c_takeBack Bq3 ho hod ha hna (by omega)) ?_
    rintro _ τ ⟨rfl, g1, g2, g3, g4, g5⟩
    refine ev_aload_n eX11_undo_24 rfl ?_
    refine ev_getr eX11_undo_25 fX11_39 rfl ?_
    refine ev_cV0 eX11_undo_28 ⟨lX11_155, kX6_actCount⟩ rfl rfl c_actCount ?_
    rintro _ _ ⟨rfl, rfl⟩
    rw [g2]
    refine ev_iret eX11_undo_31 rfl ?_
    refine ⟨fun hc => ?_, fun hc => ?_⟩ <;> first | (exfalso; omega) | (exact ⟨rfl, g1, g2, g3, g4, g5⟩)
  · skip
    refine ev_ldc eX11_undo_10 qX11_158 ?_
    refine ev_iret eX11_undo_12 rfl ?_
    refine ⟨fun hc => ?_, fun hc => ?_⟩ <;> first | (exfalso; omega) | (exact ⟨rfl, rfl⟩)
set_option maxRecDepth 20000 in
theorem o_trace {d : Nat} {σ : St} {n : Nat} (hn : σ 11 1 = (n : Int)) (h16 : n ≤ 16) {x : Int} (hx : -2147483648 ≤ x ∧ x ≤ 2147483647) : Ct (d + 1) mX11_trace [.ref 0, vi x] σ (fun r τ => (¬ (0 ≤ x ∧ x < n) → some (vi (-1000000)) = r ∧ σ = τ) ∧ (0 ≤ x ∧ x < n → some (vi (σ 44 x.toNat)) = r ∧ σ = τ)) := by
  refine ct_of hX11_trace (Nat.le_of_ble_eq_true rfl) ?_
  refine ev_iload_n eX11_trace_0 rfl ?_
  refine ev_if_lt 26 eX11_trace_1 rfl (by omega) (fun h1 => ?_) (fun h1 => ?_)
  · skip
    refine ev_ldc eX11_trace_26 qX11_244 ?_
    refine ev_iret eX11_trace_28 rfl ?_
    refine ⟨fun hc => ?_, fun hc => ?_⟩ <;> first | (exfalso; omega) | (exact ⟨rfl, rfl⟩)
  · skip
    refine ev_iload_n eX11_trace_4 rfl ?_
    refine ev_aload_n eX11_trace_5 rfl ?_
    refine ev_getr eX11_trace_6 fX11_74 rfl ?_
    refine ev_cV0 eX11_trace_9 ⟨lX11_366, kX4_bodyCount⟩ rfl rfl (c_bodyCount hn) ?_
    rintro _ _ ⟨rfl, rfl⟩
    refine ev_icmp_ge 26 eX11_trace_12 rfl (by omega) (by omega) (fun h12 => ?_) (fun h12 => ?_)
    · skip
      refine ev_ldc eX11_trace_26 qX11_244 ?_
      refine ev_iret eX11_trace_28 rfl ?_
      refine ⟨fun hc => ?_, fun hc => ?_⟩ <;> first | (exfalso; omega) | (exact ⟨rfl, rfl⟩)
    · skip
      refine ev_aload_n eX11_trace_15 rfl ?_
      refine ev_getr eX11_trace_16 fX11_74 rfl ?_
      refine ev_iload_n eX11_trace_19 rfl ?_
      obtain ⟨q, rfl⟩ : ∃ q : Nat, x = q := ⟨x.toNat, by omega⟩
      refine ev_cV1 eX11_trace_20 ⟨lX11_369, kX4_body⟩ rfl rfl (c_body (i := q) (by omega)) ?_
      rintro _ _ ⟨rfl, rfl⟩
      refine ev_goto 28 eX11_trace_23 rfl ?_
      refine ev_iret eX11_trace_28 rfl ?_
      refine ⟨fun hc => ?_, fun hc => ?_⟩ <;> first | (exfalso; omega) | (exact ⟨rfl, rfl⟩)
set_option maxRecDepth 20000 in
theorem o_kind {d : Nat} {σ : St} {B : Bok} (hB : BkC σ 16 B) (hZ : OkZ B) {x : Int} (hx : -2147483648 ≤ x ∧ x ≤ 2147483647) : Ct (d + 1) mX11_kind [.ref 0, vi x] σ (fun r τ => (¬ (0 ≤ x ∧ x < B 2) → some (vi (-1000001)) = r ∧ σ = τ) ∧ (0 ≤ x ∧ x < B 2 → some (vi (bk B x.toNat)) = r ∧ σ = τ)) := by
  refine ct_of hX11_kind (Nat.le_of_ble_eq_true rfl) ?_
  have hf := hZ.wf
  have h7 := hf.2.1
  refine ev_aload_n eX11_kind_0 rfl ?_
  refine ev_getr eX11_kind_1 fX11_26 rfl ?_
  refine ev_iload_n eX11_kind_4 rfl ?_
  refine ev_cV1 eX11_kind_5 ⟨lX11_162, kX0_hasSort⟩ rfl rfl (c_hasSort Bq3 hB hf.1 (x := x) (by omega)) ?_
  rintro _ _ ⟨rfl, rfl⟩
  refine ev_ifb_eq 22 eX11_kind_8 rfl (fun h8 => ?_) (fun h8 => ?_)
  · skip
    refine ev_ldc eX11_kind_22 qX11_89 ?_
    refine ev_iret eX11_kind_24 rfl ?_
    refine ⟨fun hc => ?_, fun hc => ?_⟩ <;> first | (exfalso; omega) | (exact ⟨rfl, rfl⟩)
  · skip
    refine ev_aload_n eX11_kind_11 rfl ?_
    refine ev_getr eX11_kind_12 fX11_26 rfl ?_
    refine ev_iload_n eX11_kind_15 rfl ?_
    obtain ⟨s, rfl⟩ : ∃ q : Nat, x = q := ⟨x.toNat, by omega⟩
    have hO := hZ.ok (by omega)
    refine ev_cV1 eX11_kind_16 ⟨lX11_191, kX0_kindOf⟩ rfl rfl (c_kindOf Bq3 hB hf.1 (s := s) (by omega)) ?_
    rintro _ _ ⟨rfl, rfl⟩
    refine ev_goto 24 eX11_kind_19 rfl ?_
    refine ev_iret eX11_kind_24 rfl ?_
    refine ⟨fun hc => ?_, fun hc => ?_⟩ <;> first | (exfalso; omega) | (exact ⟨rfl, rfl⟩)
set_option maxRecDepth 20000 in
theorem o_as {d : Nat} {σ : St} {B : Bok} (hB : BkC σ 16 B) (hZ : OkZ B) {x k : Int} (hx : -2147483648 ≤ x ∧ x ≤ 2147483647) (hk : -2147483648 ≤ k ∧ k ≤ 2147483647) : Ct (d + 1) mX11_as [.ref 0, vi x, vi k] σ (fun r τ => (¬ ((0 ≤ x ∧ x < B 2) ∧ 0 ≤ k ∧ k ≤ 5) → some (vi (-1000001)) = r ∧ σ = τ) ∧ ((0 ≤ x ∧ x < B 2) ∧ 0 ≤ k ∧ k ≤ 5 → (isK (bk B x.toNat) k.toNat → some (vi x) = r ∧ up σ 0 12 0 = τ) ∧ (¬ isK (bk B x.toNat) k.toNat → some (vi (-1000010 - 3)) = r ∧ up σ 0 12 3 = τ))) := by
  refine ct_of hX11_as (Nat.le_of_ble_eq_true rfl) ?_
  have hf := hZ.wf
  have h7 := hf.2.1
  refine ev_aload_n eX11_as_0 rfl ?_
  refine ev_getr eX11_as_1 fX11_26 rfl ?_
  refine ev_iload_n eX11_as_4 rfl ?_
  refine ev_cV1 eX11_as_5 ⟨lX11_162, kX0_hasSort⟩ rfl rfl (c_hasSort Bq3 hB hf.1 (x := x) (by omega)) ?_
  rintro _ _ ⟨rfl, rfl⟩
  refine ev_ifb_eq 20 eX11_as_8 rfl (fun h8 => ?_) (fun h8 => ?_)
  · skip
    refine ev_ldc eX11_as_20 qX11_89 ?_
    refine ev_iret eX11_as_22 rfl ?_
    refine ⟨fun hc => ?_, fun hc => ?_⟩ <;> first | (exfalso; omega) | (exact ⟨rfl, rfl⟩)
  · skip
    refine ev_iload_n eX11_as_11 rfl ?_
    refine ev_if_lt 20 eX11_as_12 rfl (by omega) (fun h12 => ?_) (fun h12 => ?_)
    · skip
      refine ev_ldc eX11_as_20 qX11_89 ?_
      refine ev_iret eX11_as_22 rfl ?_
      refine ⟨fun hc => ?_, fun hc => ?_⟩ <;> first | (exfalso; omega) | (exact ⟨rfl, rfl⟩)
    · skip
      refine ev_iload_n eX11_as_15 rfl ?_
      refine ev_iconst eX11_as_16 ?_
      refine ev_icmp_le 23 eX11_as_17 rfl (by omega) (by omega) (fun h17 => ?_) (fun h17 => ?_)
      · skip
        refine ev_aload_n eX11_as_23 rfl ?_
        refine ev_getr eX11_as_24 fX11_26 rfl ?_
        refine ev_iload_n eX11_as_27 rfl ?_
        obtain ⟨s, rfl⟩ : ∃ q : Nat, x = q := ⟨x.toNat, by omega⟩
        have hO := hZ.ok (by omega)
        obtain ⟨q, rfl⟩ : ∃ q : Nat, k = q := ⟨k.toNat, by omega⟩
        rw [Int.toNat_natCast, Int.toNat_natCast]
        refine ev_cV1 eX11_as_28 ⟨lX11_191, kX0_kindOf⟩ rfl rfl (c_kindOf Bq3 hB hf.1 (s := s) (by omega)) ?_
        rintro _ _ ⟨rfl, rfl⟩
        refine ev_iload_n eX11_as_31 rfl ?_
        refine ev_cS2 eX11_as_32 ⟨lX11_359, kX4_isA⟩ rfl (c_isA (k := bk B s) (v := q) (hf.2.2.2.2.1 s (by omega)) (by omega)) ?_
        rintro _ _ ⟨rfl, rfl⟩
        refine ev_ifb_eq 46 eX11_as_35 rfl (fun h35 => ?_) (fun h35 => ?_)
        · skip
          refine ev_aload_n eX11_as_46 rfl ?_
          refine ev_iconst eX11_as_47 ?_
          refine ev_cV1 eX11_as_48 ⟨lX11_90, kX11_found⟩ rfl rfl c_found ?_
          rintro _ _ ⟨rfl, rfl⟩
          refine ev_iret eX11_as_51 rfl ?_
          refine ⟨fun hc => ?_, fun hc => ⟨fun z => absurd z h35, fun z => ⟨rfl, rfl⟩⟩⟩
          exfalso; omega
        · skip
          refine ev_aload_n eX11_as_38 rfl ?_
          refine ev_iload_n eX11_as_39 rfl ?_
          refine ev_cV1 eX11_as_40 ⟨lX11_98, kX11_unfound⟩ rfl rfl c_unfound ?_
          rintro _ _ ⟨rfl, rfl⟩
          refine ev_goto 51 eX11_as_43 rfl ?_
          refine ev_iret eX11_as_51 rfl ?_
          refine ⟨fun hc => ?_, fun hc => ⟨fun z => ⟨rfl, rfl⟩, fun z => absurd h35 z⟩⟩
          exfalso; omega
      · skip
        refine ev_ldc eX11_as_20 qX11_89 ?_
        refine ev_iret eX11_as_22 rfl ?_
        refine ⟨fun hc => ?_, fun hc => ?_⟩ <;> first | (exfalso; omega) | (exact ⟨rfl, rfl⟩)
set_option maxRecDepth 20000 in
theorem o_ask {d : Nat} {σ : St} {B : Bok} (hB : BkC σ 16 B) (hZ : OkZ B) {x k : Int} (hx : -2147483648 ≤ x ∧ x ≤ 2147483647) (hk : -2147483648 ≤ k ∧ k ≤ 2147483647) : Ct (d + 8) mX11_ask [.ref 0, vi x, vi k] σ (fun r τ => (¬ ((0 ≤ x ∧ x < B 2) ∧ 0 ≤ k ∧ k ≤ 1) → some (vi (-1000001)) = r ∧ σ = τ) ∧ ((0 ≤ x ∧ x < B 2) ∧ 0 ≤ k ∧ k ≤ 1 → some (vi (akV (bk B x.toNat) x (pt B x.toNat 0) (ws B x.toNat) k.toNat)) = r ∧ lvL (up σ 11 1 0) 0 (akT (bk B x.toNat) k.toNat) = τ)) := by
  refine ct_of hX11_ask (Nat.le_of_ble_eq_true rfl) ?_
  have hf := hZ.wf
  have h7 := hf.2.1
  refine ev_aload_n eX11_ask_0 rfl ?_
  refine ev_getr eX11_ask_1 fX11_26 rfl ?_
  refine ev_iload_n eX11_ask_4 rfl ?_
  refine ev_cV1 eX11_ask_5 ⟨lX11_162, kX0_hasSort⟩ rfl rfl (c_hasSort Bq3 hB hf.1 (x := x) (by omega)) ?_
  rintro _ _ ⟨rfl, rfl⟩
  refine ev_ifb_eq 20 eX11_ask_8 rfl (fun h8 => ?_) (fun h8 => ?_)
  · skip
    refine ev_ldc eX11_ask_20 qX11_89 ?_
    refine ev_iret eX11_ask_22 rfl ?_
    refine ⟨fun hc => ?_, fun hc => ?_⟩ <;> first | (exfalso; omega) | (exact ⟨rfl, rfl⟩)
  · skip
    refine ev_iload_n eX11_ask_11 rfl ?_
    refine ev_if_lt 20 eX11_ask_12 rfl (by omega) (fun h12 => ?_) (fun h12 => ?_)
    · skip
      refine ev_ldc eX11_ask_20 qX11_89 ?_
      refine ev_iret eX11_ask_22 rfl ?_
      refine ⟨fun hc => ?_, fun hc => ?_⟩ <;> first | (exfalso; omega) | (exact ⟨rfl, rfl⟩)
    · skip
      refine ev_iload_n eX11_ask_15 rfl ?_
      refine ev_iconst eX11_ask_16 ?_
      refine ev_icmp_le 23 eX11_ask_17 rfl (by omega) (by omega) (fun h17 => ?_) (fun h17 => ?_)
      · skip
        refine ev_aload_n eX11_ask_23 rfl ?_
        refine ev_getr eX11_ask_24 fX11_74 rfl ?_
        refine ev_aload_n eX11_ask_27 rfl ?_
        refine ev_getr eX11_ask_28 fX11_26 rfl ?_
        refine ev_iload_n eX11_ask_31 rfl ?_
        refine ev_iload_n eX11_ask_32 rfl ?_
        obtain ⟨s, rfl⟩ : ∃ q : Nat, x = q := ⟨x.toNat, by omega⟩
        have hO := hZ.ok (by omega)
        obtain ⟨q, rfl⟩ : ∃ q : Nat, k = q := ⟨k.toNat, by omega⟩
        rw [Int.toNat_natCast, Int.toNat_natCast]
        refine ev_cV3 eX11_ask_33 ⟨lX11_362, kX4_answer⟩ rfl rfl (c_answer Bq3 hB hf (s := s) (e := q) (by omega) (by omega) (hO.2.2.2.2 s (by omega)).1) ?_
        rintro _ _ ⟨rfl, rfl⟩
        refine ev_iret eX11_ask_36 rfl ?_
        refine ⟨fun hc => ?_, fun hc => ?_⟩ <;> first | (exfalso; omega) | (exact ⟨rfl, rfl⟩)
      · skip
        refine ev_ldc eX11_ask_20 qX11_89 ?_
        refine ev_iret eX11_ask_22 rfl ?_
        refine ⟨fun hc => ?_, fun hc => ?_⟩ <;> first | (exfalso; omega) | (exact ⟨rfl, rfl⟩)
set_option maxRecDepth 20000 in
theorem o_letter {d : Nat} {σ : St} {B : Bok} (hB : BkC σ 16 B) (hZ : OkZ B) {x : Int} (hx : -2147483648 ≤ x ∧ x ≤ 2147483647) : Ct (d + 1) mX11_letter [.ref 0, vi x] σ (fun r τ => (B 2 = 0 → some (vi (-1000002)) = r ∧ σ = τ) ∧ (0 < B 2 ∧ x < 0 → some (vi (-1000001)) = r ∧ σ = τ) ∧ (0 < B 2 ∧ 0 ≤ x ∧ B 3 ≤ x → some (vi (-1000000)) = r ∧ σ = τ) ∧ (0 < B 2 ∧ 0 ≤ x ∧ x < B 3 → some (vi (rw_ B x.toNat)) = r ∧ σ = τ)) := by
  refine ct_of hX11_letter (Nat.le_of_ble_eq_true rfl) ?_
  have hf := hZ.wf
  have h7 := hf.2.1
  have h8 := hf.2.2.1
  refine ev_aload_n eX11_letter_0 rfl ?_
  refine ev_getr eX11_letter_1 fX11_26 rfl ?_
  refine ev_cV0 eX11_letter_4 ⟨lX11_197, kX0_stands⟩ rfl rfl (c_stands Bq3 hB hf.1) ?_
  rintro _ _ ⟨rfl, rfl⟩
  refine ev_ifb_ne 13 eX11_letter_7 rfl (fun h7 => ?_) (fun h7 => ?_)
  · skip
    refine ev_iload_n eX11_letter_13 rfl ?_
    refine ev_if_ge 20 eX11_letter_14 rfl (by omega) (fun h14 => ?_) (fun h14 => ?_)
    · skip
      refine ev_iload_n eX11_letter_20 rfl ?_
      refine ev_aload_n eX11_letter_21 rfl ?_
      refine ev_getr eX11_letter_22 fX11_26 rfl ?_
      refine ev_cV0 eX11_letter_25 ⟨lX11_213, kX0_rowSize⟩ rfl rfl (c_rowSize Bq3 hB hf.1) ?_
      rintro _ _ ⟨rfl, rfl⟩
      refine ev_icmp_ge 42 eX11_letter_28 rfl (by omega) (by omega) (fun h28 => ?_) (fun h28 => ?_)
      · skip
        refine ev_ldc eX11_letter_42 qX11_244 ?_
        refine ev_iret eX11_letter_44 rfl ?_
        refine ⟨fun hc => ?_, fun hc => ?_, fun hc => ?_, fun hc => ?_⟩ <;> first | (exfalso; omega) | (exact ⟨rfl, rfl⟩)
      · skip
        refine ev_aload_n eX11_letter_31 rfl ?_
        refine ev_getr eX11_letter_32 fX11_26 rfl ?_
        refine ev_iload_n eX11_letter_35 rfl ?_
        obtain ⟨q, rfl⟩ : ∃ q : Nat, x = q := ⟨x.toNat, by omega⟩
        refine ev_cV1 eX11_letter_36 ⟨lX11_241, kX0_rowLetter⟩ rfl rfl (c_rowLetter Bq3 hB hf.1 (i := q) (by omega)) ?_
        rintro _ _ ⟨rfl, rfl⟩
        refine ev_goto 44 eX11_letter_39 rfl ?_
        refine ev_iret eX11_letter_44 rfl ?_
        refine ⟨fun hc => ?_, fun hc => ?_, fun hc => ?_, fun hc => ?_⟩ <;> first | (exfalso; omega) | (exact ⟨rfl, rfl⟩)
    · skip
      refine ev_ldc eX11_letter_17 qX11_89 ?_
      refine ev_iret eX11_letter_19 rfl ?_
      refine ⟨fun hc => ?_, fun hc => ?_, fun hc => ?_, fun hc => ?_⟩ <;> first | (exfalso; omega) | (exact ⟨rfl, rfl⟩)
  · skip
    refine ev_ldc eX11_letter_10 qX11_158 ?_
    refine ev_iret eX11_letter_12 rfl ?_
    refine ⟨fun hc => ?_, fun hc => ?_, fun hc => ?_, fun hc => ?_⟩ <;> first | (exfalso; omega) | (exact ⟨rfl, rfl⟩)
def srt (B : Bok) (s : Nat) (e : Int) : Int :=
  if e = 0 ∨ e = 1 then (pt B s e.toNat : Int) else if e = 2 then (ws B s : Int) else if e = 3 then (im B s : Int)
  else if 10 ≤ e ∧ e ≤ 13 then (if e - 10 < ws B s then (wd B s (e - 10).toNat : Int) else -1000000)
  else if 20 ≤ e ∧ e ≤ 23 then (if e - 20 < im B s then (il B s (e - 20).toNat : Int) else -1000000) else -1000001
set_option maxRecDepth 20000 in
theorem c_wlon {d : Nat} {σ : St} {B : Bok} (hB : BkC σ 16 B) (hZ : OkZ B) {s i : Nat} (hs : s < 4) (hi : i < 4) : Ct (d + 1) mX11_wordLetterOrNone [.ref 0, vi s, vi i] σ (rt (vi (if (i : Int) < ws B s then (wd B s i : Int) else -1000000)) σ) := by
  refine ct_of hX11_wordLetterOrNone (Nat.le_of_ble_eq_true rfl) ?_
  have hf := hZ.wf
  have h7 := hf.2.1
  refine ev_iload_n eX11_wordLetterOrNone_0 rfl ?_
  refine ev_aload_n eX11_wordLetterOrNone_1 rfl ?_
  refine ev_getr eX11_wordLetterOrNone_2 fX11_26 rfl ?_
  refine ev_iload_n eX11_wordLetterOrNone_5 rfl ?_
  refine ev_cV1 eX11_wordLetterOrNone_6 ⟨lX11_169, kX0_wordSize⟩ rfl rfl (c_wordSize Bq3 hB hf.1 hs) ?_
  rintro _ _ ⟨rfl, rfl⟩
  have h4 := hf.2.2.2.1 s hs
  refine ev_icmp_ge 24 eX11_wordLetterOrNone_9 rfl (by omega) (by omega) (fun h9 => ?_) (fun h9 => ?_)
  · skip
    refine ev_ldc eX11_wordLetterOrNone_24 qX11_244 ?_
    refine ev_iret eX11_wordLetterOrNone_26 rfl ?_
    exact ⟨congrArg (fun q => some (vi q)) (by repeat (first | rw [if_pos (by omega)] | rw [if_neg (by omega)])), rfl⟩
  · skip
    refine ev_aload_n eX11_wordLetterOrNone_12 rfl ?_
    refine ev_getr eX11_wordLetterOrNone_13 fX11_26 rfl ?_
    refine ev_iload_n eX11_wordLetterOrNone_16 rfl ?_
    refine ev_iload_n eX11_wordLetterOrNone_17 rfl ?_
    refine ev_cV2 eX11_wordLetterOrNone_18 ⟨lX11_379, kX0_wordLetter⟩ rfl rfl (c_wordLetter Bq3 hB hf.1 hs hi) ?_
    rintro _ _ ⟨rfl, rfl⟩
    refine ev_goto 26 eX11_wordLetterOrNone_21 rfl ?_
    refine ev_iret eX11_wordLetterOrNone_26 rfl ?_
    exact ⟨congrArg (fun q => some (vi q)) (by repeat (first | rw [if_pos (by omega)] | rw [if_neg (by omega)])), rfl⟩
set_option maxRecDepth 20000 in
theorem c_ilon {d : Nat} {σ : St} {B : Bok} (hB : BkC σ 16 B) (hZ : OkZ B) {s i : Nat} (hs : s < 4) (hi : i < 4) : Ct (d + 2) mX11_imageLetterOrNone [.ref 0, vi s, vi i] σ (rt (vi (if (i : Int) < im B s then (il B s i : Int) else -1000000)) σ) := by
  refine ct_of hX11_imageLetterOrNone (Nat.le_of_ble_eq_true rfl) ?_
  have hf := hZ.wf
  have h7 := hf.2.1
  refine ev_iload_n eX11_imageLetterOrNone_0 rfl ?_
  refine ev_aload_n eX11_imageLetterOrNone_1 rfl ?_
  refine ev_getr eX11_imageLetterOrNone_2 fX11_26 rfl ?_
  refine ev_iload_n eX11_imageLetterOrNone_5 rfl ?_
  refine ev_cV1 eX11_imageLetterOrNone_6 ⟨lX11_232, kX0_imageSize⟩ rfl rfl (c_imageSize Bq3 hB hf.1 hs) ?_
  rintro _ _ ⟨rfl, rfl⟩
  have h4 := im_le hf hs
  refine ev_icmp_ge 24 eX11_imageLetterOrNone_9 rfl (by omega) (by omega) (fun h9 => ?_) (fun h9 => ?_)
  · skip
    refine ev_ldc eX11_imageLetterOrNone_24 qX11_244 ?_
    refine ev_iret eX11_imageLetterOrNone_26 rfl ?_
    exact ⟨congrArg (fun q => some (vi q)) (by repeat (first | rw [if_pos (by omega)] | rw [if_neg (by omega)])), rfl⟩
  · skip
    refine ev_aload_n eX11_imageLetterOrNone_12 rfl ?_
    refine ev_getr eX11_imageLetterOrNone_13 fX11_26 rfl ?_
    refine ev_iload_n eX11_imageLetterOrNone_16 rfl ?_
    refine ev_iload_n eX11_imageLetterOrNone_17 rfl ?_
    refine ev_cV2 eX11_imageLetterOrNone_18 ⟨lX11_382, kX0_imageLetter⟩ rfl rfl (c_imageLetter Bq3 hB hf.1 hs (i := i) (by omega) (hf.2.2.2.1 s hs)) ?_
    rintro _ _ ⟨rfl, rfl⟩
    refine ev_goto 26 eX11_imageLetterOrNone_21 rfl ?_
    refine ev_iret eX11_imageLetterOrNone_26 rfl ?_
    exact ⟨congrArg (fun q => some (vi q)) (by repeat (first | rw [if_pos (by omega)] | rw [if_neg (by omega)])), rfl⟩
set_option maxRecDepth 20000 in
theorem o_sort {d : Nat} {σ : St} {B : Bok} (hB : BkC σ 16 B) (hZ : OkZ B) {x e : Int} (hx : -2147483648 ≤ x ∧ x ≤ 2147483647) (he : -2147483648 ≤ e ∧ e ≤ 2147483647) : Ct (d + 3) mX11_sort [.ref 0, vi x, vi e] σ (fun r τ => (¬ (0 ≤ x ∧ x < B 2) → some (vi (-1000001)) = r ∧ σ = τ) ∧ (0 ≤ x ∧ x < B 2 → some (vi (srt B x.toNat e)) = r ∧ σ = τ)) := by
  refine ct_of hX11_sort (Nat.le_of_ble_eq_true rfl) ?_
  have hf := hZ.wf
  have h7 := hf.2.1
  refine ev_aload_n eX11_sort_0 rfl ?_
  refine ev_getr eX11_sort_1 fX11_26 rfl ?_
  refine ev_iload_n eX11_sort_4 rfl ?_
  refine ev_cV1 eX11_sort_5 ⟨lX11_162, kX0_hasSort⟩ rfl rfl (c_hasSort Bq3 hB hf.1 (x := x) (by omega)) ?_
  rintro _ _ ⟨rfl, rfl⟩
  refine ev_ifb_ne 14 eX11_sort_8 rfl (fun h8 => ?_) (fun h8 => ?_)
  · skip
    obtain ⟨s, rfl⟩ : ∃ q : Nat, x = q := ⟨x.toNat, by omega⟩
    have hO := hZ.ok (by omega)
    rw [Int.toNat_natCast]
    refine ev_iload_n eX11_sort_14 rfl ?_
    refine ev_if_eq 23 eX11_sort_15 rfl (by omega) (fun h15 => ?_) (fun h15 => ?_)
    · skip
      refine ev_aload_n eX11_sort_23 rfl ?_
      refine ev_getr eX11_sort_24 fX11_26 rfl ?_
      refine ev_iload_n eX11_sort_27 rfl ?_
      refine ev_iload_n eX11_sort_28 rfl ?_
      obtain ⟨q, rfl⟩ : ∃ q : Nat, e = q := ⟨e.toNat, by omega⟩
      refine ev_cV2 eX11_sort_29 ⟨lX11_185, kX0_part⟩ rfl rfl (c_part Bq3 hB hf.1 (s := s) (w := q) (by omega) (by omega)) ?_
      rintro _ _ ⟨rfl, rfl⟩
      refine ev_iret eX11_sort_32 rfl ?_
      refine ⟨fun hc => ?_, fun hc => ?_⟩ <;> first | (exfalso; omega) | (exact ⟨congrArg (fun q => some (vi q)) (by unfold srt; rw [if_pos (by omega), Int.toNat_natCast]), rfl⟩)
    · skip
      refine ev_iload_n eX11_sort_18 rfl ?_
      refine ev_iconst eX11_sort_19 ?_
      refine ev_icmp_ne 33 eX11_sort_20 rfl (by omega) (by omega) (fun h20 => ?_) (fun h20 => ?_)
      · skip
        refine ev_iload_n eX11_sort_33 rfl ?_
        refine ev_iconst eX11_sort_34 ?_
        refine ev_icmp_ne 47 eX11_sort_35 rfl (by omega) (by omega) (fun h35 => ?_) (fun h35 => ?_)
        · skip
          refine ev_iload_n eX11_sort_47 rfl ?_
          refine ev_iconst eX11_sort_48 ?_
          refine ev_icmp_ne 61 eX11_sort_49 rfl (by omega) (by omega) (fun h49 => ?_) (fun h49 => ?_)
          · skip
            refine ev_iload_n eX11_sort_61 rfl ?_
            refine ev_bipush eX11_sort_62 rfl ?_
            refine ev_icmp_lt 83 eX11_sort_64 rfl (by omega) (by omega) (fun h64 => ?_) (fun h64 => ?_)
            · skip
              refine ev_iload_n eX11_sort_83 rfl ?_
              refine ev_bipush eX11_sort_84 rfl ?_
              refine ev_icmp_lt 105 eX11_sort_86 rfl (by omega) (by omega) (fun h86 => ?_) (fun h86 => ?_)
              · skip
                refine ev_ldc eX11_sort_105 qX11_89 ?_
                refine ev_iret eX11_sort_107 rfl ?_
                refine ⟨fun hc => ?_, fun hc => ?_⟩ <;> first | (exfalso; omega) | (exact ⟨congrArg (fun q => some (vi q)) (by unfold srt; repeat (first | rw [if_pos (by omega)] | rw [if_neg (by omega)])), rfl⟩)
              · skip
                refine ev_iload_n eX11_sort_89 rfl ?_
                refine ev_bipush eX11_sort_90 rfl ?_
                refine ev_icmp_ge 105 eX11_sort_92 rfl (by omega) (by omega) (fun h92 => ?_) (fun h92 => ?_)
                · skip
                  refine ev_ldc eX11_sort_105 qX11_89 ?_
                  refine ev_iret eX11_sort_107 rfl ?_
                  refine ⟨fun hc => ?_, fun hc => ?_⟩ <;> first | (exfalso; omega) | (exact ⟨congrArg (fun q => some (vi q)) (by unfold srt; repeat (first | rw [if_pos (by omega)] | rw [if_neg (by omega)])), rfl⟩)
                · skip
                  refine ev_aload_n eX11_sort_95 rfl ?_
                  refine ev_iload_n eX11_sort_96 rfl ?_
                  refine ev_iload_n eX11_sort_97 rfl ?_
                  refine ev_bipush eX11_sort_98 rfl ?_
                  refine ev_isub eX11_sort_100 ?_
                  obtain ⟨q, hq⟩ : ∃ q : Nat, e - 20 = q := ⟨(e - 20).toNat, by omega⟩
                  rw [hq]
                  refine ev_cV2 eX11_sort_101 ⟨lX11_238, kX11_imageLetterOrNone⟩ rfl rfl (c_ilon hB hZ (s := s) (i := q) (by omega) (by omega)) ?_
                  rintro _ _ ⟨rfl, rfl⟩
                  refine ev_iret eX11_sort_104 rfl ?_
                  refine ⟨fun hc => ?_, fun hc => ?_⟩ <;> first | (exfalso; omega) | (exact ⟨congrArg (fun q => some (vi q)) (by unfold srt; rw [if_neg (by omega), if_neg (by omega), if_neg (by omega), if_neg (by omega), if_pos (by omega), hq, Int.toNat_natCast]), rfl⟩)
            · skip
              refine ev_iload_n eX11_sort_67 rfl ?_
              refine ev_bipush eX11_sort_68 rfl ?_
              refine ev_icmp_ge 83 eX11_sort_70 rfl (by omega) (by omega) (fun h70 => ?_) (fun h70 => ?_)
              · skip
                refine ev_iload_n eX11_sort_83 rfl ?_
                refine ev_bipush eX11_sort_84 rfl ?_
                refine ev_icmp_lt 105 eX11_sort_86 rfl (by omega) (by omega) (fun h86 => ?_) (fun h86 => ?_)
                · skip
                  refine ev_ldc eX11_sort_105 qX11_89 ?_
                  refine ev_iret eX11_sort_107 rfl ?_
                  refine ⟨fun hc => ?_, fun hc => ?_⟩ <;> first | (exfalso; omega) | (exact ⟨congrArg (fun q => some (vi q)) (by unfold srt; repeat (first | rw [if_pos (by omega)] | rw [if_neg (by omega)])), rfl⟩)
                · skip
                  refine ev_iload_n eX11_sort_89 rfl ?_
                  refine ev_bipush eX11_sort_90 rfl ?_
                  refine ev_icmp_ge 105 eX11_sort_92 rfl (by omega) (by omega) (fun h92 => ?_) (fun h92 => ?_)
                  · skip
                    refine ev_ldc eX11_sort_105 qX11_89 ?_
                    refine ev_iret eX11_sort_107 rfl ?_
                    refine ⟨fun hc => ?_, fun hc => ?_⟩ <;> first | (exfalso; omega) | (exact ⟨congrArg (fun q => some (vi q)) (by unfold srt; repeat (first | rw [if_pos (by omega)] | rw [if_neg (by omega)])), rfl⟩)
                  · skip
                    refine ev_aload_n eX11_sort_95 rfl ?_
                    refine ev_iload_n eX11_sort_96 rfl ?_
                    refine ev_iload_n eX11_sort_97 rfl ?_
                    refine ev_bipush eX11_sort_98 rfl ?_
                    refine ev_isub eX11_sort_100 ?_
                    obtain ⟨q, hq⟩ : ∃ q : Nat, e - 20 = q := ⟨(e - 20).toNat, by omega⟩
                    rw [hq]
                    refine ev_cV2 eX11_sort_101 ⟨lX11_238, kX11_imageLetterOrNone⟩ rfl rfl (c_ilon hB hZ (s := s) (i := q) (by omega) (by omega)) ?_
                    rintro _ _ ⟨rfl, rfl⟩
                    refine ev_iret eX11_sort_104 rfl ?_
                    refine ⟨fun hc => ?_, fun hc => ?_⟩ <;> first | (exfalso; omega) | (exact ⟨congrArg (fun q => some (vi q)) (by unfold srt; rw [if_neg (by omega), if_neg (by omega), if_neg (by omega), if_neg (by omega), if_pos (by omega), hq, Int.toNat_natCast]), rfl⟩)
              · skip
                refine ev_aload_n eX11_sort_73 rfl ?_
                refine ev_iload_n eX11_sort_74 rfl ?_
                refine ev_iload_n eX11_sort_75 rfl ?_
                refine ev_bipush eX11_sort_76 rfl ?_
                refine ev_isub eX11_sort_78 ?_
                obtain ⟨q, hq⟩ : ∃ q : Nat, e - 10 = q := ⟨(e - 10).toNat, by omega⟩
                rw [hq]
                refine ev_cV2 eX11_sort_79 ⟨lX11_235, kX11_wordLetterOrNone⟩ rfl rfl (c_wlon hB hZ (s := s) (i := q) (by omega) (by omega)) ?_
                rintro _ _ ⟨rfl, rfl⟩
                refine ev_iret eX11_sort_82 rfl ?_
                refine ⟨fun hc => ?_, fun hc => ?_⟩ <;> first | (exfalso; omega) | (exact ⟨congrArg (fun q => some (vi q)) (by unfold srt; rw [if_neg (by omega), if_neg (by omega), if_neg (by omega), if_pos (by omega), hq, Int.toNat_natCast]), rfl⟩)
          · skip
            refine ev_aload_n eX11_sort_52 rfl ?_
            refine ev_getr eX11_sort_53 fX11_26 rfl ?_
            refine ev_iload_n eX11_sort_56 rfl ?_
            refine ev_cV1 eX11_sort_57 ⟨lX11_232, kX0_imageSize⟩ rfl rfl (c_imageSize Bq3 hB hf.1 (s := s) (by omega)) ?_
            rintro _ _ ⟨rfl, rfl⟩
            refine ev_iret eX11_sort_60 rfl ?_
            refine ⟨fun hc => ?_, fun hc => ?_⟩ <;> first | (exfalso; omega) | (exact ⟨congrArg (fun q => some (vi q)) (by unfold srt; repeat (first | rw [if_pos (by omega)] | rw [if_neg (by omega)])), rfl⟩)
        · skip
          refine ev_aload_n eX11_sort_38 rfl ?_
          refine ev_getr eX11_sort_39 fX11_26 rfl ?_
          refine ev_iload_n eX11_sort_42 rfl ?_
          refine ev_cV1 eX11_sort_43 ⟨lX11_169, kX0_wordSize⟩ rfl rfl (c_wordSize Bq3 hB hf.1 (s := s) (by omega)) ?_
          rintro _ _ ⟨rfl, rfl⟩
          refine ev_iret eX11_sort_46 rfl ?_
          refine ⟨fun hc => ?_, fun hc => ?_⟩ <;> first | (exfalso; omega) | (exact ⟨congrArg (fun q => some (vi q)) (by unfold srt; repeat (first | rw [if_pos (by omega)] | rw [if_neg (by omega)])), rfl⟩)
      · skip
        refine ev_aload_n eX11_sort_23 rfl ?_
        refine ev_getr eX11_sort_24 fX11_26 rfl ?_
        refine ev_iload_n eX11_sort_27 rfl ?_
        refine ev_iload_n eX11_sort_28 rfl ?_
        obtain ⟨q, rfl⟩ : ∃ q : Nat, e = q := ⟨e.toNat, by omega⟩
        refine ev_cV2 eX11_sort_29 ⟨lX11_185, kX0_part⟩ rfl rfl (c_part Bq3 hB hf.1 (s := s) (w := q) (by omega) (by omega)) ?_
        rintro _ _ ⟨rfl, rfl⟩
        refine ev_iret eX11_sort_32 rfl ?_
        refine ⟨fun hc => ?_, fun hc => ?_⟩ <;> first | (exfalso; omega) | (exact ⟨congrArg (fun q => some (vi q)) (by unfold srt; rw [if_pos (by omega), Int.toNat_natCast]), rfl⟩)
  · skip
    refine ev_ldc eX11_sort_11 qX11_89 ?_
    refine ev_iret eX11_sort_13 rfl ?_
    refine ⟨fun hc => ?_, fun hc => ?_⟩ <;> first | (exfalso; omega) | (exact ⟨rfl, rfl⟩)
