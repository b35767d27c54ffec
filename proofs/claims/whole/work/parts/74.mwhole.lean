/-! the reference: whole, drawn, quiet -/
theorem sclN_c (B : Bok) : (scl B = -1 ∧ sclN B = -1000000) ∨ (∃ k : Nat, k < 100 ∧ scl B = (k : Int) ∧ sclN B = (k : Int)) := by
  rcases lm_c (fun k => Sc B (k / 10) (k % 10)) 100 with ⟨s, h1, _, _, h4⟩ | ⟨_, h⟩
  · right
    have e : scl B = (s : Int) := h4
    exact ⟨s, h1, e, by unfold sclN; rw [e, if_neg (by omega)]⟩
  · left
    have e : scl B = -1 := h
    exact ⟨e, by unfold sclN; rw [e, if_pos rfl]⟩
theorem qt_w {B : Bok} (e : Int) (h0 : e < 0 ∨ 6 < e) : whl B e = -1000001 := by
  unfold whl
  repeat (rw [if_neg (by omega)])
set_option maxRecDepth 20000 in
theorem m_whole {d : Nat} {σ : St} {B : Bok} (hM : MBk σ 49 B) (hZ : OkZ B) {x : Int} (hx : -2147483648 ≤ x ∧ x ≤ 2147483647) : Ct (d + 4) mX12_whole [.ref 45, vi x] σ (fun r τ => (B 2 = 0 → some (vi (-1000002)) = r ∧ σ = τ) ∧ (0 < B 2 → some (vi (whl B x)) = r ∧ σ = τ)) := by
  refine ct_of hX12_whole (Nat.le_of_ble_eq_true rfl) ?_
  have hf := hZ.wf
  have h7 := hf.2.1
  have h8 := hf.2.2.1
  refine ev_aload_n eX12_whole_0 rfl ?_
  refine ev_cV0 eX12_whole_1 ⟨lX12_197, kX12_isThere⟩ rfl rfl (m_isThere hM hZ.wf) ?_
  rintro _ _ ⟨rfl, rfl⟩
  refine ev_ifb_ne 10 eX12_whole_4 rfl (fun h4 => ?_) (fun h4 => ?_)
  · skip
    refine ev_aload_n eX12_whole_10 rfl ?_
    have hO := hZ.ok (by omega)
    have hsc := sclN_c B
    have hscr : -1000000 ≤ sclN B ∧ sclN B ≤ 99 := by rcases hsc with ⟨_, h⟩ | ⟨k, h1, _, h3⟩ <;> omega
    have hpl := (LPi_lt hO (gF_i hO)).2
    rw [gF_pr hO] at hpl
    refine ev_cV0 eX12_whole_11 ⟨lX12_251, kX12_scale⟩ rfl rfl (m_scale hM hf) ?_
    rintro _ _ ⟨rfl, rfl⟩
    refine ev_istore_n eX12_whole_14 (by decide) ?_
    refine ev_iload_n eX12_whole_15 rfl ?_
    by_cases hsw : x < 0 ∨ 6 < x
    · refine ev_tswO 120 eX12_whole_16 (by omega) (by omega) rfl ?_
      refine ev_ldc eX12_whole_120 qX12_80 ?_
      refine ev_iret eX12_whole_122 rfl ?_
      exact ⟨fun hc => absurd hc (by omega), fun _ => ⟨congrArg (fun q => some (vi q)) (qt_w x (by omega)), rfl⟩⟩
    · rcases (show x = 0 ∨ x = 1 ∨ x = 2 ∨ x = 3 ∨ x = 4 ∨ x = 5 ∨ x = 6 by omega) with rfl | rfl | rfl | rfl | rfl | rfl | rfl
      · refine ev_tswI 60 eX12_whole_16 (by omega) (by omega) rfl rfl ?_
        refine ev_aload_n eX12_whole_60 rfl ?_
        refine ev_getr eX12_whole_61 fX12_19 rfl ?_
        refine ev_iconst eX12_whole_64 ?_
        refine ev_iload_n eX12_whole_65 rfl ?_
        refine ev_iadd eX12_whole_66 ?_
        refine ev_ialdv (1 + 0) eX12_whole_67 rfl (by first | rfl | omega) (by omega) (show σ 49 1 = (B (0 + 0) : Int) from hM.M) ?_
        refine ev_iret eX12_whole_68 rfl ?_
        refine ⟨fun hc => absurd hc (by omega), fun _ => ⟨congrArg (fun q => some (vi q)) ?_, rfl⟩⟩
        unfold whl
        rw [if_pos rfl]
      · refine ev_tswI 60 eX12_whole_16 (by omega) (by omega) rfl rfl ?_
        refine ev_aload_n eX12_whole_60 rfl ?_
        refine ev_getr eX12_whole_61 fX12_19 rfl ?_
        refine ev_iconst eX12_whole_64 ?_
        refine ev_iload_n eX12_whole_65 rfl ?_
        refine ev_iadd eX12_whole_66 ?_
        refine ev_ialdv (1 + 1) eX12_whole_67 rfl (by first | rfl | omega) (by omega) (show σ 49 2 = (B (0 + 1) : Int) from hM.K) ?_
        refine ev_iret eX12_whole_68 rfl ?_
        refine ⟨fun hc => absurd hc (by omega), fun _ => ⟨congrArg (fun q => some (vi q)) ?_, rfl⟩⟩
        unfold whl
        rw [if_neg (by omega), if_pos rfl]
      · refine ev_tswI 60 eX12_whole_16 (by omega) (by omega) rfl rfl ?_
        refine ev_aload_n eX12_whole_60 rfl ?_
        refine ev_getr eX12_whole_61 fX12_19 rfl ?_
        refine ev_iconst eX12_whole_64 ?_
        refine ev_iload_n eX12_whole_65 rfl ?_
        refine ev_iadd eX12_whole_66 ?_
        refine ev_ialdv (1 + 2) eX12_whole_67 rfl (by first | rfl | omega) (by omega) (show σ 49 3 = (B 3 : Int) from hM.N) ?_
        refine ev_iret eX12_whole_68 rfl ?_
        refine ⟨fun hc => absurd hc (by omega), fun _ => ⟨congrArg (fun q => some (vi q)) ?_, rfl⟩⟩
        unfold whl
        rw [if_neg (by omega), if_neg (by omega), if_pos rfl]
      · refine ev_tswI 69 eX12_whole_16 (by omega) (by omega) rfl rfl ?_
        refine ev_aload_n eX12_whole_69 rfl ?_
        refine ev_getr eX12_whole_70 fX12_19 rfl ?_
        refine ev_cS1 eX12_whole_73 ⟨lX12_255, kX12_pairsOf⟩ rfl (m_pairsOf (Or.inl rfl) hM hO) ?_
        rintro _ _ ⟨rfl, rfl⟩
        refine ev_iret eX12_whole_76 rfl ?_
        refine ⟨fun hc => absurd hc (by omega), fun _ => ⟨congrArg (fun q => some (vi q)) ?_, rfl⟩⟩
        unfold whl
        rw [if_neg (by omega), if_neg (by omega), if_neg (by omega), if_pos rfl]
      · refine ev_tswI 77 eX12_whole_16 (by omega) (by omega) rfl rfl ?_
        refine ev_aload_n eX12_whole_77 rfl ?_
        refine ev_getr eX12_whole_78 fX12_19 rfl ?_
        refine ev_cS1 eX12_whole_81 ⟨lX12_255, kX12_pairsOf⟩ rfl (m_pairsOf (Or.inl rfl) hM hO) ?_
        rintro _ _ ⟨rfl, rfl⟩
        refine ev_cS1 eX12_whole_84 ⟨lX12_259, kX12_sizeOf⟩ rfl (m_sizeOf hpl) ?_
        rintro _ _ ⟨rfl, rfl⟩
        refine ev_iret eX12_whole_87 rfl ?_
        refine ⟨fun hc => absurd hc (by omega), fun _ => ⟨congrArg (fun q => some (vi q)) ?_, rfl⟩⟩
        unfold whl
        rw [if_neg (by omega), if_neg (by omega), if_neg (by omega), if_neg (by omega), if_pos rfl]
      · refine ev_tswI 88 eX12_whole_16 (by omega) (by omega) rfl rfl ?_
        refine ev_iload_n eX12_whole_88 rfl ?_
        refine ev_ldc eX12_whole_89 qX12_124 ?_
        refine ev_icmp_ne 99 eX12_whole_91 rfl (by omega) (by omega) (fun h91 => ?_) (fun h91 => ?_)
        · skip
          refine ev_iload_n eX12_whole_99 rfl ?_
          refine ev_bipush eX12_whole_100 rfl ?_
          obtain ⟨k, k1, k2, k3⟩ := hsc.resolve_left (fun z => by omega)
          refine ev_idiv eX12_whole_102 (by omega) (by omega) ?_
          refine ev_iret eX12_whole_103 rfl ?_
          refine ⟨fun hc => absurd hc (by omega), fun _ => ⟨congrArg (fun q => some (vi q)) ?_, rfl⟩⟩
          unfold whl
          rw [if_neg (by omega), if_neg (by omega), if_neg (by omega), if_neg (by omega), if_neg (by omega), if_pos rfl]
          unfold scP
          rw [if_neg (by omega), if_pos rfl, k2, k3]
        · skip
          refine ev_ldc eX12_whole_94 qX12_124 ?_
          refine ev_goto 103 eX12_whole_96 rfl ?_
          refine ev_iret eX12_whole_103 rfl ?_
          refine ⟨fun hc => absurd hc (by omega), fun _ => ⟨congrArg (fun q => some (vi q)) ?_, rfl⟩⟩
          unfold whl
          rw [if_neg (by omega), if_neg (by omega), if_neg (by omega), if_neg (by omega), if_neg (by omega), if_pos rfl]
          unfold scP
          rw [if_pos (by rcases hsc with ⟨h, _⟩ | ⟨k, k1, k2, k3⟩ <;> omega)]
      · refine ev_tswI 104 eX12_whole_16 (by omega) (by omega) rfl rfl ?_
        refine ev_iload_n eX12_whole_104 rfl ?_
        refine ev_ldc eX12_whole_105 qX12_124 ?_
        refine ev_icmp_ne 115 eX12_whole_107 rfl (by omega) (by omega) (fun h107 => ?_) (fun h107 => ?_)
        · skip
          refine ev_iload_n eX12_whole_115 rfl ?_
          refine ev_bipush eX12_whole_116 rfl ?_
          obtain ⟨k, k1, k2, k3⟩ := hsc.resolve_left (fun z => by omega)
          refine ev_irem eX12_whole_118 (by omega) (by omega) ?_
          refine ev_iret eX12_whole_119 rfl ?_
          refine ⟨fun hc => absurd hc (by omega), fun _ => ⟨congrArg (fun q => some (vi q)) ?_, rfl⟩⟩
          unfold whl
          rw [if_neg (by omega), if_neg (by omega), if_neg (by omega), if_neg (by omega), if_neg (by omega), if_neg (by omega), if_pos rfl]
          unfold scP
          rw [if_neg (by omega), if_neg (by omega), k2, k3]
        · skip
          refine ev_ldc eX12_whole_110 qX12_124 ?_
          refine ev_goto 119 eX12_whole_112 rfl ?_
          refine ev_iret eX12_whole_119 rfl ?_
          refine ⟨fun hc => absurd hc (by omega), fun _ => ⟨congrArg (fun q => some (vi q)) ?_, rfl⟩⟩
          unfold whl
          rw [if_neg (by omega), if_neg (by omega), if_neg (by omega), if_neg (by omega), if_neg (by omega), if_neg (by omega), if_pos rfl]
          unfold scP
          rw [if_pos (by rcases hsc with ⟨h, _⟩ | ⟨k, k1, k2, k3⟩ <;> omega)]
  · skip
    refine ev_ldc eX12_whole_7 qX12_178 ?_
    refine ev_iret eX12_whole_9 rfl ?_
    refine ⟨fun hc => ?_, fun hc => ?_⟩ <;> first | (exfalso; omega) | (exact ⟨rfl, rfl⟩)
set_option maxRecDepth 20000 in
theorem m_dr_l {d : Nat} {σ : St} {v2 : Int} {n x0 e : Nat} {B0 : Bok} (he : e < 2) (hn : n ≤ 30) : ∀ (fu : Nat) {i x s a : Nat} {B : Bok} {u9 : Value} {τ : St}, n - i < fu → i ≤ n → MBk τ 51 B → Ok B → x < 2147483647 → s ≤ 16 * i → a < 65536 → dr (n - i) x B s a = dr n x0 B0 0 65535 → (∀ k, k ≠ 51 → τ k = σ k) → Ev (d + 3) mX12_drawn 66 [.ref 45, vi n, vi v2, vi e, vl x, .null, vi s, vi a, vi i, u9] [] τ (fun r τ => some (vi ((if e = 0 then (dr n x0 B0 0 65535).1 else (dr n x0 B0 0 65535).2 : Nat) : Int)) = r ∧ ∀ k, k ≠ 51 → τ k = σ k) := by
  intro fu
  induction fu with
  | zero => intros; omega
  | succ fu ih =>
    intro i x s a B u9 τ hm h1 h2 h3 h4 h5 h6 h7 h9
    have hfB := h3.1
    have hB2 := hfB.2.1
    have hB3 := hfB.2.2.1
    refine ev_iload eX12_drawn_66 rfl ?_
    refine ev_iload_n eX12_drawn_68 rfl ?_
    refine ev_icmp_ge 154 eX12_drawn_69 rfl (by omega) (by omega) (fun h69 => ?_) (fun h69 => ?_)
    · skip
      obtain rfl : i = n := by omega
      rw [Nat.sub_self] at h7
      rw [← h7]
      refine ev_iload_n eX12_drawn_154 rfl ?_
      refine ev_if_ne 163 eX12_drawn_155 rfl (by omega) (fun h155 => ?_) (fun h155 => ?_)
      · skip
        refine ev_iload eX12_drawn_163 rfl ?_
        refine ev_iret eX12_drawn_165 rfl ?_
        exact ⟨congrArg (fun q => some (vi q)) (by rw [if_neg (by omega)]; rfl), h9⟩
      · skip
        refine ev_iload eX12_drawn_158 rfl ?_
        refine ev_goto 165 eX12_drawn_160 rfl ?_
        refine ev_iret eX12_drawn_165 rfl ?_
        exact ⟨congrArg (fun q => some (vi q)) (by rw [if_pos (by omega)]; rfl), h9⟩
    · skip
      refine ev_lload eX12_drawn_72 rfl ?_
      refine ev_ldc2 eX12_drawn_74 qX12_294 ?_
      refine ev_lmul eX12_drawn_77 ?_
      refine ev_ldc2 eX12_drawn_78 qX12_296 ?_
      refine ev_lrem eX12_drawn_81 (by omega) (by omega) ?_
      rw [show ((x : Int) * 16807 % 2147483647) = (dX x : Int) by unfold dX; omega]
      have hdx : dX x < 2147483647 := Nat.mod_lt _ (by decide)
      have h5 := h3.2.1
      have h6 := h3.2.2.1
      have hmd : dX x % B 3 < B 3 := Nat.mod_lt _ (by omega)
      refine ev_lstore eX12_drawn_82 (by decide) ?_
      refine ev_n2 (lv2 := [.ref 45, vi n, vi v2, vi e, vl (dX x), .null, vi s, vi a, vi i, u9]) rfl ?_
      refine ev_lload eX12_drawn_84 rfl ?_
      refine ev_aload_n eX12_drawn_86 rfl ?_
      refine ev_getr eX12_drawn_87 fX12_25 rfl ?_
      refine ev_iconst eX12_drawn_90 ?_
      refine ev_ialdv (3) eX12_drawn_91 rfl (by first | rfl | omega) (by omega) h2.N ?_
      refine ev_i2l eX12_drawn_92 (by omega) ?_
      refine ev_lrem eX12_drawn_93 (by omega) (by omega) ?_
      refine ev_l2i eX12_drawn_94 ?_
      rw [show ((dX x : Int) % (B 3 : Int)) = ((dX x % B 3 : Nat) : Int) by rw [Int.natCast_emod]]
      refine ev_istore eX12_drawn_95 (by decide) ?_
      refine ev_n1 (lv2 := [.ref 45, vi n, vi v2, vi e, vl (dX x), .null, vi s, vi a, vi i, vi ((dX x % B 3 : Nat) : Int)]) rfl ?_
      refine ev_aload_n eX12_drawn_97 rfl ?_
      refine ev_getr eX12_drawn_98 fX12_25 rfl ?_
      refine ev_iconst eX12_drawn_101 ?_
      refine ev_iload eX12_drawn_102 rfl ?_
      refine ev_iadd eX12_drawn_104 ?_
      refine ev_lload eX12_drawn_105 rfl ?_
      refine ev_ldc2 eX12_drawn_107 qX12_298 ?_
      refine ev_ldiv eX12_drawn_110 (by omega) (by omega) ?_
      refine ev_aload_n eX12_drawn_111 rfl ?_
      refine ev_getr eX12_drawn_112 fX12_25 rfl ?_
      refine ev_iconst eX12_drawn_115 ?_
      refine ev_ialdv (0) eX12_drawn_116 rfl (by first | rfl | omega) (by omega) h2.S ?_
      refine ev_i2l eX12_drawn_117 (by omega) ?_
      refine ev_lrem eX12_drawn_118 (by omega) (by omega) ?_
      refine ev_l2i eX12_drawn_119 ?_
      rw [show ((dX x : Int) / 16 % (B 2 : Int)) = ((dX x / 16 % B 2 : Nat) : Int) by rw [Int.natCast_emod, Int.natCast_ediv]; rfl]
      have hB4 : MBk (up τ 51 (4 + dX x % B 3) ((dX x / 16 % B 2 : Nat) : Int)) 51 (dB x B) := by
        have := h2.up (j := 4 + dX x % B 3) (x := dX x / 16 % B 2) (by omega)
        rw [pm_R _ (by omega)] at this
        exact this
      have hO4 := dB_ok (x := x) h3
      have hpl := (LPi_lt hO4 (gF_i hO4)).2
      rw [gF_pr hO4] at hpl
      refine ev_iast (4 + dX x % B 3) eX12_drawn_120 rfl (by first | rfl | omega) (by omega) ?_
      refine ev_iload eX12_drawn_121 rfl ?_
      refine ev_aload_n eX12_drawn_123 rfl ?_
      refine ev_getr eX12_drawn_124 fX12_25 rfl ?_
      refine ev_cS1 eX12_drawn_127 ⟨lX12_255, kX12_pairsOf⟩ rfl (m_pairsOf (Or.inr rfl) hB4 hO4) ?_
      rintro _ _ ⟨rfl, rfl⟩
      refine ev_cS1 eX12_drawn_130 ⟨lX12_259, kX12_sizeOf⟩ rfl (m_sizeOf hpl) ?_
      rintro _ _ ⟨rfl, rfl⟩
      have hcb := cb_le (prC (dB x B)) 16
      refine ev_iadd eX12_drawn_133 ?_
      refine ev_istore eX12_drawn_134 (by decide) ?_
      refine ev_n1 (lv2 := [.ref 45, vi n, vi v2, vi e, vl (dX x), .null, vi ((s : Int) + (cb (prC (dB x B)) 16 : Int)), vi a, vi i, vi ((dX x % B 3 : Nat) : Int)]) rfl ?_
      refine ev_iload eX12_drawn_136 rfl ?_
      refine ev_aload_n eX12_drawn_138 rfl ?_
      refine ev_getr eX12_drawn_139 fX12_25 rfl ?_
      refine ev_cS1 eX12_drawn_142 ⟨lX12_255, kX12_pairsOf⟩ rfl (m_pairsOf (Or.inr rfl) hB4 hO4) ?_
      rintro _ _ ⟨rfl, rfl⟩
      refine ev_iand eX12_drawn_145 ?_
      rw [iAnd_n (by omega) (by omega)]
      have hal := Nat.and_le_left (n := a) (m := prC (dB x B))
      refine ev_istore eX12_drawn_146 (by decide) ?_
      refine ev_n1 (lv2 := [.ref 45, vi n, vi v2, vi e, vl (dX x), .null, vi ((s : Int) + (cb (prC (dB x B)) 16 : Int)), vi ((a &&& prC (dB x B) : Nat) : Int), vi i, vi ((dX x % B 3 : Nat) : Int)]) rfl ?_
      refine ev_iinc eX12_drawn_148 rfl (by decide) ?_
      refine ev_n1 (lv2 := [.ref 45, vi n, vi v2, vi e, vl (dX x), .null, vi ((s : Int) + (cb (prC (dB x B)) 16 : Int)), vi ((a &&& prC (dB x B) : Nat) : Int), vi ((i : Int) + 1), vi ((dX x % B 3 : Nat) : Int)]) rfl ?_
      refine ev_goto 66 eX12_drawn_151 rfl ?_
      refine ih (i := i + 1) (x := dX x) (s := s + cb (prC (dB x B)) 16) (a := a &&& prC (dB x B)) (B := dB x B) (by omega) (by omega) hB4 hO4 hdx (by omega) (by omega) ?_ (fun k hk => by rw [up_o _ _ _ hk]; exact h9 k hk)
      rw [← h7, show n - i = (n - (i + 1)) + 1 by omega]
      rfl
set_option maxRecDepth 20000 in
theorem m_drawn {d : Nat} {σ : St} {B : Bok} (hM : MBk σ 49 B) (hZ : OkZ B) {n y e : Int} (hn : -2147483648 ≤ n ∧ n ≤ 2147483647) (hy : -2147483648 ≤ y ∧ y ≤ 2147483647) (he : -2147483648 ≤ e ∧ e ≤ 2147483647) : Ct (d + 3) mX12_drawn [.ref 45, vi n, vi y, vi e] σ (fun r τ => (B 2 = 0 → some (vi (-1000002)) = r ∧ σ = τ) ∧ (0 < B 2 ∧ ¬ ((0 ≤ n ∧ n ≤ 30) ∧ (1 ≤ y ∧ y ≤ 999999) ∧ 0 ≤ e ∧ e ≤ 1) → some (vi (-1000001)) = r ∧ σ = τ) ∧ (0 < B 2 ∧ ((0 ≤ n ∧ n ≤ 30) ∧ (1 ≤ y ∧ y ≤ 999999) ∧ 0 ≤ e ∧ e ≤ 1) → some (vi ((if e.toNat = 0 then (dr n.toNat y.toNat B 0 65535).1 else (dr n.toNat y.toNat B 0 65535).2 : Nat) : Int)) = r ∧ ∀ k, k ≠ 51 → τ k = σ k)) := by
  refine ct_of hX12_drawn (Nat.le_of_ble_eq_true rfl) ?_
  have hf := hZ.wf
  have h7 := hf.2.1
  have h8 := hf.2.2.1
  refine ev_aload_n eX12_drawn_0 rfl ?_
  refine ev_cV0 eX12_drawn_1 ⟨lX12_197, kX12_isThere⟩ rfl rfl (m_isThere hM hZ.wf) ?_
  rintro _ _ ⟨rfl, rfl⟩
  refine ev_ifb_ne 10 eX12_drawn_4 rfl (fun h4 => ?_) (fun h4 => ?_)
  · skip
    refine ev_iload_n eX12_drawn_10 rfl ?_
    refine ev_i2l eX12_drawn_11 (by omega) ?_
    refine ev_lconst 0 eX12_drawn_12 rfl ?_
    refine ev_ldc2 eX12_drawn_13 qX12_289 ?_
    refine ev_cS3 eX12_drawn_16 ⟨lX12_70, kX12_in⟩ rfl (m_in (a := n) (b := 0) (c := 30) (by omega) (by omega) (by omega)) ?_
    rintro _ _ ⟨rfl, rfl⟩
    refine ev_ifb_eq 44 eX12_drawn_19 rfl (fun h19 => ?_) (fun h19 => ?_)
    · skip
      refine ev_ldc eX12_drawn_44 qX12_80 ?_
      refine ev_iret eX12_drawn_46 rfl ?_
      refine ⟨fun hc => ?_, fun hc => ?_, fun hc => ?_⟩ <;> first | (exfalso; omega) | (exact ⟨rfl, rfl⟩)
    · skip
      refine ev_iload_n eX12_drawn_22 rfl ?_
      refine ev_i2l eX12_drawn_23 (by omega) ?_
      refine ev_lconst 1 eX12_drawn_24 rfl ?_
      refine ev_ldc2 eX12_drawn_25 qX12_291 ?_
      refine ev_cS3 eX12_drawn_28 ⟨lX12_70, kX12_in⟩ rfl (m_in (a := y) (b := 1) (c := 999999) (by omega) (by omega) (by omega)) ?_
      rintro _ _ ⟨rfl, rfl⟩
      refine ev_ifb_eq 44 eX12_drawn_31 rfl (fun h31 => ?_) (fun h31 => ?_)
      · skip
        refine ev_ldc eX12_drawn_44 qX12_80 ?_
        refine ev_iret eX12_drawn_46 rfl ?_
        refine ⟨fun hc => ?_, fun hc => ?_, fun hc => ?_⟩ <;> first | (exfalso; omega) | (exact ⟨rfl, rfl⟩)
      · skip
        refine ev_iload_n eX12_drawn_34 rfl ?_
        refine ev_i2l eX12_drawn_35 (by omega) ?_
        refine ev_lconst 0 eX12_drawn_36 rfl ?_
        refine ev_lconst 1 eX12_drawn_37 rfl ?_
        refine ev_cS3 eX12_drawn_38 ⟨lX12_70, kX12_in⟩ rfl (m_in (a := e) (b := 0) (c := 1) (by omega) (by omega) (by omega)) ?_
        rintro _ _ ⟨rfl, rfl⟩
        refine ev_ifb_ne 47 eX12_drawn_41 rfl (fun h41 => ?_) (fun h41 => ?_)
        · skip
          have hO := hZ.ok (by omega)
          obtain ⟨n, rfl⟩ : ∃ q : Nat, n = q := ⟨n.toNat, by omega⟩
          obtain ⟨y, rfl⟩ : ∃ q : Nat, y = q := ⟨y.toNat, by omega⟩
          obtain ⟨e, rfl⟩ : ∃ q : Nat, e = q := ⟨e.toNat, by omega⟩
          rw [Int.toNat_natCast, Int.toNat_natCast, Int.toNat_natCast]
          refine ev_aload_n eX12_drawn_47 rfl ?_
          refine ev_cV0 eX12_drawn_48 ⟨lX12_277, kX12_layThen⟩ rfl rfl (m_layThen hM) ?_
          rintro _ τ1 ⟨rfl, b1, b2⟩
          refine ev_iload_n eX12_drawn_51 rfl ?_
          refine ev_i2l eX12_drawn_52 (by omega) ?_
          refine ev_lstore eX12_drawn_53 (by decide) ?_
          refine ev_iconst eX12_drawn_55 ?_
          refine ev_istore eX12_drawn_56 (by decide) ?_
          refine ev_ldc_w eX12_drawn_58 qX12_293 ?_
          refine ev_istore eX12_drawn_61 (by decide) ?_
          refine ev_iconst eX12_drawn_63 ?_
          refine ev_istore eX12_drawn_64 (by decide) ?_
          refine ev_mono (fun r τ h => ?_) (m_dr_l (σ := σ) (n := n) (x0 := y) (e := e) (B0 := B) (by omega) (by omega) 31 (i := 0) (x := y) (s := 0) (a := 65535) (B := B) (by omega) (by omega) b1 hO (by omega) (by omega) (by omega) rfl b2)
          refine ⟨fun hc => ?_, fun hc => ?_, fun hc => h⟩ <;> (exfalso; omega)
        · skip
          refine ev_ldc eX12_drawn_44 qX12_80 ?_
          refine ev_iret eX12_drawn_46 rfl ?_
          refine ⟨fun hc => ?_, fun hc => ?_, fun hc => ?_⟩ <;> first | (exfalso; omega) | (exact ⟨rfl, rfl⟩)
  · skip
    refine ev_ldc eX12_drawn_7 qX12_178 ?_
    refine ev_iret eX12_drawn_9 rfl ?_
    refine ⟨fun hc => ?_, fun hc => ?_, fun hc => ?_⟩ <;> first | (exfalso; omega) | (exact ⟨rfl, rfl⟩)
def qv (B : Bok) (k v : Nat) : Prop := ∃ u, u < v ∧ u ≠ rw_ B k ∧ prC (upB B (36 + k) u) = prC B
theorem qv_s {B : Bok} {k v : Nat} : qv B k (v + 1) ↔ (qv B k v ∨ (v ≠ rw_ B k ∧ prC (upB B (36 + k) v) = prC B)) := by
  constructor
  · rintro ⟨u, h1, h2⟩
    by_cases e : u = v
    · subst e; exact Or.inr h2
    · exact Or.inl ⟨u, by omega, h2⟩
  · rintro (⟨u, h1, h2⟩ | h)
    · exact ⟨u, by omega, h2⟩
    · exact ⟨v, by omega, h⟩
def Qs (B : Bok) (k v S : Nat) : Prop := (qv B k v → S = qtF B k ||| 2 ^ k) ∧ (¬ qv B k v → S = qtF B k)
theorem Qs_0 {B : Bok} {k v S : Nat} (h : Qs B k v S) (hn : ¬ (v ≠ rw_ B k ∧ prC (upB B (36 + k) v) = prC B)) : Qs B k (v + 1) S := by
  unfold Qs
  rw [qv_s]
  exact ⟨fun z => h.1 (z.resolve_right hn), fun z => h.2 (fun q => z (Or.inl q))⟩
theorem Qs_1 {B : Bok} {k v S : Nat} (h : Qs B k v S) (hn : v ≠ rw_ B k ∧ prC (upB B (36 + k) v) = prC B) : Qs B k (v + 1) (S ||| 2 ^ k) := by
  refine ⟨fun _ => ?_, fun z => absurd (qv_s.2 (Or.inr hn)) z⟩
  by_cases q : qv B k v
  · rw [h.1 q, Nat.or_assoc, Nat.or_self]
  · rw [h.2 q]
theorem Qs_e {B : Bok} {k S : Nat} (h : Qs B k (B 2) S) : S = qtF B (k + 1) := by
  by_cases q : qt B k
  · rw [qtF_t q]; exact h.1 q
  · rw [qtF_f q]; exact h.2 q
theorem Qs_lt {B : Bok} {k v S : Nat} (h : Qs B k v S) (hk : k < 8) : S < 256 := by
  have h1 := qtF_lt B k (by omega)
  by_cases q : qv B k v
  · rw [h.1 q]; exact Nat.or_lt_two_pow (n := 8) h1 (p2_lt hk)
  · rw [h.2 q]; exact h1
set_option maxRecDepth 20000 in
theorem m_qu_v {d : Nat} {σ : St} {B : Bok} (hM : MBk σ 49 B) (hO : Ok B) {k : Nat} (hk : k < B 3) {post : Option Value → St → Prop} (hq : ∀ τ : St, (∀ k, k ≠ 51 → τ k = σ k) → Ev (d + 3) mX12_quiet 94 [.ref 45, vi (qtF B (k + 1)), vi k, vi (B 2)] [] τ post) : ∀ (fu : Nat) {v S : Nat} {τ : St}, B 2 - v < fu → v ≤ B 2 → Qs B k v S → (∀ k, k ≠ 51 → τ k = σ k) → Ev (d + 3) mX12_quiet 26 [.ref 45, vi S, vi k, vi v] [] τ (post) := by
  intro fu
  induction fu with
  | zero => intros; omega
  | succ fu ih =>
    intro v S τ hm h1 h2 h3
    have hf := hO.1
    have h7 := hf.2.1
    have h8 := hf.2.2.1
    have hS := Qs_lt h2 (by omega)
    refine ev_iload_n eX12_quiet_26 rfl ?_
    refine ev_aload_n eX12_quiet_27 rfl ?_
    refine ev_getr eX12_quiet_28 fX12_19 rfl ?_
    refine ev_iconst eX12_quiet_31 ?_
    refine ev_ialdv (0) eX12_quiet_32 rfl (by first | rfl | omega) (by omega) (show τ 49 0 = (B 2 : Int) by rw [h3 49 (by decide)]; exact hM.S) ?_
    refine ev_icmp_ge 94 eX12_quiet_33 rfl (by omega) (by omega) (fun h33 => ?_) (fun h33 => ?_)
    · skip
      obtain rfl : v = B 2 := by omega
      rw [Qs_e h2]
      exact hq τ h3
    · skip
      refine ev_aload_n eX12_quiet_36 rfl ?_
      refine ev_cV0 eX12_quiet_37 ⟨lX12_277, kX12_layThen⟩ rfl rfl (m_layThen (hM.of (h3 49 (by decide)))) ?_
      rintro _ τ1 ⟨rfl, b1, b2⟩
      have hB4 : MBk (up τ1 51 (4 + k) (v : Int)) 51 (upB B (36 + k) v) := by
        have := b1.up (j := 4 + k) (x := v) (by omega)
        rw [pm_R _ (by omega)] at this
        exact this
      have hO4 : Ok (upB B (36 + k) v) := Ok_row hO (by omega) (by omega)
      have hpl := (LPi_lt hO4 (gF_i hO4)).2
      rw [gF_pr hO4] at hpl
      have hpm := (LPi_lt hO (gF_i hO)).2
      rw [gF_pr hO] at hpm
      have hr := hO.2.2.2.1 k hk
      have hfr : ∀ c, c ≠ 51 → up τ1 51 (4 + k) (v : Int) c = σ c := fun c hc => by rw [up_o _ _ _ hc, b2 c hc]; exact h3 c hc
      refine ev_aload_n eX12_quiet_40 rfl ?_
      refine ev_getr eX12_quiet_41 fX12_25 rfl ?_
      refine ev_iconst eX12_quiet_44 ?_
      refine ev_iload_n eX12_quiet_45 rfl ?_
      refine ev_iadd eX12_quiet_46 ?_
      refine ev_iload_n eX12_quiet_47 rfl ?_
      refine ev_iast ((4 + k)) eX12_quiet_48 rfl (by first | rfl | omega) (by omega) ?_
      refine ev_iload_n eX12_quiet_49 rfl ?_
      refine ev_iload_n eX12_quiet_50 rfl ?_
      refine ev_aload_n eX12_quiet_51 rfl ?_
      refine ev_getr eX12_quiet_52 fX12_19 rfl ?_
      refine ev_iconst eX12_quiet_55 ?_
      refine ev_iload_n eX12_quiet_56 rfl ?_
      refine ev_iadd eX12_quiet_57 ?_
      refine ev_ialdv ((4 + k)) eX12_quiet_58 rfl (by first | rfl | omega) (by omega) (show up τ1 51 (4 + k) (v : Int) 49 (4 + k) = (rw_ B k : Int) by rw [hfr 49 (by decide)]; exact hM.R (by omega)) ?_
      refine ev_icmp_eq 85 eX12_quiet_59 rfl (by omega) (by omega) (fun h59 => ?_) (fun h59 => ?_)
      · skip
        refine ev_iconst eX12_quiet_85 ?_
        refine ev_ior eX12_quiet_86 ?_
        refine ev_istore_n eX12_quiet_87 (by decide) ?_
        refine ev_iinc eX12_quiet_88 rfl (by decide) ?_
        refine ev_goto 26 eX12_quiet_91 rfl ?_
        rw [iOr_z (by omega)]
        exact ih (v := v + 1) (by omega) (by omega) (Qs_0 h2 (fun z => z.1 (by omega))) hfr
      · skip
        refine ev_aload_n eX12_quiet_62 rfl ?_
        refine ev_getr eX12_quiet_63 fX12_25 rfl ?_
        refine ev_cS1 eX12_quiet_66 ⟨lX12_255, kX12_pairsOf⟩ rfl (m_pairsOf (Or.inr rfl) hB4 hO4) ?_
        rintro _ _ ⟨rfl, rfl⟩
        refine ev_aload_n eX12_quiet_69 rfl ?_
        refine ev_getr eX12_quiet_70 fX12_19 rfl ?_
        refine ev_cS1 eX12_quiet_73 ⟨lX12_255, kX12_pairsOf⟩ rfl (m_pairsOf (Or.inl rfl) (hM.of (hfr 49 (by decide))) hO) ?_
        rintro _ _ ⟨rfl, rfl⟩
        refine ev_icmp_ne 85 eX12_quiet_76 rfl (by omega) (by omega) (fun h76 => ?_) (fun h76 => ?_)
        · skip
          refine ev_iconst eX12_quiet_85 ?_
          refine ev_ior eX12_quiet_86 ?_
          refine ev_istore_n eX12_quiet_87 (by decide) ?_
          refine ev_iinc eX12_quiet_88 rfl (by decide) ?_
          refine ev_goto 26 eX12_quiet_91 rfl ?_
          rw [iOr_z (by omega)]
          exact ih (v := v + 1) (by omega) (by omega) (Qs_0 h2 (fun z => h76 (by rw [z.2]))) hfr
        · skip
          refine ev_iconst eX12_quiet_79 ?_
          refine ev_iload_n eX12_quiet_80 rfl ?_
          refine ev_ishl eX12_quiet_81 ?_
          refine ev_goto 86 eX12_quiet_82 rfl ?_
          refine ev_ior eX12_quiet_86 ?_
          refine ev_istore_n eX12_quiet_87 (by decide) ?_
          refine ev_iinc eX12_quiet_88 rfl (by decide) ?_
          refine ev_goto 26 eX12_quiet_91 rfl ?_
          rw [ior_p (by omega) (by omega)]
          exact ih (v := v + 1) (by omega) (by omega) (Qs_1 h2 ⟨by omega, by omega⟩) hfr
set_option maxRecDepth 20000 in
theorem m_qu_k {d : Nat} {σ : St} {B : Bok} (hM : MBk σ 49 B) (hO : Ok B)  : ∀ (fu : Nat) {k : Nat} {u3 : Value} {τ : St}, B 3 - k < fu → k ≤ B 3 → (∀ k, k ≠ 51 → τ k = σ k) → Ev (d + 3) mX12_quiet 14 [.ref 45, vi (qtF B k), vi k, u3] [] τ (fun r τ => some (vi (qtF B (B 3))) = r ∧ ∀ k, k ≠ 51 → τ k = σ k) := by
  intro fu
  induction fu with
  | zero => intros; omega
  | succ fu ih =>
    intro k u3 τ hm h1 h3
    have hf := hO.1
    have h7 := hf.2.1
    have h8 := hf.2.2.1
    refine ev_iload_n eX12_quiet_14 rfl ?_
    refine ev_aload_n eX12_quiet_15 rfl ?_
    refine ev_getr eX12_quiet_16 fX12_19 rfl ?_
    refine ev_iconst eX12_quiet_19 ?_
    refine ev_ialdv (3) eX12_quiet_20 rfl (by first | rfl | omega) (by omega) (show τ 49 3 = (B 3 : Int) by rw [h3 49 (by decide)]; exact hM.N) ?_
    refine ev_icmp_ge 100 eX12_quiet_21 rfl (by omega) (by omega) (fun h21 => ?_) (fun h21 => ?_)
    · skip
      refine ev_iload_n eX12_quiet_100 rfl ?_
      refine ev_iret eX12_quiet_101 rfl ?_
      exact ⟨congrArg (fun q => some (vi q)) (by rw [show k = B 3 by omega]), h3⟩
    · skip
      refine ev_iconst eX12_quiet_24 ?_
      refine ev_istore_n eX12_quiet_25 (by decide) ?_
      refine m_qu_v hM hO (k := k) (by omega) (fun τ g1 => ?_) 5 (v := 0) (by omega) (by omega) ⟨fun ⟨u, hu, _⟩ => absurd hu (Nat.not_lt_zero u), fun _ => rfl⟩ h3
      refine ev_iinc eX12_quiet_94 rfl (by decide) ?_
      refine ev_goto 14 eX12_quiet_97 rfl ?_
      exact ih (k := k + 1) (by omega) (by omega) g1
set_option maxRecDepth 20000 in
theorem m_quiet {d : Nat} {σ : St} {B : Bok} (hM : MBk σ 49 B) (hZ : OkZ B)  : Ct (d + 3) mX12_quiet [.ref 45] σ (fun r τ => (B 2 = 0 → some (vi (-1000002)) = r ∧ σ = τ) ∧ (0 < B 2 → some (vi (qtF B (B 3))) = r ∧ ∀ k, k ≠ 51 → τ k = σ k)) := by
  refine ct_of hX12_quiet (Nat.le_of_ble_eq_true rfl) ?_
  have hf := hZ.wf
  have h7 := hf.2.1
  have h8 := hf.2.2.1
  refine ev_aload_n eX12_quiet_0 rfl ?_
  refine ev_cV0 eX12_quiet_1 ⟨lX12_197, kX12_isThere⟩ rfl rfl (m_isThere hM hZ.wf) ?_
  rintro _ _ ⟨rfl, rfl⟩
  refine ev_ifb_ne 10 eX12_quiet_4 rfl (fun h4 => ?_) (fun h4 => ?_)
  · skip
    refine ev_iconst eX12_quiet_10 ?_
    refine ev_istore_n eX12_quiet_11 (by decide) ?_
    refine ev_iconst eX12_quiet_12 ?_
    refine ev_istore_n eX12_quiet_13 (by decide) ?_
    refine ev_mono (fun r τ h => ?_) (m_qu_k hM (hZ.ok (by omega)) 9 (k := 0) (by omega) (by omega) (fun _ _ => rfl))
    exact ⟨fun hc => absurd hc (by omega), fun _ => h⟩
  · skip
    refine ev_ldc eX12_quiet_7 qX12_178 ?_
    refine ev_iret eX12_quiet_9 rfl ?_
    refine ⟨fun hc => ?_, fun hc => ?_⟩ <;> first | (exfalso; omega) | (exact ⟨rfl, rfl⟩)
