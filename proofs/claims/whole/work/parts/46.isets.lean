/-! InflatedRows: shares, what is lost, sets -/
theorem sumF_ge {f : Nat → Nat} {n i : Nat} (h : i < n) : f i ≤ sumF f n := by
  induction n with
  | zero => omega
  | succ n ih =>
    rw [sumF_s]
    by_cases e : i = n
    · subst e; omega
    · have := ih (by omega); omega
theorem cntF_pos {f : Nat → Nat} {n i x : Nat} (h : i < n) (e : f i = x) : 1 ≤ cntF f x n := by
  induction n with
  | zero => omega
  | succ n ih =>
    rw [cntF_s]
    by_cases e2 : i = n
    · subst e2; rw [if_pos e]; omega
    · have := ih (by omega); omega
theorem nm_pos {B : Bok} (h : Ok B) : ∀ n, ∃ s, s < B 2 ∧ 1 ≤ nm B n s
  | 0 => ⟨rw_ B 0, h.2.2.2.1 0 (by have := h.2.2.1; omega), cntF_pos (i := 0) (by have := h.2.2.1; omega) rfl⟩
  | n + 1 => by
    obtain ⟨s, hs, h1⟩ := nm_pos h n
    have h2 := h.im1 hs
    refine ⟨il B s 0, h.il2 hs (by omega), ?_⟩
    have h3 : nm B n s * cn B s (il B s 0) ≤ nm B (n + 1) (il B s 0) := sumF_ge (f := fun t => nm B n t * cn B t (il B s 0)) hs
    have h4 : 1 ≤ cn B s (il B s 0) := cntF_pos (i := 0) (by omega) rfl
    have h5 := Nat.mul_le_mul h1 h4
    omega
def nmS (B : Bok) (n : Nat) : Nat := sumF (nm B n) (B 2)
theorem nmS_pos {B : Bok} (h : Ok B) (n : Nat) : 1 ≤ nmS B n := by
  obtain ⟨s, hs, h1⟩ := nm_pos h n
  exact Nat.le_trans h1 (sumF_ge hs)
theorem nm_leS {B : Bok} {n s : Nat} (hs : s < B 2) : nm B n s ≤ nmS B n := sumF_ge hs
theorem lowT_le {a b e : Nat} (ha : a ≤ MX) (hb : b ≤ MX) : lowT a b e ≤ MX := by
  unfold lowT
  refine Nat.le_trans (Nat.div_le_self _ _) ?_
  split <;> omega
set_option maxRecDepth 20000 in
theorem o_share {d : Nat} {σ : St} {B : Bok} (hB : BkC σ 16 B) (hZ : OkZ B) {x n e : Int} (hx : -2147483648 ≤ x ∧ x ≤ 2147483647) (hn : -2147483648 ≤ n ∧ n ≤ 2147483647) (he : -2147483648 ≤ e ∧ e ≤ 2147483647) : Ct (d + 5) mX11_share [.ref 0, vi x, vi n, vi e] σ (fun r τ => (¬ ((0 ≤ x ∧ x < B 2) ∧ (0 ≤ n ∧ n ≤ 60) ∧ 0 ≤ e ∧ e ≤ 1) → some (vl (-1000001)) = r ∧ σ = τ) ∧ (((0 ≤ x ∧ x < B 2) ∧ (0 ≤ n ∧ n ≤ 60) ∧ 0 ≤ e ∧ e ≤ 1) ∧ (ovr B n.toNat ∨ MX < nmS B n.toNat) → some (vl (-1000016)) = r ∧ τ 0 11 = σ 0 11 ∧ τ 0 12 = 6 ∧ ∀ k, k ≠ 8 → k ≠ 38 → k ≠ 39 → k ≠ 40 → k ≠ 0 → τ k = σ k) ∧ (((0 ≤ x ∧ x < B 2) ∧ (0 ≤ n ∧ n ≤ 60) ∧ 0 ≤ e ∧ e ≤ 1) ∧ ¬ (ovr B n.toNat ∨ MX < nmS B n.toNat) → some (vl (lowT (nm B n.toNat x.toNat) (nmS B n.toNat) e.toNat)) = r ∧ τ 0 11 = σ 0 11 ∧ τ 0 12 = 0 ∧ ∀ k, k ≠ 8 → k ≠ 38 → k ≠ 39 → k ≠ 40 → k ≠ 0 → τ k = σ k)) := by
  refine ct_of hX11_share (Nat.le_of_ble_eq_true rfl) ?_
  have hf := hZ.wf
  have h7 := hf.2.1
  refine ev_aload_n eX11_share_0 rfl ?_
  refine ev_getr eX11_share_1 fX11_26 rfl ?_
  refine ev_iload_n eX11_share_4 rfl ?_
  refine ev_cV1 eX11_share_5 ⟨lX11_162, kX0_hasSort⟩ rfl rfl (c_hasSort Bq3 hB hf.1 (x := x) (by omega)) ?_
  rintro _ _ ⟨rfl, rfl⟩
  refine ev_ifb_eq 30 eX11_share_8 rfl (fun h8 => ?_) (fun h8 => ?_)
  · skip
    refine ev_ldc2 eX11_share_30 qX11_253 ?_
    refine ev_lret eX11_share_33 rfl ?_
    refine ⟨fun hc => ?_, fun hc => ?_, fun hc => ?_⟩ <;> first | (exfalso; omega) | (exact ⟨rfl, rfl⟩)
  · skip
    refine ev_iload_n eX11_share_11 rfl ?_
    refine ev_if_lt 30 eX11_share_12 rfl (by omega) (fun h12 => ?_) (fun h12 => ?_)
    · skip
      refine ev_ldc2 eX11_share_30 qX11_253 ?_
      refine ev_lret eX11_share_33 rfl ?_
      refine ⟨fun hc => ?_, fun hc => ?_, fun hc => ?_⟩ <;> first | (exfalso; omega) | (exact ⟨rfl, rfl⟩)
    · skip
      refine ev_iload_n eX11_share_15 rfl ?_
      refine ev_bipush eX11_share_16 rfl ?_
      refine ev_icmp_gt 30 eX11_share_18 rfl (by omega) (by omega) (fun h18 => ?_) (fun h18 => ?_)
      · skip
        refine ev_ldc2 eX11_share_30 qX11_253 ?_
        refine ev_lret eX11_share_33 rfl ?_
        refine ⟨fun hc => ?_, fun hc => ?_, fun hc => ?_⟩ <;> first | (exfalso; omega) | (exact ⟨rfl, rfl⟩)
      · skip
        refine ev_iload_n eX11_share_21 rfl ?_
        refine ev_if_lt 30 eX11_share_22 rfl (by omega) (fun h22 => ?_) (fun h22 => ?_)
        · skip
          refine ev_ldc2 eX11_share_30 qX11_253 ?_
          refine ev_lret eX11_share_33 rfl ?_
          refine ⟨fun hc => ?_, fun hc => ?_, fun hc => ?_⟩ <;> first | (exfalso; omega) | (exact ⟨rfl, rfl⟩)
        · skip
          refine ev_iload_n eX11_share_25 rfl ?_
          refine ev_iconst eX11_share_26 ?_
          refine ev_icmp_le 34 eX11_share_27 rfl (by omega) (by omega) (fun h27 => ?_) (fun h27 => ?_)
          · skip
            obtain ⟨s, rfl⟩ : ∃ q : Nat, x = q := ⟨x.toNat, by omega⟩
            have hO := hZ.ok (by omega)
            obtain ⟨q, rfl⟩ : ∃ q : Nat, n = q := ⟨n.toNat, by omega⟩
            obtain ⟨e1, rfl⟩ : ∃ q : Nat, e = q := ⟨e.toNat, by omega⟩
            rw [Int.toNat_natCast, Int.toNat_natCast, Int.toNat_natCast]
            refine ev_aload_n eX11_share_34 rfl ?_
            refine ev_getr eX11_share_35 fX11_53 rfl ?_
            refine ev_aload_n eX11_share_38 rfl ?_
            refine ev_getr eX11_share_39 fX11_26 rfl ?_
            refine ev_iload_n eX11_share_42 rfl ?_
            refine ev_cV2 eX11_share_43 ⟨lX11_263, kX9_run⟩ rfl rfl (c_run Bq3 hB hf (n := q) (by omega) hO.2.2.2.1) ?_
            rintro _ ξ ⟨q0, ⟨rfl, q1, q2, q3⟩ | ⟨rfl, q1⟩⟩
            · skip
              refine ev_if_eq 59 eX11_share_46 rfl (by omega) (fun h46 => False.elim (by omega)) (fun h46 => ?_)
              refine ev_aload_n eX11_share_49 rfl ?_
              refine ev_getr eX11_share_50 fX11_53 rfl ?_
              refine ev_cV0 eX11_share_53 ⟨lX11_278, kX9_sum⟩ rfl rfl (c_sum q3 (by omega) q1.1) ?_
              rintro _ _ ⟨rfl, rfl⟩
              have hmx := MXe
              have hcr := cl_r (nmS B q)
              show Ev _ _ _ _ [vl (cl (nmS B q))] _ _
              refine ev_goto 62 eX11_share_56 rfl ?_
              by_cases hle : nmS B q ≤ MX
              · rw [cl_le hle]
                refine ev_lstore eX11_share_62 (by decide) ?_
                refine ev_aload_n eX11_share_64 rfl ?_
                refine ev_lload eX11_share_65 rfl ?_
                refine ev_lconst 0 eX11_share_67 rfl ?_
                refine ev_lif_ge 77 eX11_share_68 eX11_share_69 rfl (by omega) (by omega) (fun h68 => ?_) (fun h68 => False.elim (by omega))
                refine ev_aload_n eX11_share_77 rfl ?_
                refine ev_getr eX11_share_78 fX11_53 rfl ?_
                refine ev_iload_n eX11_share_81 rfl ?_
                refine ev_cV1 eX11_share_82 ⟨lX11_266, kX9_of⟩ rfl rfl (c_of q3 (s := s) (m := B 2) (by omega) (by omega)) ?_
                rintro _ _ ⟨rfl, rfl⟩
                refine ev_lload eX11_share_85 rfl ?_
                refine ev_iload_n eX11_share_87 rfl ?_
                refine ev_cS3 eX11_share_88 ⟨lX11_282, kX1_partOfFraction⟩ rfl (c_frac (a := nm B q s) (b := nmS B q) (e := e1) (q3 s (by omega)).1 hle (nmS_pos hO q) (by omega)) ?_
                rintro _ _ ⟨rfl, rfl⟩
                have hlt := lowT_le (e := e1) (q3 s (by omega)).1 hle
                refine ev_cV1 eX11_share_91 ⟨lX11_274, kX11_orOver⟩ rfl rfl (c_orOver (by omega)) ?_
                rintro _ _ ⟨-, g⟩
                obtain ⟨rfl, rfl⟩ := g (by omega)
                refine ev_lret eX11_share_94 rfl ?_
                refine ⟨fun hc => ?_, fun hc => ?_, fun hc => ?_⟩ <;> first | (exfalso; omega) | skip
                · rcases hc.2 with z | z
                  · exact absurd z q2
                  · exfalso; omega
                · exact ⟨rfl, by rw [up_n _ _ (by decide), q0 0 (by decide) (by decide) (by decide) (by decide)], up_s _ _ _ _, fun k a1 a2 a3 a4 a5 => by rw [up_o _ _ _ a5]; exact q0 k a1 a2 a3 a4⟩
              · rw [cl_gt (by omega)]
                refine ev_lstore eX11_share_62 (by decide) ?_
                refine ev_aload_n eX11_share_64 rfl ?_
                refine ev_lload eX11_share_65 rfl ?_
                refine ev_lconst 0 eX11_share_67 rfl ?_
                refine ev_lif_ge 77 eX11_share_68 eX11_share_69 rfl (by omega) (by omega) (fun h68 => False.elim (by omega)) (fun h68 => ?_)
                refine ev_lload eX11_share_72 rfl ?_
                refine ev_goto 91 eX11_share_74 rfl ?_
                refine ev_cV1 eX11_share_91 ⟨lX11_274, kX11_orOver⟩ rfl rfl (c_orOver (by omega)) ?_
                rintro _ _ ⟨g, -⟩
                obtain ⟨rfl, rfl⟩ := g (by omega)
                refine ev_lret eX11_share_94 rfl ?_
                refine ⟨fun hc => ?_, fun hc => ?_, fun hc => absurd (Or.inr (by omega)) hc.2⟩ <;> first | (exfalso; omega) | skip
                exact ⟨rfl, by rw [up_n _ _ (by decide), q0 0 (by decide) (by decide) (by decide) (by decide)], up_s _ _ _ _, fun k a1 a2 a3 a4 a5 => by rw [up_o _ _ _ a5]; exact q0 k a1 a2 a3 a4⟩
            · skip
              refine ev_if_eq 59 eX11_share_46 rfl (by omega) (fun h46 => ?_) (fun h46 => False.elim (by omega))
              refine ev_ldc2 eX11_share_59 qX11_272 ?_
              refine ev_lstore eX11_share_62 (by decide) ?_
              refine ev_aload_n eX11_share_64 rfl ?_
              refine ev_lload eX11_share_65 rfl ?_
              refine ev_lconst 0 eX11_share_67 rfl ?_
              refine ev_lif_ge 77 eX11_share_68 eX11_share_69 rfl (by omega) (by omega) (fun h68 => False.elim (by omega)) (fun h68 => ?_)
              refine ev_lload eX11_share_72 rfl ?_
              refine ev_goto 91 eX11_share_74 rfl ?_
              refine ev_cV1 eX11_share_91 ⟨lX11_274, kX11_orOver⟩ rfl rfl (c_orOver (by omega)) ?_
              rintro _ _ ⟨g, -⟩
              obtain ⟨rfl, rfl⟩ := g (by omega)
              refine ev_lret eX11_share_94 rfl ?_
              refine ⟨fun hc => ?_, fun hc => ?_, fun hc => absurd (Or.inl q1) hc.2⟩ <;> first | (exfalso; omega) | skip
              exact ⟨rfl, by rw [up_n _ _ (by decide), q0 0 (by decide) (by decide) (by decide) (by decide)], up_s _ _ _ _, fun k a1 a2 a3 a4 a5 => by rw [up_o _ _ _ a5]; exact q0 k a1 a2 a3 a4⟩
          · skip
            refine ev_ldc2 eX11_share_30 qX11_253 ?_
            refine ev_lret eX11_share_33 rfl ?_
            refine ⟨fun hc => ?_, fun hc => ?_, fun hc => ?_⟩ <;> first | (exfalso; omega) | (exact ⟨rfl, rfl⟩)
theorem shF (f : Nat → Nat) (b : Nat) : ∀ N, sumF (fun m => if b ≤ m then f (m - b) else 0) N = sumF f (N - b)
  | 0 => by rw [Nat.zero_sub]; rfl
  | N + 1 => by
    rw [sumF_s, shF f b N]
    by_cases h : b ≤ N
    · rw [if_pos h, show N + 1 - b = (N - b) + 1 by omega, sumF_s]
    · rw [if_neg h, show N + 1 - b = 0 by omega, show N - b = 0 by omega]; rfl
theorem sumF_mono (f : Nat → Nat) {a b : Nat} (h : a ≤ b) : sumF f a ≤ sumF f b := by
  induction b with
  | zero => obtain rfl : a = 0 := by omega
            exact Nat.le_refl _
  | succ b ih =>
    by_cases e : a = b + 1
    · subst e; exact Nat.le_refl _
    · rw [sumF_s]; have := ih (by omega); omega
theorem sumF_lin (f g : Nat → Nat) (a b N : Nat) : sumF (fun m => a * f m + b * g m) N = a * sumF f N + b * sumF g N := by
  induction N with
  | zero => rfl
  | succ N ih => rw [sumF_s, sumF_s, sumF_s, ih, Nat.mul_add, Nat.mul_add]; omega
theorem Dl_sum (br : Nat → Nat) {q : Nat} (hq : q ≤ 10) : ∀ k N, sumF (Dl br q k) N ≤ 10 ^ k
  | 0, N => by
    have : ∀ N, sumF (Dl br q 0) N ≤ 1 ∧ (1 ≤ N → sumF (Dl br q 0) N = 1) := by
      intro N
      induction N with
      | zero => exact ⟨Nat.zero_le _, fun h => by omega⟩
      | succ N ih =>
        rw [sumF_s]
        unfold Dl
        by_cases e : N = 0
        · subst e; exact ⟨Nat.le_refl 1, fun _ => rfl⟩
        · rw [if_neg e]; exact ⟨ih.1, fun _ => ih.2 (by omega)⟩
    exact (this N).1
  | k + 1, N => by
    have e : sumF (Dl br q (k + 1)) N = q * sumF (Dl br q k) N + (10 - q) * sumF (fun m => if br k ≤ m then Dl br q k (m - br k) else 0) N := sumF_lin _ _ _ _ _
    rw [e, shF]
    have h1 := Dl_sum br hq k N
    have h2 := Dl_sum br hq k (N - br k)
    have h3 := Nat.mul_le_mul_left q h1
    have h4 := Nat.mul_le_mul_left (10 - q) h2
    have h5 : q * 10 ^ k + (10 - q) * 10 ^ k = 10 ^ (k + 1) := by
      rw [← Nat.add_mul, show q + (10 - q) = 10 by omega, Nat.pow_succ, Nat.mul_comm]
    omega
theorem p10_le {k : Nat} (h : k ≤ 8) : 10 ^ k ≤ 100000000 := Nat.pow_le_pow_right (by omega) h
def lsD (B : Bok) (s q : Nat) : Nat → Nat := Dl (fun i => cn B (rw_ B i) s) q (B 3)
set_option maxRecDepth 20000 in
theorem o_lost {d : Nat} {σ : St} {B : Bok} (hB : BkC σ 16 B) (hZ : OkZ B) {x v y e : Int} (hx : -2147483648 ≤ x ∧ x ≤ 2147483647) (hv : -2147483648 ≤ v ∧ v ≤ 2147483647) (hy : -2147483648 ≤ y ∧ y ≤ 2147483647) (he : -2147483648 ≤ e ∧ e ≤ 2147483647) : Ct (d + 4) mX11_lost [.ref 0, vi x, vi v, vi y, vi e] σ (fun r τ => (¬ ((0 ≤ x ∧ x < B 2) ∧ (0 ≤ v ∧ v ≤ 40) ∧ (0 ≤ y ∧ y ≤ 10) ∧ 0 ≤ e ∧ e ≤ 1) → some (vl (-1000001)) = r ∧ σ = τ) ∧ (((0 ≤ x ∧ x < B 2) ∧ (0 ≤ v ∧ v ≤ 40) ∧ (0 ≤ y ∧ y ≤ 10) ∧ 0 ≤ e ∧ e ≤ 1) → some (vl (lowT (sumF (lsD B x.toNat y.toNat) (v.toNat + 1)) (10 ^ B 3) e.toNat)) = r ∧ ∀ k, k ≠ 43 → k ≠ 10 → τ k = σ k)) := by
  refine ct_of hX11_lost (Nat.le_of_ble_eq_true rfl) ?_
  have hf := hZ.wf
  have h7 := hf.2.1
  refine ev_aload_n eX11_lost_0 rfl ?_
  refine ev_getr eX11_lost_1 fX11_26 rfl ?_
  refine ev_iload_n eX11_lost_4 rfl ?_
  refine ev_cV1 eX11_lost_5 ⟨lX11_162, kX0_hasSort⟩ rfl rfl (c_hasSort Bq3 hB hf.1 (x := x) (by omega)) ?_
  rintro _ _ ⟨rfl, rfl⟩
  refine ev_ifb_eq 42 eX11_lost_8 rfl (fun h8 => ?_) (fun h8 => ?_)
  · skip
    refine ev_ldc2 eX11_lost_42 qX11_253 ?_
    refine ev_lret eX11_lost_45 rfl ?_
    refine ⟨fun hc => ?_, fun hc => ?_⟩ <;> first | (exfalso; omega) | (exact ⟨rfl, rfl⟩)
  · skip
    refine ev_iload_n eX11_lost_11 rfl ?_
    refine ev_if_lt 42 eX11_lost_12 rfl (by omega) (fun h12 => ?_) (fun h12 => ?_)
    · skip
      refine ev_ldc2 eX11_lost_42 qX11_253 ?_
      refine ev_lret eX11_lost_45 rfl ?_
      refine ⟨fun hc => ?_, fun hc => ?_⟩ <;> first | (exfalso; omega) | (exact ⟨rfl, rfl⟩)
    · skip
      refine ev_iload_n eX11_lost_15 rfl ?_
      refine ev_bipush eX11_lost_16 rfl ?_
      refine ev_icmp_gt 42 eX11_lost_18 rfl (by omega) (by omega) (fun h18 => ?_) (fun h18 => ?_)
      · skip
        refine ev_ldc2 eX11_lost_42 qX11_253 ?_
        refine ev_lret eX11_lost_45 rfl ?_
        refine ⟨fun hc => ?_, fun hc => ?_⟩ <;> first | (exfalso; omega) | (exact ⟨rfl, rfl⟩)
      · skip
        refine ev_iload_n eX11_lost_21 rfl ?_
        refine ev_if_lt 42 eX11_lost_22 rfl (by omega) (fun h22 => ?_) (fun h22 => ?_)
        · skip
          refine ev_ldc2 eX11_lost_42 qX11_253 ?_
          refine ev_lret eX11_lost_45 rfl ?_
          refine ⟨fun hc => ?_, fun hc => ?_⟩ <;> first | (exfalso; omega) | (exact ⟨rfl, rfl⟩)
        · skip
          refine ev_iload_n eX11_lost_25 rfl ?_
          refine ev_bipush eX11_lost_26 rfl ?_
          refine ev_icmp_gt 42 eX11_lost_28 rfl (by omega) (by omega) (fun h28 => ?_) (fun h28 => ?_)
          · skip
            refine ev_ldc2 eX11_lost_42 qX11_253 ?_
            refine ev_lret eX11_lost_45 rfl ?_
            refine ⟨fun hc => ?_, fun hc => ?_⟩ <;> first | (exfalso; omega) | (exact ⟨rfl, rfl⟩)
          · skip
            refine ev_iload eX11_lost_31 rfl ?_
            refine ev_if_lt 42 eX11_lost_33 rfl (by omega) (fun h33 => ?_) (fun h33 => ?_)
            · skip
              refine ev_ldc2 eX11_lost_42 qX11_253 ?_
              refine ev_lret eX11_lost_45 rfl ?_
              refine ⟨fun hc => ?_, fun hc => ?_⟩ <;> first | (exfalso; omega) | (exact ⟨rfl, rfl⟩)
            · skip
              refine ev_iload eX11_lost_36 rfl ?_
              refine ev_iconst eX11_lost_38 ?_
              refine ev_icmp_le 46 eX11_lost_39 rfl (by omega) (by omega) (fun h39 => ?_) (fun h39 => ?_)
              · skip
                obtain ⟨s, rfl⟩ : ∃ q : Nat, x = q := ⟨x.toNat, by omega⟩
                have hO := hZ.ok (by omega)
                obtain ⟨z, rfl⟩ : ∃ q : Nat, v = q := ⟨v.toNat, by omega⟩
                obtain ⟨q, rfl⟩ : ∃ q : Nat, y = q := ⟨y.toNat, by omega⟩
                obtain ⟨e1, rfl⟩ : ∃ q : Nat, e = q := ⟨e.toNat, by omega⟩
                rw [Int.toNat_natCast, Int.toNat_natCast, Int.toNat_natCast, Int.toNat_natCast]
                have hp := p10_le (k := B 3) hf.2.2.1
                have hp0 : 0 < 10 ^ B 3 := Nat.pow_pos (by omega)
                have hmx := MXe
                have hds := Dl_sum (fun i => cn B (rw_ B i) s) (q := q) (by omega) (B 3) (z + 1)
                refine ev_aload_n eX11_lost_46 rfl ?_
                refine ev_getr eX11_lost_47 fX11_67 rfl ?_
                refine ev_aload_n eX11_lost_50 rfl ?_
                refine ev_getr eX11_lost_51 fX11_26 rfl ?_
                refine ev_iload_n eX11_lost_54 rfl ?_
                refine ev_iload_n eX11_lost_55 rfl ?_
                refine ev_cV3 eX11_lost_56 ⟨lX11_326, kX5_spread⟩ rfl rfl (c_spread Bq3 hB hf (s := s) (q := q) (by omega) (by omega) (fun i hi => by have := hO.2.2.2.1 i hi; omega)) ?_
                rintro _ ξ ⟨rfl, g1, g2, g3⟩
                refine ev_aload_n eX11_lost_59 rfl ?_
                refine ev_getr eX11_lost_60 fX11_67 rfl ?_
                refine ev_iload_n eX11_lost_63 rfl ?_
                refine ev_cV1 eX11_lost_64 ⟨lX11_330, kX5_casesUpTo⟩ rfl rfl (c_upTo g1 (v := z) (by omega)) ?_
                rintro _ _ ⟨rfl, rfl⟩
                refine ev_aload_n eX11_lost_67 rfl ?_
                refine ev_getr eX11_lost_68 fX11_67 rfl ?_
                refine ev_cV0 eX11_lost_71 ⟨lX11_333, kX5_cases⟩ rfl rfl (c_cases g2) ?_
                rintro _ _ ⟨rfl, rfl⟩
                refine ev_iload eX11_lost_74 rfl ?_
                refine ev_cS3 eX11_lost_76 ⟨lX11_282, kX1_partOfFraction⟩ rfl (c_frac (e := e1) (by omega) (by omega) hp0 (by omega)) ?_
                rintro _ _ ⟨rfl, rfl⟩
                refine ev_lret eX11_lost_79 rfl ?_
                refine ⟨fun hc => ?_, fun hc => ?_⟩ <;> first | (exfalso; omega) | (exact ⟨rfl, g3⟩)
              · skip
                refine ev_ldc2 eX11_lost_42 qX11_253 ?_
                refine ev_lret eX11_lost_45 rfl ?_
                refine ⟨fun hc => ?_, fun hc => ?_⟩ <;> first | (exfalso; omega) | (exact ⟨rfl, rfl⟩)
def wgt (B : Bok) (P : Nat) : Nat → Nat
  | 0 => 0
  | i + 1 => wgt B P i + (if P / 2 ^ i % 2 = 1 then ln B (rw_ B i) 0 else 0)
theorem wgt_le {B : Bok} (h : Wf B) (P : Nat) : ∀ i, i ≤ 8 → wgt B P i ≤ i * 18
  | 0, _ => Nat.le_refl _
  | i + 1, hi => by
    have h1 := wgt_le h P i (by omega)
    have h2 := ln_le h (s := rw_ B i) (v := 0) (h.2.2.2.2.2.2.2.2.2 i (by omega)) (by omega)
    unfold wgt
    split <;> omega
def sfM (B : Bok) (v : Nat) : Nat → Nat
  | 0 => 0
  | P + 1 => if wgt B P (B 3) = v then sfM B v P + 1 else sfM B v P
def sfA (B : Bok) (v : Nat) : Nat → Nat
  | 0 => 2 ^ B 3 - 1
  | P + 1 => if wgt B P (B 3) = v then sfA B v P &&& P else sfA B v P
def sfO (B : Bok) (v : Nat) : Nat → Nat
  | 0 => 0
  | P + 1 => if wgt B P (B 3) = v then sfO B v P ||| P else sfO B v P
theorem sf_r (B : Bok) (v : Nat) : ∀ P, P ≤ 256 → sfM B v P ≤ P ∧ (2 ^ B 3 ≤ 256 → sfA B v P < 256 ∧ sfO B v P < 256)
  | 0, _ => ⟨Nat.le_refl _, fun h => ⟨by unfold sfA; have := Nat.two_pow_pos (B 3); omega, by unfold sfO; omega⟩⟩
  | P + 1, hP => by
    have ⟨h1, h2⟩ := sf_r B v P (by omega)
    unfold sfM sfA sfO
    split
    · refine ⟨by omega, fun h => ⟨?_, ?_⟩⟩
      · have := Nat.and_le_left (n := sfA B v P) (m := P); have := (h2 h).1; omega
      · exact Nat.or_lt_two_pow (n := 8) (h2 h).2 (by omega)
    · exact ⟨by omega, h2⟩
theorem p2_256 {n : Nat} (h : n ≤ 8) : 2 ^ n ≤ 256 := Nat.pow_le_pow_right (by omega) h
set_option maxRecDepth 20000 in
theorem c_wgt_l {d : Nat} {σ : St} {B : Bok} (hB : BkC σ 16 B) (hZ : OkZ B) {P : Nat} (hP : P < 256) : ∀ (fu : Nat) {i : Nat}, B 3 - i < fu → i ≤ B 3 → Ev (d + 2) mX11_weightOf 4 [.ref 0, vi P, vi (wgt B P i), vi i] [] σ (rt (vi (wgt B P (B 3))) σ) := by
  intro fu
  induction fu with
  | zero => intros; omega
  | succ fu ih =>
    intro i hm h1
    have hf := hZ.wf
    have h7 := hf.2.1
    have h8 := hf.2.2.1
    have hwl := wgt_le hf P i (by omega)
    refine ev_iload_n eX11_weightOf_4 rfl ?_
    refine ev_aload_n eX11_weightOf_5 rfl ?_
    refine ev_getr eX11_weightOf_6 fX11_26 rfl ?_
    refine ev_cV0 eX11_weightOf_9 ⟨lX11_213, kX0_rowSize⟩ rfl rfl (c_rowSize Bq3 hB hf.1) ?_
    rintro _ _ ⟨rfl, rfl⟩
    refine ev_icmp_ge 49 eX11_weightOf_12 rfl (by omega) (by omega) (fun h12 => ?_) (fun h12 => ?_)
    · skip
      refine ev_iload_n eX11_weightOf_49 rfl ?_
      refine ev_iret eX11_weightOf_50 rfl ?_
      exact ⟨congrArg (fun q => some (vi q)) (by rw [show i = B 3 by omega]), rfl⟩
    · skip
      refine ev_iload_n eX11_weightOf_15 rfl ?_
      refine ev_iload_n eX11_weightOf_16 rfl ?_
      refine ev_ishr eX11_weightOf_17 ?_
      refine ev_iconst eX11_weightOf_18 ?_
      refine ev_iand eX11_weightOf_19 ?_
      refine ev_iconst eX11_weightOf_20 ?_
      rw [hasB (by omega) (by omega)]
      refine ev_icmp_ne 43 eX11_weightOf_21 rfl (by omega) (by omega) (fun h21 => ?_) (fun h21 => ?_)
      · skip
        refine ev_iinc eX11_weightOf_43 rfl (by decide) ?_
        refine ev_goto 4 eX11_weightOf_46 rfl ?_
        first | (rw [show wgt B P i = wgt B P (i + 1) by (show _ = wgt B P i + _); rw [if_neg (by omega)]; rfl]; exact ih (i := i + 1) (by omega) (by omega)) | (rw [show ((wgt B P i : Int) + (ln B (rw_ B i) 0 : Int)) = (wgt B P (i + 1) : Int) by rw [show wgt B P (i + 1) = wgt B P i + (if P / 2 ^ i % 2 = 1 then ln B (rw_ B i) 0 else 0) from rfl, if_pos (by omega)]; push_cast; rfl]; exact ih (i := i + 1) (by omega) (by omega))
      · skip
        refine ev_iload_n eX11_weightOf_24 rfl ?_
        refine ev_aload_n eX11_weightOf_25 rfl ?_
        refine ev_getr eX11_weightOf_26 fX11_26 rfl ?_
        refine ev_aload_n eX11_weightOf_29 rfl ?_
        refine ev_getr eX11_weightOf_30 fX11_26 rfl ?_
        refine ev_iload_n eX11_weightOf_33 rfl ?_
        refine ev_cV1 eX11_weightOf_34 ⟨lX11_241, kX0_rowLetter⟩ rfl rfl (c_rowLetter Bq3 hB hf.1 (i := i) (by omega)) ?_
        rintro _ _ ⟨rfl, rfl⟩
        refine ev_iconst eX11_weightOf_37 ?_
        refine ev_cV2 eX11_weightOf_38 ⟨lX11_397, kX0_lengthOf⟩ rfl rfl (c_lengthOf Bq3 hB hf.1 (s := rw_ B i) (hf.2.2.2.2.2.2.2.2.2 i (by omega)) (w := 0) (by omega)) ?_
        rintro _ _ ⟨rfl, rfl⟩
        refine ev_iadd eX11_weightOf_41 ?_
        refine ev_istore_n eX11_weightOf_42 (by decide) ?_
        refine ev_iinc eX11_weightOf_43 rfl (by decide) ?_
        refine ev_goto 4 eX11_weightOf_46 rfl ?_
        first | (rw [show wgt B P i = wgt B P (i + 1) by (show _ = wgt B P i + _); rw [if_neg (by omega)]; rfl]; exact ih (i := i + 1) (by omega) (by omega)) | (rw [show ((wgt B P i : Int) + (ln B (rw_ B i) 0 : Int)) = (wgt B P (i + 1) : Int) by rw [show wgt B P (i + 1) = wgt B P i + (if P / 2 ^ i % 2 = 1 then ln B (rw_ B i) 0 else 0) from rfl, if_pos (by omega)]; push_cast; rfl]; exact ih (i := i + 1) (by omega) (by omega))
set_option maxRecDepth 20000 in
theorem c_wgt {d : Nat} {σ : St} {B : Bok} (hB : BkC σ 16 B) (hZ : OkZ B) {P : Nat} (hP : P < 256) : Ct (d + 2) mX11_weightOf [.ref 0, vi P] σ (rt (vi (wgt B P (B 3))) σ) := by
  refine ct_of hX11_weightOf (Nat.le_of_ble_eq_true rfl) ?_
  have hf := hZ.wf
  refine ev_iconst eX11_weightOf_0 ?_
  refine ev_istore_n eX11_weightOf_1 (by decide) ?_
  refine ev_iconst eX11_weightOf_2 ?_
  refine ev_istore_n eX11_weightOf_3 (by decide) ?_
  exact c_wgt_l hB hZ hP 9 (i := 0) (by have := hZ.wf.2.2.1; omega) (by omega)
