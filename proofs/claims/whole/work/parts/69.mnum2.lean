/-! the reference: numbers, share, all -/
theorem cntF_0 {f : Nat → Nat} {x n : Nat} (h : ∀ i, i < n → f i ≠ x) : cntF f x n = 0 := by
  induction n with
  | zero => rfl
  | succ n ih => rw [cntF_s, ih (fun i hi => h i (by omega)), if_neg (h n (by omega))]
theorem sumF_0 {f : Nat → Nat} {n : Nat} (h : ∀ i, i < n → f i = 0) : sumF f n = 0 := by
  induction n with
  | zero => rfl
  | succ n ih => rw [sumF_s, ih (fun i hi => h i (by omega)), h n (by omega)]
theorem nm_z {B : Bok} (hO : Ok B) (n : Nat) {s : Nat} (hs : B 2 ≤ s) : nm B n s = 0 := by
  cases n with
  | zero => exact cntF_0 (fun i hi => by have := hO.2.2.2.1 i hi; omega)
  | succ n =>
    refine sumF_0 (fun t ht => ?_)
    have : cn B t s = 0 := cntF_0 (fun i hi => by have := hO.il2 ht hi; omega)
    show nm B n t * cn B t s = 0
    rw [this, Nat.mul_zero]
theorem nm_4 {B : Bok} (hO : Ok B) (n : Nat) : sumF (nm B n) 4 = nmS B n := by
  have h : ∀ k, B 2 ≤ k → sumF (nm B n) k = sumF (nm B n) (B 2) := by
    intro k
    induction k with
    | zero => intro h; rw [show B 2 = 0 by omega]
    | succ k ih =>
      intro h
      by_cases e : B 2 = k + 1
      · rw [e]
      · rw [sumF_s, ih (by omega), nm_z hO n (by omega), Nat.add_zero]
  exact h 4 hO.1.2.1
theorem sg_iff {O : Prop} {S v y z : Nat} (hy : ¬ (O ∨ MX < S) → y = S) (hz : ¬ O → z = v) : ((O ∨ MX < S) ∨ MX < y + z) ↔ (O ∨ MX < S + v) := by
  by_cases o : O
  · exact ⟨fun _ => Or.inl o, fun _ => Or.inl (Or.inl o)⟩
  · have hz := hz o
    by_cases q : MX < S
    · exact ⟨fun _ => Or.inr (by omega), fun _ => Or.inl (Or.inr q)⟩
    · have hy := hy (fun z => z.elim o q)
      subst hy hz
      exact ⟨fun h => Or.inr ((h.resolve_left (fun z => z.elim o q))), fun h => Or.inr (h.resolve_left o)⟩
def Mnf (σ τ : St) : Prop := (∀ j, j ≠ 0 → j ≠ 23 → τ 45 j = σ 45 j) ∧ ∀ c, c ≠ 45 → c ≠ 56 → c ≠ 57 → τ c = σ c
theorem Nf.m {σ τ : St} (h : Nf (up σ 45 0 0) τ) : Mnf σ τ := ⟨fun j a1 a2 => by rw [h.1 j a2, up_n _ _ a1], fun c a1 a2 a3 => by rw [h.2 c a1 a2 a3, up_o _ _ _ a1]⟩
theorem Mnf.up {σ τ : St} (h : Mnf σ τ) (x : Int) : Mnf σ (up τ 45 0 x) := ⟨fun j a1 a2 => by rw [up_n _ _ a1]; exact h.1 j a1 a2, fun c a1 a2 a3 => by rw [up_o _ _ _ a1]; exact h.2 c a1 a2 a3⟩
theorem Mnf.tr {σ τ ν : St} (h : Mnf σ τ) (h2 : ∀ j, j ≠ 23 → ν 45 j = τ 45 j) (h3 : ∀ c, c ≠ 45 → ν c = τ c) : Mnf σ ν := ⟨fun j a1 a2 => by rw [h2 j a2]; exact h.1 j a1 a2, fun c a1 a2 a3 => by rw [h3 c a1]; exact h.2 c a1 a2 a3⟩
set_option maxRecDepth 20000 in
theorem m_numbers {d : Nat} {σ : St} {B : Bok} (hM : MBk σ 49 B) (hZ : OkZ B) {x n : Int} (hx : -2147483648 ≤ x ∧ x ≤ 2147483647) (hn : -2147483648 ≤ n ∧ n ≤ 2147483647) : Ct (d + 3) mX12_numbers [.ref 45, vi x, vi n] σ (fun r τ => (¬ ((0 ≤ x ∧ x < B 2) ∧ (0 ≤ n ∧ n ≤ 60)) → some (vl (-1000001)) = r ∧ σ = τ) ∧ (((0 ≤ x ∧ x < B 2) ∧ (0 ≤ n ∧ n ≤ 60)) ∧ ovr B n.toNat → some (vl (-1000016)) = r ∧ τ 45 0 = 6 ∧ Mnf σ τ) ∧ (((0 ≤ x ∧ x < B 2) ∧ (0 ≤ n ∧ n ≤ 60)) ∧ ¬ ovr B n.toNat → some (vl (nm B n.toNat x.toNat)) = r ∧ τ 45 0 = 0 ∧ Mnf σ τ)) := by
  refine ct_of hX12_numbers (Nat.le_of_ble_eq_true rfl) ?_
  have hf := hZ.wf
  have h7 := hf.2.1
  have h8 := hf.2.2.1
  have hMX := MXe
  refine ev_aload_n eX12_numbers_0 rfl ?_
  refine ev_iload_n eX12_numbers_1 rfl ?_
  refine ev_cV1 eX12_numbers_2 ⟨lX12_182, kX12_isSort⟩ rfl rfl (m_isSort hM hZ.wf (x := x) (by omega)) ?_
  rintro _ _ ⟨rfl, rfl⟩
  refine ev_ifb_eq 20 eX12_numbers_5 rfl (fun h5 => ?_) (fun h5 => ?_)
  · skip
    refine ev_ldc2 eX12_numbers_20 qX12_220 ?_
    refine ev_lret eX12_numbers_23 rfl ?_
    refine ⟨fun hc => ?_, fun hc => ?_, fun hc => ?_⟩ <;> first | (exact absurd hc.1 (by omega)) | (exact ⟨rfl, rfl⟩)
  · skip
    refine ev_iload_n eX12_numbers_8 rfl ?_
    refine ev_i2l eX12_numbers_9 (by omega) ?_
    refine ev_lconst 0 eX12_numbers_10 rfl ?_
    refine ev_ldc2 eX12_numbers_11 qX12_239 ?_
    refine ev_cS3 eX12_numbers_14 ⟨lX12_70, kX12_in⟩ rfl (m_in (a := n) (b := 0) (c := 60) (by omega) (by omega) (by omega)) ?_
    rintro _ _ ⟨rfl, rfl⟩
    refine ev_ifb_ne 24 eX12_numbers_17 rfl (fun h17 => ?_) (fun h17 => ?_)
    · skip
      have hO := hZ.ok (by omega)
      obtain ⟨x, rfl⟩ : ∃ q : Nat, x = q := ⟨x.toNat, by omega⟩
      obtain ⟨n, rfl⟩ : ∃ q : Nat, n = q := ⟨n.toNat, by omega⟩
      rw [Int.toNat_natCast, Int.toNat_natCast]
      refine ev_aload_n eX12_numbers_24 rfl ?_
      refine ev_iconst eX12_numbers_25 ?_
      refine ev_puti eX12_numbers_26 pX12_63 rfl ?_
      refine ev_aload_n eX12_numbers_29 rfl ?_
      refine ev_iload_n eX12_numbers_30 rfl ?_
      refine ev_cV1 eX12_numbers_31 ⟨lX12_241, kX12_layNumbers⟩ rfl rfl (m_layNumbers (hM.of (up_o _ _ _ (by decide))) hO (n := n) (by omega)) ?_
      rintro _ τ ⟨rfl, ⟨g1, g2⟩, g3⟩
      have hst : τ 45 0 = 0 := by rw [g3.1 0 (by decide), up_s]
      have hmf := g3.m
      refine ev_aload_n eX12_numbers_34 rfl ?_
      refine ev_getiv eX12_numbers_35 fX12_229 rfl g1 ?_
      refine ev_ifb_eq 51 eX12_numbers_38 rfl (fun hq => ?_) (fun hq => ?_)
      · skip
        refine ev_aload_n eX12_numbers_51 rfl ?_
        refine ev_getr eX12_numbers_52 fX12_40 rfl ?_
        refine ev_iload_n eX12_numbers_55 rfl ?_
        obtain ⟨z, z1, z2, z3⟩ := g2 x (by omega)
        refine ev_laldv (x) eX12_numbers_56 rfl (by first | rfl | omega) (by omega) z1 ?_
        refine ev_lret eX12_numbers_57 rfl ?_
        rw [z3 hq]
        refine ⟨fun hc => absurd hc (by omega), fun hc => absurd hc.2 hq, fun hc => ⟨rfl, hst, hmf⟩⟩
      · skip
        refine ev_aload_n eX12_numbers_41 rfl ?_
        refine ev_bipush eX12_numbers_42 rfl ?_
        refine ev_cV1 eX12_numbers_44 ⟨lX12_81, kX12_finding⟩ rfl rfl m_finding ?_
        rintro _ _ ⟨rfl, rfl⟩
        refine ev_i2l eX12_numbers_47 (by omega) ?_
        refine ev_goto 57 eX12_numbers_48 rfl ?_
        refine ev_lret eX12_numbers_57 rfl ?_
        refine ⟨fun hc => absurd hc (by omega), fun hc => ⟨rfl, up_s _ _ _ _, hmf.up _⟩, fun hc => absurd hq hc.2⟩
    · skip
      refine ev_ldc2 eX12_numbers_20 qX12_220 ?_
      refine ev_lret eX12_numbers_23 rfl ?_
      refine ⟨fun hc => ?_, fun hc => ?_, fun hc => ?_⟩ <;> first | (exact absurd hc.1 (by omega)) | (exact ⟨rfl, rfl⟩)
set_option maxRecDepth 20000 in
theorem m_sh_l {d : Nat} {ρ : St} {B : Bok} {n : Nat} {s e : Int} {post : Option Value → St → Prop} (hV : Vx ρ 56 (ovr B n) (nm B n)) (hk : ∀ (τ : St) (y : Nat), y ≤ MX → τ 45 23 = bC (ovr B n ∨ MX < sumF (nm B n) 4) → (¬ (ovr B n ∨ MX < sumF (nm B n) 4) → y = sumF (nm B n) 4) → (∀ j, j ≠ 23 → τ 45 j = ρ 45 j) → (∀ c, c ≠ 45 → τ c = ρ c) → Ev (d + 1) mX12_share 77 [.ref 45, vi s, vi n, vi e, vl y, .null, vi 4] [] τ post) : ∀ (fu : Nat) {k y : Nat} {τ : St}, 4 - k < fu → k ≤ 4 → y ≤ MX → τ 45 23 = bC (ovr B n ∨ MX < sumF (nm B n) k) → (¬ (ovr B n ∨ MX < sumF (nm B n) k) → y = sumF (nm B n) k) → (∀ j, j ≠ 23 → τ 45 j = ρ 45 j) → (∀ c, c ≠ 45 → τ c = ρ c) → Ev (d + 1) mX12_share 50 [.ref 45, vi s, vi n, vi e, vl y, .null, vi k] [] τ (post) := by
  intro fu
  induction fu with
  | zero => intros; omega
  | succ fu ih =>
    intro k y τ hm h1 h2 h3 h4 h5 h6
    have hMX := MXe
    refine ev_iload eX12_share_50 rfl ?_
    refine ev_iconst eX12_share_52 ?_
    refine ev_icmp_ge 77 eX12_share_53 rfl (by omega) (by omega) (fun h53 => ?_) (fun h53 => ?_)
    · skip
      obtain rfl : k = 4 := by omega
      exact hk τ y h2 h3 h4 h5 h6
    · skip
      refine ev_aload_n eX12_share_56 rfl ?_
      refine ev_lload eX12_share_57 rfl ?_
      refine ev_aload_n eX12_share_59 rfl ?_
      refine ev_getr eX12_share_60 fX12_40 rfl ?_
      refine ev_iload eX12_share_63 rfl ?_
      obtain ⟨z, z1, z2, z3⟩ := hV k (by omega)
      refine ev_laldv (k) eX12_share_65 rfl (by first | rfl | omega) (by omega) (show τ 56 k = (z : Int) by rw [h6 56 (by decide)]; exact z1) ?_
      refine ev_cV2 eX12_share_66 ⟨lX12_235, kX12_plus⟩ rfl rfl (m_plus h3 (x := y) (y := z) h2 z2) ?_
      rintro _ τ2 ⟨u, rfl, u1, u2, rfl⟩
      have hi := sg_iff h4 z3
      rw [hi] at u2
      rw [show bC ((ovr B n ∨ MX < sumF (nm B n) k) ∨ MX < y + z) = bC (ovr B n ∨ MX < sumF (nm B n) (k + 1)) from bI_iff hi]
      refine ev_lstore eX12_share_69 (by decide) ?_
      refine ev_iinc eX12_share_71 rfl (by decide) ?_
      refine ev_goto 50 eX12_share_74 rfl ?_
      refine ih (k := k + 1) (y := u) (by omega) (by omega) u1 (up_s _ _ _ _) (fun q => ?_) (fun j hj => by rw [up_n _ _ hj]; exact h5 j hj) (fun c hc => by rw [up_o _ _ _ hc]; exact h6 c hc)
      have hn1 : ¬ (ovr B n ∨ MX < sumF (nm B n) k) := fun z => q (hi.1 (Or.inl z))
      rw [u2 q, h4 hn1, z3 (fun z => hn1 (Or.inl z))]
      rfl
set_option maxRecDepth 20000 in
theorem m_share {d : Nat} {σ : St} {B : Bok} (hM : MBk σ 49 B) (hZ : OkZ B) {x n e : Int} (hx : -2147483648 ≤ x ∧ x ≤ 2147483647) (hn : -2147483648 ≤ n ∧ n ≤ 2147483647) (he : -2147483648 ≤ e ∧ e ≤ 2147483647) : Ct (d + 3) mX12_share [.ref 45, vi x, vi n, vi e] σ (fun r τ => (¬ ((0 ≤ x ∧ x < B 2) ∧ (0 ≤ n ∧ n ≤ 60) ∧ 0 ≤ e ∧ e ≤ 1) → some (vl (-1000001)) = r ∧ σ = τ) ∧ (((0 ≤ x ∧ x < B 2) ∧ (0 ≤ n ∧ n ≤ 60) ∧ 0 ≤ e ∧ e ≤ 1) ∧ (ovr B n.toNat ∨ MX < nmS B n.toNat) → some (vl (-1000016)) = r ∧ τ 45 0 = 6 ∧ Mnf σ τ) ∧ (((0 ≤ x ∧ x < B 2) ∧ (0 ≤ n ∧ n ≤ 60) ∧ 0 ≤ e ∧ e ≤ 1) ∧ ¬ (ovr B n.toNat ∨ MX < nmS B n.toNat) → some (vl (lowT (nm B n.toNat x.toNat) (nmS B n.toNat) e.toNat)) = r ∧ τ 45 0 = 0 ∧ Mnf σ τ)) := by
  refine ct_of hX12_share (Nat.le_of_ble_eq_true rfl) ?_
  have hf := hZ.wf
  have h7 := hf.2.1
  have h8 := hf.2.2.1
  have hMX := MXe
  refine ev_aload_n eX12_share_0 rfl ?_
  refine ev_iload_n eX12_share_1 rfl ?_
  refine ev_cV1 eX12_share_2 ⟨lX12_182, kX12_isSort⟩ rfl rfl (m_isSort hM hZ.wf (x := x) (by omega)) ?_
  rintro _ _ ⟨rfl, rfl⟩
  refine ev_ifb_eq 30 eX12_share_5 rfl (fun h5 => ?_) (fun h5 => ?_)
  · skip
    refine ev_ldc2 eX12_share_30 qX12_220 ?_
    refine ev_lret eX12_share_33 rfl ?_
    refine ⟨fun hc => ?_, fun hc => ?_, fun hc => ?_⟩ <;> first | (exact absurd hc.1 (by omega)) | (exact ⟨rfl, rfl⟩)
  · skip
    refine ev_iload_n eX12_share_8 rfl ?_
    refine ev_i2l eX12_share_9 (by omega) ?_
    refine ev_lconst 0 eX12_share_10 rfl ?_
    refine ev_ldc2 eX12_share_11 qX12_239 ?_
    refine ev_cS3 eX12_share_14 ⟨lX12_70, kX12_in⟩ rfl (m_in (a := n) (b := 0) (c := 60) (by omega) (by omega) (by omega)) ?_
    rintro _ _ ⟨rfl, rfl⟩
    refine ev_ifb_eq 30 eX12_share_17 rfl (fun h17 => ?_) (fun h17 => ?_)
    · skip
      refine ev_ldc2 eX12_share_30 qX12_220 ?_
      refine ev_lret eX12_share_33 rfl ?_
      refine ⟨fun hc => ?_, fun hc => ?_, fun hc => ?_⟩ <;> first | (exact absurd hc.1 (by omega)) | (exact ⟨rfl, rfl⟩)
    · skip
      refine ev_iload_n eX12_share_20 rfl ?_
      refine ev_i2l eX12_share_21 (by omega) ?_
      refine ev_lconst 0 eX12_share_22 rfl ?_
      refine ev_lconst 1 eX12_share_23 rfl ?_
      refine ev_cS3 eX12_share_24 ⟨lX12_70, kX12_in⟩ rfl (m_in (a := e) (b := 0) (c := 1) (by omega) (by omega) (by omega)) ?_
      rintro _ _ ⟨rfl, rfl⟩
      refine ev_ifb_ne 34 eX12_share_27 rfl (fun h27 => ?_) (fun h27 => ?_)
      · skip
        have hO := hZ.ok (by omega)
        obtain ⟨x, rfl⟩ : ∃ q : Nat, x = q := ⟨x.toNat, by omega⟩
        obtain ⟨n, rfl⟩ : ∃ q : Nat, n = q := ⟨n.toNat, by omega⟩
        obtain ⟨e, rfl⟩ : ∃ q : Nat, e = q := ⟨e.toNat, by omega⟩
        rw [Int.toNat_natCast, Int.toNat_natCast, Int.toNat_natCast]
        refine ev_aload_n eX12_share_34 rfl ?_
        refine ev_iconst eX12_share_35 ?_
        refine ev_puti eX12_share_36 pX12_63 rfl ?_
        refine ev_aload_n eX12_share_39 rfl ?_
        refine ev_iload_n eX12_share_40 rfl ?_
        refine ev_cV1 eX12_share_41 ⟨lX12_241, kX12_layNumbers⟩ rfl rfl (m_layNumbers (hM.of (up_o _ _ _ (by decide))) hO (n := n) (by omega)) ?_
        rintro _ τ ⟨rfl, ⟨g1, g2⟩, g3⟩
        have hst : τ 45 0 = 0 := by rw [g3.1 0 (by decide), up_s]
        have hmf := g3.m
        refine ev_lconst 0 eX12_share_44 rfl ?_
        refine ev_lstore eX12_share_45 (by decide) ?_
        refine ev_iconst eX12_share_47 ?_
        refine ev_istore eX12_share_48 (by decide) ?_
        refine m_sh_l (ρ := τ) (B := B) (n := n) (d := d + 2) g2 (fun ν y k1 k2 k3 k4 k5 => ?_) 5 (k := 0) (y := 0) (by omega) (by omega) (by omega) (by rw [g1]; exact bI_iff ⟨Or.inl, fun z => z.resolve_right (by show ¬ MX < 0; omega)⟩) (fun _ => rfl) (fun _ _ => rfl) (fun _ _ => rfl)
        rw [nm_4 hO n] at k2 k3
        refine ev_aload_n eX12_share_77 rfl ?_
        refine ev_getiv eX12_share_78 fX12_229 rfl k2 ?_
        refine ev_ifb_eq 94 eX12_share_81 rfl (fun hq => ?_) (fun hq => ?_)
        · skip
          refine ev_aload_n eX12_share_94 rfl ?_
          refine ev_getr eX12_share_95 fX12_40 rfl ?_
          refine ev_iload_n eX12_share_98 rfl ?_
          obtain ⟨z, z1, z2, z3⟩ := g2 x (by omega)
          have hnq : ¬ ovr B n := fun z => hq (Or.inl z)
          have hle : nmS B n ≤ MX := by
            rcases Nat.lt_or_ge MX (nmS B n) with q | q
            · exact absurd (Or.inr q) hq
            · exact q
          have hpo := nmS_pos hO n
          have hy := k3 hq
          subst hy
          rw [z3 hnq] at z1 z2
          refine ev_laldv (x) eX12_share_99 rfl (by first | rfl | omega) (by omega) (show ν 56 x = ((nm B n x : Nat) : Int) by rw [k5 56 (by decide)]; exact z1) ?_
          refine ev_lload eX12_share_100 rfl ?_
          refine ev_iload_n eX12_share_102 rfl ?_
          refine ev_cS3 eX12_share_103 ⟨lX12_244, kX12_lowest⟩ rfl (m_lowest z2 hle hpo (e := e) (by omega)) ?_
          rintro _ _ ⟨rfl, rfl⟩
          refine ev_lret eX12_share_106 rfl ?_
          exact ⟨fun hc => absurd hc (by omega), fun hc => absurd hc.2 hq, fun hc => ⟨rfl, by rw [k4 0 (by decide)]; exact hst, hmf.tr k4 k5⟩⟩
        · skip
          refine ev_aload_n eX12_share_84 rfl ?_
          refine ev_bipush eX12_share_85 rfl ?_
          refine ev_cV1 eX12_share_87 ⟨lX12_81, kX12_finding⟩ rfl rfl m_finding ?_
          rintro _ _ ⟨rfl, rfl⟩
          refine ev_i2l eX12_share_90 (by omega) ?_
          refine ev_goto 106 eX12_share_91 rfl ?_
          refine ev_lret eX12_share_106 rfl ?_
          exact ⟨fun hc => absurd hc (by omega), fun hc => ⟨rfl, up_s _ _ _ _, (hmf.tr k4 k5).up _⟩, fun hc => absurd hq hc.2⟩
      · skip
        refine ev_ldc2 eX12_share_30 qX12_220 ?_
        refine ev_lret eX12_share_33 rfl ?_
        refine ⟨fun hc => ?_, fun hc => ?_, fun hc => ?_⟩ <;> first | (exact absurd hc.1 (by omega)) | (exact ⟨rfl, rfl⟩)
set_option maxRecDepth 20000 in
theorem m_al_i {d : Nat} {ρ : St} {B : Bok} (hM : MBk ρ 49 B) (hf : Wf B) {n e s : Nat} (he : e < 2) (hs : s < B 2) {post : Option Value → St → Prop} (hV : Vx ρ 56 (ovr B n) (nm B n)) (hk : ∀ (τ : St) (y : Nat) (u : Int), y ≤ MX → τ 45 23 = bC (ovr B n ∨ MX < sumF (fun q => nm B n q * ln B q e) (s + 1)) → (¬ (ovr B n ∨ MX < sumF (fun q => nm B n q * ln B q e) (s + 1)) → y = sumF (fun q => nm B n q * ln B q e) (s + 1)) → (∀ j, j ≠ 23 → τ 45 j = ρ 45 j) → (∀ c, c ≠ 45 → τ c = ρ c) → Ev (d + 2) mX12_all 100 [.ref 45, vi n, vi e, vl y, .null, vi s, vi u] [] τ post) : ∀ (fu : Nat) {k y : Nat} {τ : St}, ln B s e - k < fu → k ≤ ln B s e → y ≤ MX → τ 45 23 = bC (ovr B n ∨ MX < sumF (fun q => nm B n q * ln B q e) s + nm B n s * k) → (¬ (ovr B n ∨ MX < sumF (fun q => nm B n q * ln B q e) s + nm B n s * k) → y = sumF (fun q => nm B n q * ln B q e) s + nm B n s * k) → (∀ j, j ≠ 23 → τ 45 j = ρ 45 j) → (∀ c, c ≠ 45 → τ c = ρ c) → Ev (d + 2) mX12_all 66 [.ref 45, vi n, vi e, vl y, .null, vi s, vi k] [] τ (post) := by
  intro fu
  induction fu with
  | zero => intros; omega
  | succ fu ih =>
    intro k y τ hm h1 h2 h3 h4 h5 h6
    have hMX := MXe
    have h7 := hf.2.1
    have hll := ln_le hf (s := s) (by omega) he
    refine ev_iload eX12_all_66 rfl ?_
    refine ev_aload_n eX12_all_68 rfl ?_
    refine ev_getr eX12_all_69 fX12_19 rfl ?_
    refine ev_iload eX12_all_72 rfl ?_
    refine ev_iload_n eX12_all_74 rfl ?_
    refine ev_cS3 eX12_all_75 ⟨lX12_226, kX12_lengthOf⟩ rfl (m_lengthOf (Or.inl rfl) (hM.of (h6 49 (by decide))) hf (s := s) (v := e) (by omega) he) ?_
    rintro _ _ ⟨rfl, rfl⟩
    refine ev_icmp_ge 100 eX12_all_78 rfl (by omega) (by omega) (fun h78 => ?_) (fun h78 => ?_)
    · skip
      obtain rfl : k = ln B s e := by omega
      exact hk τ y _ h2 h3 h4 h5 h6
    · skip
      refine ev_aload_n eX12_all_81 rfl ?_
      refine ev_lload_n eX12_all_82 rfl ?_
      refine ev_aload_n eX12_all_83 rfl ?_
      refine ev_getr eX12_all_84 fX12_40 rfl ?_
      refine ev_iload eX12_all_87 rfl ?_
      obtain ⟨z, z1, z2, z3⟩ := hV s (by omega)
      refine ev_laldv (s) eX12_all_89 rfl (by first | rfl | omega) (by omega) (show τ 56 s = (z : Int) by rw [h6 56 (by decide)]; exact z1) ?_
      refine ev_cV2 eX12_all_90 ⟨lX12_235, kX12_plus⟩ rfl rfl (m_plus h3 (x := y) (y := z) h2 z2) ?_
      rintro _ τ2 ⟨u, rfl, u1, u2, rfl⟩
      have hi := sg_iff h4 z3
      rw [Nat.add_assoc, ← Nat.mul_succ] at hi
      rw [hi] at u2
      rw [show bC ((ovr B n ∨ MX < sumF (fun q => nm B n q * ln B q e) s + nm B n s * k) ∨ MX < y + z) = bC (ovr B n ∨ MX < sumF (fun q => nm B n q * ln B q e) s + nm B n s * (k + 1)) from bI_iff hi]
      refine ev_lstore_n eX12_all_93 (by decide) ?_
      refine ev_iinc eX12_all_94 rfl (by decide) ?_
      refine ev_goto 66 eX12_all_97 rfl ?_
      refine ih (k := k + 1) (y := u) (by omega) (by omega) u1 (up_s _ _ _ _) (fun q => ?_) (fun j hj => by rw [up_n _ _ hj]; exact h5 j hj) (fun c hc => by rw [up_o _ _ _ hc]; exact h6 c hc)
      have hn1 := fun z => q (hi.1 (Or.inl z))
      rw [u2 q, h4 hn1, z3 (fun z => hn1 (Or.inl z)), Nat.mul_succ, Nat.add_assoc]
set_option maxRecDepth 20000 in
theorem m_al_s {d : Nat} {ρ : St} {B : Bok} (hM : MBk ρ 49 B) (hf : Wf B) {n e : Nat} (he : e < 2) {post : Option Value → St → Prop} (hV : Vx ρ 56 (ovr B n) (nm B n)) (hk : ∀ (τ : St) (y : Nat) (u : Value), y ≤ MX → τ 45 23 = bC (ovr B n ∨ MX < sumF (fun q => nm B n q * ln B q e) (B 2)) → (¬ (ovr B n ∨ MX < sumF (fun q => nm B n q * ln B q e) (B 2)) → y = sumF (fun q => nm B n q * ln B q e) (B 2)) → (∀ j, j ≠ 23 → τ 45 j = ρ 45 j) → (∀ c, c ≠ 45 → τ c = ρ c) → Ev (d + 2) mX12_all 106 [.ref 45, vi n, vi e, vl y, .null, vi (B 2), u] [] τ post) : ∀ (fu : Nat) {s y : Nat} {u6 : Value} {τ : St}, B 2 - s < fu → s ≤ B 2 → y ≤ MX → τ 45 23 = bC (ovr B n ∨ MX < sumF (fun q => nm B n q * ln B q e) s) → (¬ (ovr B n ∨ MX < sumF (fun q => nm B n q * ln B q e) s) → y = sumF (fun q => nm B n q * ln B q e) s) → (∀ j, j ≠ 23 → τ 45 j = ρ 45 j) → (∀ c, c ≠ 45 → τ c = ρ c) → Ev (d + 2) mX12_all 52 [.ref 45, vi n, vi e, vl y, .null, vi s, u6] [] τ (post) := by
  intro fu
  induction fu with
  | zero => intros; omega
  | succ fu ih =>
    intro s y u6 τ hm h1 h2 h3 h4 h5 h6
    have hMX := MXe
    have h7 := hf.2.1
    refine ev_iload eX12_all_52 rfl ?_
    refine ev_aload_n eX12_all_54 rfl ?_
    refine ev_getr eX12_all_55 fX12_19 rfl ?_
    refine ev_iconst eX12_all_58 ?_
    refine ev_ialdv (0) eX12_all_59 rfl (by first | rfl | omega) (by omega) (show τ 49 0 = (B 2 : Int) by rw [h6 49 (by decide)]; exact hM.S) ?_
    refine ev_icmp_ge 106 eX12_all_60 rfl (by omega) (by omega) (fun h60 => ?_) (fun h60 => ?_)
    · skip
      obtain rfl : s = B 2 := by omega
      exact hk τ y _ h2 h3 h4 h5 h6
    · skip
      refine ev_iconst eX12_all_63 ?_
      refine ev_istore eX12_all_64 (by decide) ?_
      refine m_al_i hM hf he (s := s) (by omega) hV (fun τ y2 u k1 k2 k3 k4 k5 => ?_) (ln B s e + 1) (k := 0) (y := y) (by omega) (by omega) h2 h3 h4 h5 h6
      refine ev_iinc eX12_all_100 rfl (by decide) ?_
      refine ev_goto 52 eX12_all_103 rfl ?_
      exact ih (s := s + 1) (y := y2) (by omega) (by omega) k1 k2 k3 k4 k5
set_option maxRecDepth 20000 in
theorem m_all {d : Nat} {σ : St} {B : Bok} (hM : MBk σ 49 B) (hZ : OkZ B) {n e : Int} (hn : -2147483648 ≤ n ∧ n ≤ 2147483647) (he : -2147483648 ≤ e ∧ e ≤ 2147483647) : Ct (d + 3) mX12_all [.ref 45, vi n, vi e] σ (fun r τ => (B 2 = 0 → some (vl (-1000002)) = r ∧ σ = τ) ∧ (0 < B 2 ∧ ¬ ((0 ≤ n ∧ n ≤ 60) ∧ 0 ≤ e ∧ e ≤ 1) → some (vl (-1000001)) = r ∧ σ = τ) ∧ (0 < B 2 ∧ ((0 ≤ n ∧ n ≤ 60) ∧ 0 ≤ e ∧ e ≤ 1) ∧ (ovr B n.toNat ∨ MX < sumF (fun q => nm B n.toNat q * ln B q e.toNat) (B 2)) → some (vl (-1000016)) = r ∧ τ 45 0 = 6 ∧ Mnf σ τ) ∧ (0 < B 2 ∧ ((0 ≤ n ∧ n ≤ 60) ∧ 0 ≤ e ∧ e ≤ 1) ∧ ¬ (ovr B n.toNat ∨ MX < sumF (fun q => nm B n.toNat q * ln B q e.toNat) (B 2)) → some (vl ((sumF (fun q => nm B n.toNat q * ln B q e.toNat) (B 2) : Nat) : Int)) = r ∧ τ 45 0 = 0 ∧ Mnf σ τ)) := by
  refine ct_of hX12_all (Nat.le_of_ble_eq_true rfl) ?_
  have hf := hZ.wf
  have h7 := hf.2.1
  have h8 := hf.2.2.1
  have hMX := MXe
  refine ev_aload_n eX12_all_0 rfl ?_
  refine ev_cV0 eX12_all_1 ⟨lX12_197, kX12_isThere⟩ rfl rfl (m_isThere hM hZ.wf) ?_
  rintro _ _ ⟨rfl, rfl⟩
  refine ev_ifb_ne 11 eX12_all_4 rfl (fun h4 => ?_) (fun h4 => ?_)
  · skip
    refine ev_iload_n eX12_all_11 rfl ?_
    refine ev_i2l eX12_all_12 (by omega) ?_
    refine ev_lconst 0 eX12_all_13 rfl ?_
    refine ev_ldc2 eX12_all_14 qX12_239 ?_
    refine ev_cS3 eX12_all_17 ⟨lX12_70, kX12_in⟩ rfl (m_in (a := n) (b := 0) (c := 60) (by omega) (by omega) (by omega)) ?_
    rintro _ _ ⟨rfl, rfl⟩
    refine ev_ifb_eq 33 eX12_all_20 rfl (fun h20 => ?_) (fun h20 => ?_)
    · skip
      refine ev_ldc2 eX12_all_33 qX12_220 ?_
      refine ev_lret eX12_all_36 rfl ?_
      refine ⟨fun hc => absurd hc (by omega), fun hc => ⟨rfl, rfl⟩, fun hc => ?_, fun hc => ?_⟩ <;> (exfalso; have h1 := hc.1; have h2 := hc.2.1; omega)
    · skip
      refine ev_iload_n eX12_all_23 rfl ?_
      refine ev_i2l eX12_all_24 (by omega) ?_
      refine ev_lconst 0 eX12_all_25 rfl ?_
      refine ev_lconst 1 eX12_all_26 rfl ?_
      refine ev_cS3 eX12_all_27 ⟨lX12_70, kX12_in⟩ rfl (m_in (a := e) (b := 0) (c := 1) (by omega) (by omega) (by omega)) ?_
      rintro _ _ ⟨rfl, rfl⟩
      refine ev_ifb_ne 37 eX12_all_30 rfl (fun h30 => ?_) (fun h30 => ?_)
      · skip
        have hO := hZ.ok (by omega)
        obtain ⟨n, rfl⟩ : ∃ q : Nat, n = q := ⟨n.toNat, by omega⟩
        obtain ⟨e, rfl⟩ : ∃ q : Nat, e = q := ⟨e.toNat, by omega⟩
        rw [Int.toNat_natCast, Int.toNat_natCast]
        refine ev_aload_n eX12_all_37 rfl ?_
        refine ev_iconst eX12_all_38 ?_
        refine ev_puti eX12_all_39 pX12_63 rfl ?_
        refine ev_aload_n eX12_all_42 rfl ?_
        refine ev_iload_n eX12_all_43 rfl ?_
        refine ev_cV1 eX12_all_44 ⟨lX12_241, kX12_layNumbers⟩ rfl rfl (m_layNumbers (hM.of (up_o _ _ _ (by decide))) hO (n := n) (by omega)) ?_
        rintro _ τ ⟨rfl, ⟨g1, g2⟩, g3⟩
        have hst : τ 45 0 = 0 := by rw [g3.1 0 (by decide), up_s]
        have hmf := g3.m
        refine ev_lconst 0 eX12_all_47 rfl ?_
        refine ev_lstore_n eX12_all_48 (by decide) ?_
        refine ev_iconst eX12_all_49 ?_
        refine ev_istore eX12_all_50 (by decide) ?_
        refine m_al_s (ρ := τ) (B := B) (n := n) (e := e) (d := d + 1) (g3.bk (hM.of (up_o _ _ _ (by decide)))) hf (by omega) g2 (fun ν y u k1 k2 k3 k4 k5 => ?_) 5 (s := 0) (y := 0) (by omega) (by omega) (by omega) (by rw [g1]; exact bI_iff ⟨Or.inl, fun z => z.resolve_right (by show ¬ MX < 0; omega)⟩) (fun _ => rfl) (fun _ _ => rfl) (fun _ _ => rfl)
        refine ev_aload_n eX12_all_106 rfl ?_
        refine ev_getiv eX12_all_107 fX12_229 rfl k2 ?_
        refine ev_ifb_eq 123 eX12_all_110 rfl (fun hq => ?_) (fun hq => ?_)
        · skip
          have hy := k3 hq
          subst hy
          refine ev_lload_n eX12_all_123 rfl ?_
          refine ev_lret eX12_all_124 rfl ?_
          exact ⟨fun hc => absurd hc (by omega), fun hc => absurd hc.2 (by omega), fun hc => absurd hc.2.2 hq, fun hc => ⟨rfl, by rw [k4 0 (by decide)]; exact hst, hmf.tr k4 k5⟩⟩
        · skip
          refine ev_aload_n eX12_all_113 rfl ?_
          refine ev_bipush eX12_all_114 rfl ?_
          refine ev_cV1 eX12_all_116 ⟨lX12_81, kX12_finding⟩ rfl rfl m_finding ?_
          rintro _ _ ⟨rfl, rfl⟩
          refine ev_i2l eX12_all_119 (by omega) ?_
          refine ev_goto 124 eX12_all_120 rfl ?_
          refine ev_lret eX12_all_124 rfl ?_
          exact ⟨fun hc => absurd hc (by omega), fun hc => absurd hc.2 (by omega), fun hc => ⟨rfl, up_s _ _ _ _, (hmf.tr k4 k5).up _⟩, fun hc => absurd hq hc.2.2⟩
      · skip
        refine ev_ldc2 eX12_all_33 qX12_220 ?_
        refine ev_lret eX12_all_36 rfl ?_
        refine ⟨fun hc => absurd hc (by omega), fun hc => ⟨rfl, rfl⟩, fun hc => ?_, fun hc => ?_⟩ <;> (exfalso; have h1 := hc.1; have h2 := hc.2.1; omega)
  · skip
    refine ev_ldc2 eX12_all_7 qX12_218 ?_
    refine ev_lret eX12_all_10 rfl ?_
    refine ⟨fun hc => ⟨rfl, rfl⟩, fun hc => ?_, fun hc => ?_, fun hc => ?_⟩ <;> (exfalso; have h1 := hc.1; omega)
