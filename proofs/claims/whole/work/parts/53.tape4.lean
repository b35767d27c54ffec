/-! Tape: a sort, all sorts, the row -/
theorem n10 : ¬ (1 : Nat) = 0 := by decide
theorem n30 : ¬ (3 : Nat) = 0 := by decide
theorem sNum_B (tp : Nat → Nat) (n lo hi j : Nat) (q : Ps) {k : Nat} (hk : k ≠ j) : (sNum tp n lo hi j q).2.2 k = q.2.2 k := by
  by_cases h : q.1 = 0
  · rcases sNum_c tp n lo hi j h with ⟨_, e⟩ | ⟨_, _, e⟩ | ⟨_, _, e⟩
    · rw [e]
    · rw [e]
    · rw [e]; exact upB_n _ _ hk
  · rw [sNum_f h]
theorem sByte_z {tp : Nat → Nat} {n : Nat} {c : Int} {q : Ps} (h : (sByte tp n c q).1 = 0) : q.1 = 0 := by
  by_cases e : q.1 = 0
  · exact e
  · rw [sByte_f e] at h; exact h
theorem sNum_z {tp : Nat → Nat} {n lo hi j : Nat} {q : Ps} (h : (sNum tp n lo hi j q).1 = 0) : q.1 = 0 := by
  by_cases e : q.1 = 0
  · exact e
  · rw [sNum_f e] at h; exact h
theorem sWord_z {tp : Nat → Nat} {n lb zc m : Nat} {q : Ps} (h : (sWord tp n lb zc m q).1 = 0) : q.1 = 0 := by
  by_cases e : q.1 = 0
  · exact e
  · rw [sWord_f e] at h; exact h
theorem sTl_o {tp : Nat → Nat} {n lb zc j : Nat} (hz : j ≠ zc) : ∀ m k a B, (∀ i, k ≤ i → i < k + m → j ≠ lb + i) → (sTl tp n lb zc m k a B).2 j = B j := by
  intro m
  induction m with
  | zero => intros; rfl
  | succ m ih =>
    intro k a B h
    by_cases e : isT tp n a
    · rw [sTl_t e, ih (k + 1) (a + 1) _ (fun i h1 h2 => h i (by omega) (by omega)), upB_n _ _ hz, upB_n _ _ (h k (by omega) (by omega))]
    · rw [sTl_f e]
theorem sTl_pos {tp : Nat → Nat} {n lb zc : Nat} : ∀ m k a B, 1 ≤ B zc → 1 ≤ (sTl tp n lb zc m k a B).2 zc := by
  intro m
  induction m with
  | zero => intro k a B h; exact h
  | succ m ih =>
    intro k a B h
    by_cases e : isT tp n a
    · rw [sTl_t e]; exact ih _ _ _ (by rw [upB_s]; omega)
    · rw [sTl_f e]; exact h
theorem sWord_o {tp : Nat → Nat} {n lb zc m j : Nat} {q : Ps} (hz : j ≠ zc) (h : ∀ i, i < m → j ≠ lb + i) : (sWord tp n lb zc m q).2.2 j = q.2.2 j := by
  by_cases e : q.1 = 0
  · by_cases e2 : isT tp n q.2.1
    · rw [sWord_t e e2]; exact sTl_o hz m 0 _ _ (fun i _ h2 => h i (by omega))
    · rw [sWord_n e e2]
  · rw [sWord_f e]
theorem sWord_p {tp : Nat → Nat} {n lb zc m : Nat} {q : Ps} (h : (sWord tp n lb zc (m + 1) q).1 = 0) : 1 ≤ (sWord tp n lb zc (m + 1) q).2.2 zc := by
  have e := sWord_z h
  by_cases e2 : isT tp n q.2.1
  · rw [sWord_t e e2]
    show 1 ≤ (sTl tp n lb zc (m + 1) 0 q.2.1 q.2.2).2 zc
    rw [sTl_t e2]
    exact sTl_pos _ _ _ _ (by rw [upB_s]; omega)
  · rw [sWord_n e e2] at h; exact absurd h (by simp)
noncomputable def sW (tp : Nat → Nat) (n s : Nat) (q : Ps) : Ps := sByte tp n 59 (sWord tp n (20 + 4 * s) (16 + s) 4 q)
noncomputable def sP (tp : Nat → Nat) (n s : Nat) (q : Ps) : Ps := sW tp n s (sByte tp n 44 (sNum tp n 0 9 (8 + 2 * s + 1) (sByte tp n 44 (sNum tp n 0 9 (8 + 2 * s + 0) q))))
theorem sW_f {tp : Nat → Nat} {n s : Nat} {q : Ps} (h : q.1 ≠ 0) : sW tp n s q = q := by unfold sW; rw [sWord_f h, sByte_f h]
def nQ (tp : Nat → Nat) (n : Nat) (q : Ps) : Ps := (0, q.2.1 + 1, upB (upB q.2.2 2 (q.2.2 2 + 1)) (4 + q.2.2 2) (toldN (nx tp n q.2.1)))
theorem sSort_e (tp : Nat → Nat) (n : Nat) (q : Ps) : sSort tp n q = if q.1 ≠ 0 then q else if toldN (nx tp n q.2.1) = 0 then (1, q.2.1, q.2.2) else if 4 ≤ q.2.2 2 then (3, q.2.1, q.2.2) else sP tp n (q.2.2 2) (nQ tp n q) := rfl
theorem RdS_no {ρ τ : St} {tp : Nat → Nat} {n : Nat} {q q' : Ps} (h : RdS ρ τ tp n q) (e : q.1 ≠ 0) (e1 : q'.1 = q.1) (e2 : q'.2.1 = q.2.1) : RdS ρ τ tp n q' := ⟨h.1, by rw [e2]; exact h.2.1, by rw [e1]; exact h.2.2.1, by rw [e2]; exact h.2.2.2.1, fun z => absurd (e1 ▸ z) e, h.2.2.2.2.2⟩
theorem Wf.sm {B : Bok} (h : Wf B) : Sm B := h.1
set_option maxRecDepth 20000 in
theorem c_ts_e {d : Nat} {σ : St} {u2 u4 : Int} {s : Nat} (hs : s < 4) {ρ : St} {tp : Nat → Nat} {n i a : Nat} {B : Bok} {Q : Ps} (hQ : Q.1 = 0) (hR : RdS ρ σ tp n (0, a, B)) (h2 : (a, B) = sTl tp n (20 + 4 * s) (16 + s) 4 0 Q.2.1 Q.2.2) (hi : i ≤ 8) (h1 : B (16 + s) = i) (h3 : 0 < i → isT tp n Q.2.1) (h4 : i = 0 → ¬ isT tp n a ∧ a = Q.2.1) : Ev (d + 2) mX10_takeSort 131 [.ref 2, .ref 5, vi u2, vi s, vi u4] [] σ (fun r τ => some (vi (bC ((sW tp n s Q).1 = 0))) = r ∧ RdS ρ τ tp n (sW tp n s Q)) := by
  have hB : BkC σ 18 B := (hR.2.2.2.2.1 rfl).1
  have hW : Wf B := (hR.2.2.2.2.1 rfl).2
  have h1' : ws B s = i := h1
  refine ev_aload_n eX10_takeSort_131 rfl ?_
  refine ev_iload_n eX10_takeSort_132 rfl ?_
  refine ev_cV1 eX10_takeSort_133 ⟨lX10_98, kX0_wordSize⟩ rfl rfl (c_wordSize Bq5 hB hW.sm hs) ?_
  rintro _ _ ⟨rfl, rfl⟩
  refine ev_if_le 148 eX10_takeSort_136 rfl (by omega) (fun h136 => ?_) (fun h136 => ?_)
  · skip
    refine ev_aload_n eX10_takeSort_148 rfl ?_
    refine ev_iconst eX10_takeSort_149 ?_
    refine ev_cV1 eX10_takeSort_150 ⟨lX10_41, kX10_leave⟩ rfl rfl c_tleave ?_
    rintro _ _ ⟨rfl, rfl⟩
    refine ev_zret eX10_takeSort_153 rfl (Or.inl rfl) ?_
    have hz : i = 0 := by omega
    obtain ⟨g1, g2⟩ := h4 hz
    subst g2
    have e : sW tp n s Q = (1, Q.2.1, Q.2.2) := by unfold sW; rw [sWord_n hQ g1, sByte_f n10]
    rw [e]
    exact ⟨congrArg (fun q => some (vi q)) (bI_f n10), RdS_no (RdS_fault (f := 1) hR (by decide)) n10 rfl rfl⟩
  · skip
    refine ev_aload_n eX10_takeSort_139 rfl ?_
    refine ev_bipush eX10_takeSort_140 rfl ?_
    refine ev_cV1 eX10_takeSort_142 ⟨lX10_49, kX10_takeByte⟩ rfl rfl (c_pByte (c := 59) (q := (sWord tp n (20 + 4 * s) (16 + s) 4 Q)) (RdS_q hR (by rw [sWord_t hQ (h3 (by omega)), ← h2])) (by rw [sWord_t hQ (h3 (by omega))]) (by omega)) ?_
    rintro _ τ5 ⟨rfl, r5⟩
    refine ev_goto 153 eX10_takeSort_145 rfl ?_
    refine ev_zret eX10_takeSort_153 rfl (by first | exact Or.inl rfl | exact Or.inr rfl | exact bI01 _) ?_
    exact ⟨rfl, r5⟩
set_option maxRecDepth 20000 in
theorem c_tr_e {d : Nat} {σ : St} {u2 : Int} {ρ : St} {tp : Nat → Nat} {n i a : Nat} {B : Bok} {Q : Ps} (hQ : Q.1 = 0) (hR : RdS ρ σ tp n (0, a, B)) (h2 : (a, B) = sTl tp n (36) (3) 8 0 Q.2.1 Q.2.2) (hi : i ≤ 8) (h1 : B (3) = i) (h3 : 0 < i → isT tp n Q.2.1) (h4 : i = 0 → ¬ isT tp n a ∧ a = Q.2.1) : Ev (d + 2) mX10_takeTheRow 43 [.ref 2, .ref 5, vi u2] [] σ (fun r τ => some (vi (bC ((sByte tp n 59 (sWord tp n 36 3 8 Q)).1 = 0))) = r ∧ RdS ρ τ tp n (sByte tp n 59 (sWord tp n 36 3 8 Q))) := by
  have hB : BkC σ 18 B := (hR.2.2.2.2.1 rfl).1
  have hW : Wf B := (hR.2.2.2.2.1 rfl).2
  have h1' : B 3 = i := h1
  refine ev_aload_n eX10_takeTheRow_43 rfl ?_
  refine ev_cV0 eX10_takeTheRow_44 ⟨lX10_105, kX0_rowSize⟩ rfl rfl (c_rowSize Bq5 hB hW.sm) ?_
  rintro _ _ ⟨rfl, rfl⟩
  refine ev_if_le 59 eX10_takeTheRow_47 rfl (by omega) (fun h47 => ?_) (fun h47 => ?_)
  · skip
    refine ev_aload_n eX10_takeTheRow_59 rfl ?_
    refine ev_iconst eX10_takeTheRow_60 ?_
    refine ev_cV1 eX10_takeTheRow_61 ⟨lX10_41, kX10_leave⟩ rfl rfl c_tleave ?_
    rintro _ _ ⟨rfl, rfl⟩
    refine ev_zret eX10_takeTheRow_64 rfl (Or.inl rfl) ?_
    have hz : i = 0 := by omega
    obtain ⟨g1, g2⟩ := h4 hz
    subst g2
    have e : sByte tp n 59 (sWord tp n 36 3 8 Q) = (1, Q.2.1, Q.2.2) := by rw [sWord_n hQ g1, sByte_f n10]
    rw [e]
    exact ⟨congrArg (fun q => some (vi q)) (bI_f n10), RdS_no (RdS_fault (f := 1) hR (by decide)) n10 rfl rfl⟩
  · skip
    refine ev_aload_n eX10_takeTheRow_50 rfl ?_
    refine ev_bipush eX10_takeTheRow_51 rfl ?_
    refine ev_cV1 eX10_takeTheRow_53 ⟨lX10_49, kX10_takeByte⟩ rfl rfl (c_pByte (c := 59) (q := (sWord tp n (36) (3) 8 Q)) (RdS_q hR (by rw [sWord_t hQ (h3 (by omega)), ← h2])) (by rw [sWord_t hQ (h3 (by omega))]) (by omega)) ?_
    rintro _ τ5 ⟨rfl, r5⟩
    refine ev_goto 64 eX10_takeTheRow_56 rfl ?_
    refine ev_zret eX10_takeTheRow_64 rfl (by first | exact Or.inl rfl | exact Or.inr rfl | exact bI01 _) ?_
    exact ⟨rfl, r5⟩
theorem c_pByteE {d : Nat} {σ : St} {ρ : St} {tp : Nat → Nat} {n : Nat} {q : Ps} (hR : RdS ρ σ tp n q) (hq : q.1 = 0) {c : Int} (hc : 0 ≤ c ∧ c ≤ 255) {q' : Ps} (he : sByte tp n c q = q') : Ct (d + 1) mX10_takeByte [.ref 2, vi c] σ (fun r τ => some (vi (bC (q'.1 = 0))) = r ∧ RdS ρ τ tp n q') := by
  subst he
  exact c_pByte hR hq hc
theorem c_pNumE {d : Nat} {σ : St} {ρ : St} {tp : Nat → Nat} {n : Nat} {q : Ps} (hR : RdS ρ σ tp n q) (hq : q.1 = 0) {lo hi : Nat} (hlo : lo ≤ 9) (hhi : hi ≤ 9) (j : Nat) {q' : Ps} (he : sNum tp n lo hi j q = q') (hj : hi ≤ bnd j) : Ct (d + 1) mX10_takeNumber [.ref 2, vi lo, vi hi] σ (fun r τ => some (vi (bC (q'.1 = 0))) = r ∧ (q'.1 ≠ 0 → RdS ρ τ tp n q') ∧ (q'.1 = 0 → ∃ v : Nat, τ 2 4 = (v : Int) ∧ RdS ρ (up τ 18 j (v : Int)) tp n q')) := by
  subst he
  refine ct_imp (c_pNum hR hq hlo hhi j) (fun r τ h => ⟨h.1, fun z => RdS_no h.2.1 z rfl rfl, fun z => ?_⟩)
  obtain ⟨v, v1, v2, v3, v4⟩ := h.2.2 z
  exact ⟨v, v1, RdS_q (RdS_set (j := j) (x := v) h.2.1 z (by omega)) (by rw [← v4])⟩
set_option maxRecDepth 20000 in
theorem c_ts_it {d : Nat} {σ : St} {ρ : St} {tp : Nat → Nat} {n s v : Nat} {Q A1 A2 : Ps} {u2 : Int} {post : Option Value → St → Prop} (hs : s < 4) (hv : v < 2) (hR : RdS ρ σ tp n Q) (hQ : Q.1 = 0) (e1 : sNum tp n 0 9 (8 + 2 * s + v) Q = A1) (e2 : sByte tp n 44 A1 = A2) (hbad : A2.1 ≠ 0 → ∀ τ, RdS ρ τ tp n A2 → post (some (vi 0)) τ) (hk : ∀ τ, RdS ρ τ tp n A2 → A2.1 = 0 → Ev (d + 2) mX10_takeSort 51 [.ref 2, .ref 5, vi u2, vi s, vi ((v : Int) + 1)] [] τ post) : Ev (d + 2) mX10_takeSort 51 [.ref 2, .ref 5, vi u2, vi s, vi v] [] σ (post) := by
  refine ev_iload eX10_takeSort_51 rfl ?_
  refine ev_iconst eX10_takeSort_53 ?_
  refine ev_icmp_gt 97 eX10_takeSort_54 rfl (by omega) (by omega) (fun h54 => False.elim (by omega)) (fun h54 => ?_)
  refine ev_aload_n eX10_takeSort_57 rfl ?_
  refine ev_iconst eX10_takeSort_58 ?_
  refine ev_bipush eX10_takeSort_59 rfl ?_
  refine ev_cV2 eX10_takeSort_61 ⟨lX10_59, kX10_takeNumber⟩ rfl rfl (c_pNumE (lo := 0) (hi := 9) hR hQ (by omega) (by omega) (8 + 2 * s + v) e1 (by rw [bnd_p hs hv]; omega)) ?_
  rintro _ τ1 ⟨rfl, f1, n1⟩
  refine ev_ifb_ne 69 eX10_takeSort_64 rfl (fun z1 => ?_) (fun z1 => ?_)
  · skip
    obtain ⟨v1, v1a, r1⟩ := n1 z1
    clear n1 f1
    refine ev_aload_n eX10_takeSort_69 rfl ?_
    refine ev_iload_n eX10_takeSort_70 rfl ?_
    refine ev_iload eX10_takeSort_71 rfl ?_
    refine ev_aload_n eX10_takeSort_73 rfl ?_
    refine ev_getiv eX10_takeSort_74 fX10_23 rfl v1a ?_
    refine ev_cV3 eX10_takeSort_77 ⟨lX10_85, kX0_setPart⟩ rfl rfl (c_setPart Bq5 (s := s) (v := v) (x := (v1 : Int)) hs hv) ?_
    rintro _ _ ⟨rfl, rfl⟩
    refine ev_aload_n eX10_takeSort_80 rfl ?_
    refine ev_bipush eX10_takeSort_81 rfl ?_
    refine ev_cV1 eX10_takeSort_83 ⟨lX10_49, kX10_takeByte⟩ rfl rfl (c_pByteE r1 z1 (c := 44) (by omega) e2) ?_
    rintro _ τ2 ⟨rfl, r2⟩
    refine ev_ifb_ne 91 eX10_takeSort_86 rfl (fun z2 => ?_) (fun z2 => ?_)
    · skip
      refine ev_iinc eX10_takeSort_91 rfl (by decide) ?_
      refine ev_goto 51 eX10_takeSort_94 rfl ?_
      exact hk _ r2 z2
    · skip
      refine ev_iconst eX10_takeSort_89 ?_
      refine ev_zret eX10_takeSort_90 rfl (Or.inl rfl) ?_
      exact hbad z2 _ r2
  · skip
    refine ev_iconst eX10_takeSort_67 ?_
    refine ev_zret eX10_takeSort_68 rfl (Or.inl rfl) ?_
    rw [sByte_f z1] at e2; subst e2
    exact hbad z1 _ (f1 z1)
set_option maxRecDepth 20000 in
theorem c_ts_w {d : Nat} {σ : St} {ρ : St} {tp : Nat → Nat} {n s : Nat} {Q : Ps} {u2 : Int} (hs : s < 4) (hR : RdS ρ σ tp n Q) (hQ : Q.1 = 0) (hc : Q.2.2 (16 + s) = 0) : Ev (d + 2) mX10_takeSort 51 [.ref 2, .ref 5, vi u2, vi s, vi (((1 : Nat) : Int) + 1)] [] σ (fun r τ => some (vi (bC ((sW tp n s Q).1 = 0))) = r ∧ RdS ρ τ tp n (sW tp n s Q)) := by
  refine ev_iload eX10_takeSort_51 rfl ?_
  refine ev_iconst eX10_takeSort_53 ?_
  refine ev_icmp_gt 97 eX10_takeSort_54 rfl (by omega) (by omega) (fun h54 => ?_) (fun h54 => False.elim (by omega))
  refine ev_iconst eX10_takeSort_97 ?_
  refine ev_istore eX10_takeSort_98 (by decide) ?_
  exact c_tsl (s := s) (u3 := 0) (T0 := isT tp n Q.2.1) (R := sTl tp n (20 + 4 * s) (16 + s) 4 0 Q.2.1 Q.2.2) (a0 := Q.2.1) hs (fun τ i a B k1 k2 k3 k4 k5 k6 => c_ts_e (i := i) hs hQ k2 k3 (by omega) k4 k5 k6) 5 (i := 0) (a := Q.2.1) (B := Q.2.2) (by omega) (by omega) (RdS_q hR (by rw [← hQ])) rfl hc (by omega) (fun _ => ⟨rfl, id⟩)
theorem c_ts_p {d : Nat} {σ : St} {ρ : St} {tp : Nat → Nat} {n s : Nat} {Q : Ps} {u2 : Int} (hs : s < 4) (hR : RdS ρ σ tp n Q) (hQ : Q.1 = 0) (hc : Q.2.2 (16 + s) = 0) : Ev (d + 2) mX10_takeSort 51 [.ref 2, .ref 5, vi u2, vi s, vi 0] [] σ (fun r τ => some (vi (bC ((sP tp n s Q).1 = 0))) = r ∧ RdS ρ τ tp n (sP tp n s Q)) := by
  generalize hP : sP tp n s Q = R
  unfold sP at hP
  generalize e1 : sNum tp n 0 9 (8 + 2 * s + 0) Q = A1 at hP
  generalize e2 : sByte tp n 44 A1 = A2 at hP
  generalize e3 : sNum tp n 0 9 (8 + 2 * s + 1) A2 = A3 at hP
  generalize e4 : sByte tp n 44 A3 = A4 at hP
  refine c_ts_it (v := 0) hs (by omega) hR hQ e1 e2 (fun z τ r => ?_) (fun τ r z => ?_)
  · rw [sNum_f z] at e3; subst e3
    rw [sByte_f z] at e4; subst e4
    rw [sW_f z] at hP; subst hP
    exact ⟨congrArg (fun q => some (vi q)) (bI_f z), r⟩
  · refine c_ts_it (v := 1) hs (by omega) r z e3 e4 (fun z τ r => ?_) (fun τ r z4 => ?_)
    · rw [sW_f z] at hP; subst hP
      exact ⟨congrArg (fun q => some (vi q)) (bI_f z), r⟩
    · subst hP
      exact c_ts_w hs r z4 (by rw [← e4, sByte_B, ← e3, sNum_B _ _ _ _ _ _ (by omega), ← e2, sByte_B, ← e1, sNum_B _ _ _ _ _ _ (by omega), hc])
set_option maxRecDepth 20000 in
theorem c_takeSort {d : Nat} {σ : St} {ρ : St} {tp : Nat → Nat} {n : Nat} {q : Ps} (hR : RdS ρ σ tp n q) (hq : q.1 = 0) (hcl : ∀ k, q.2.2 2 ≤ k → k < 4 → q.2.2 (16 + k) = 0) : Ct (d + 2) mX10_takeSort [.ref 2, .ref 5] σ (fun r τ => some (vi (bC ((sSort tp n q).1 = 0))) = r ∧ RdS ρ τ tp n (sSort tp n q)) := by
  refine ct_of hX10_takeSort (Nat.le_of_ble_eq_true rfl) ?_
  refine ev_aload_n eX10_takeSort_0 rfl ?_
  obtain ⟨hT, ha, hfz, han, hBk, hfr⟩ := id hR
  obtain ⟨hB, hWf⟩ := hBk hq
  have hxr := nx_r (fun i hi => (hT.2.2 i hi).1) q.2.1
  have ht5 := toldN_le (nx tp n q.2.1)
  refine ev_cV0 eX10_takeSort_1 ⟨lX10_67, kX10_next⟩ rfl rfl (c_tnext hT ha han) ?_
  rintro _ _ ⟨rfl, rfl⟩
  refine ev_cS1 eX10_takeSort_4 ⟨lX10_74, kX4_toldBy⟩ rfl (c_toldBy hxr) ?_
  rintro _ _ ⟨rfl, rfl⟩
  refine ev_istore_n eX10_takeSort_7 (by decide) ?_
  refine ev_iload_n eX10_takeSort_8 rfl ?_
  refine ev_if_ne 18 eX10_takeSort_9 rfl (by omega) (fun ht => ?_) (fun ht => ?_)
  · skip
    refine ev_aload_n eX10_takeSort_18 rfl ?_
    have hb4 := hWf.2.1
    refine ev_cV0 eX10_takeSort_19 ⟨lX10_79, kX0_sortCount⟩ rfl rfl (c_sortCount Bq5 hB hWf.sm) ?_
    rintro _ _ ⟨rfl, rfl⟩
    refine ev_iconst eX10_takeSort_22 ?_
    refine ev_icmp_lt 32 eX10_takeSort_23 rfl (by omega) (by omega) (fun h4 => ?_) (fun h4 => ?_)
    · skip
      refine ev_aload_n eX10_takeSort_32 rfl ?_
      refine ev_dup eX10_takeSort_33 rfl ?_
      refine ev_getiv eX10_takeSort_34 fX10_17 rfl ha ?_
      refine ev_iconst eX10_takeSort_37 ?_
      refine ev_iadd eX10_takeSort_38 ?_
      refine ev_puti eX10_takeSort_39 pX10_17 rfl ?_
      refine ev_aload_n eX10_takeSort_42 rfl ?_
      refine ev_iload_n eX10_takeSort_43 rfl ?_
      refine ev_cV1 eX10_takeSort_44 ⟨lX10_82, kX0_addSort⟩ rfl rfl (c_addSort Bq5 (z := q.2.2 2) (by rw [up_o _ _ _ (by decide)]; exact hB 2 (by omega)) (by omega)) ?_
      rintro _ _ ⟨rfl, rfl⟩
      refine ev_istore_n eX10_takeSort_47 (by decide) ?_
      refine ev_iconst eX10_takeSort_48 ?_
      refine ev_istore eX10_takeSort_49 (by decide) ?_
      have ha' : q.2.1 < n := by
        by_cases e : q.2.1 < n
        · exact e
        · exfalso
          have e2 : nx tp n q.2.1 = -1 := if_neg e
          rw [e2] at ht
          exact ht rfl
      have e : sSort tp n q = sP tp n (q.2.2 2) (nQ tp n q) := by rw [sSort_e, if_neg (by omega), if_neg (by omega), if_neg (by omega)]
      rw [e]
      refine c_ts_p (by omega) ?_ rfl ?_
      · exact RdS_set (j := 4 + q.2.2 2) (x := toldN (nx tp n q.2.1)) (RdS_set (j := 2) (x := q.2.2 2 + 1) (RdS_at (B := q.2.2) (RdS_q hR (by rw [← hq])) ha') rfl (by show q.2.2 2 + 1 ≤ 4; omega)) rfl (by rw [bnd_k (by omega)]; exact ht5)
      · show upB (upB q.2.2 2 (q.2.2 2 + 1)) (4 + q.2.2 2) (toldN (nx tp n q.2.1)) (16 + q.2.2 2) = 0
        rw [upB_n _ _ (by omega), upB_n _ _ (by omega)]
        exact hcl _ (Nat.le_refl _) (by omega)
    · skip
      refine ev_aload_n eX10_takeSort_26 rfl ?_
      refine ev_iconst eX10_takeSort_27 ?_
      refine ev_cV1 eX10_takeSort_28 ⟨lX10_41, kX10_leave⟩ rfl rfl c_tleave ?_
      rintro _ _ ⟨rfl, rfl⟩
      refine ev_zret eX10_takeSort_31 rfl (Or.inl rfl) ?_
      have e : sSort tp n q = (3, q.2.1, q.2.2) := by rw [sSort_e, if_neg (by omega), if_neg (by omega), if_pos (by omega)]
      rw [e]
      exact ⟨congrArg (fun q => some (vi q)) (bI_f n30), RdS_fault (f := 3) hR (by decide)⟩
  · skip
    refine ev_aload_n eX10_takeSort_12 rfl ?_
    refine ev_iconst eX10_takeSort_13 ?_
    refine ev_cV1 eX10_takeSort_14 ⟨lX10_41, kX10_leave⟩ rfl rfl c_tleave ?_
    rintro _ _ ⟨rfl, rfl⟩
    refine ev_zret eX10_takeSort_17 rfl (Or.inl rfl) ?_
    have e : sSort tp n q = (1, q.2.1, q.2.2) := by rw [sSort_e, if_neg (by omega), if_pos (by omega)]
    rw [e]
    exact ⟨congrArg (fun q => some (vi q)) (bI_f n10), RdS_fault (f := 1) hR (by decide)⟩
/-- what a text's reading keeps of a new book -/
def Cln (B : Bok) : Prop := B 3 = 0 ∧ (∀ k, B 2 ≤ k → k < 4 → B (16 + k) = 0) ∧ B 2 ≤ 4 ∧ ∀ s, s < B 2 → 1 ≤ bk B s ∧ 1 ≤ ws B s
theorem sSort_cl {tp : Nat → Nat} {n : Nat} {q : Ps} (h : Cln q.2.2) (hz : (sSort tp n q).1 = 0) : Cln (sSort tp n q).2.2 ∧ (sSort tp n q).2.2 2 = q.2.2 2 + 1 := by
  obtain ⟨h1, h2, h3, h4⟩ := h
  rw [sSort_e] at hz ⊢
  by_cases e1 : q.1 ≠ 0
  · rw [if_pos e1] at hz; exact absurd hz e1
  · rw [if_neg e1] at hz ⊢
    by_cases e2 : toldN (nx tp n q.2.1) = 0
    · rw [if_pos e2] at hz; exact absurd hz (by simp)
    · rw [if_neg e2] at hz ⊢
      by_cases e3 : 4 ≤ q.2.2 2
      · rw [if_pos e3] at hz; exact absurd hz (by simp)
      · rw [if_neg e3] at hz ⊢
        have ho : ∀ j, j ≠ 16 + q.2.2 2 → (∀ i, i < 4 → j ≠ 20 + 4 * q.2.2 2 + i) → j ≠ 8 + 2 * q.2.2 2 + 1 → j ≠ 8 + 2 * q.2.2 2 + 0 → (sP tp n (q.2.2 2) (nQ tp n q)).2.2 j = (nQ tp n q).2.2 j := by
          intro j a1 a2 a3 a4
          unfold sP sW
          rw [sByte_B, sWord_o a1 a2, sByte_B, sNum_B _ _ _ _ _ _ a3, sByte_B, sNum_B _ _ _ _ _ _ a4]
        have hw : 1 ≤ (sP tp n (q.2.2 2) (nQ tp n q)).2.2 (16 + q.2.2 2) := by
          unfold sP sW at hz ⊢
          rw [sByte_B]
          exact sWord_p (m := 3) (sByte_z hz)
        have hn2 : (nQ tp n q).2.2 2 = q.2.2 2 + 1 := by
          show upB (upB q.2.2 2 (q.2.2 2 + 1)) (4 + q.2.2 2) (toldN (nx tp n q.2.1)) 2 = _
          rw [upB_n _ _ (by omega), upB_s]
        have hnk : (nQ tp n q).2.2 (4 + q.2.2 2) = toldN (nx tp n q.2.1) := upB_s _ _ _
        have hno : ∀ j, j ≠ 2 → j ≠ 4 + q.2.2 2 → (nQ tp n q).2.2 j = q.2.2 j := fun j a1 a2 => by
          show upB (upB q.2.2 2 (q.2.2 2 + 1)) (4 + q.2.2 2) (toldN (nx tp n q.2.1)) j = _
          rw [upB_n _ _ a2, upB_n _ _ a1]
        have g2 : (sP tp n (q.2.2 2) (nQ tp n q)).2.2 2 = q.2.2 2 + 1 := by rw [ho 2 (by omega) (by omega) (by omega) (by omega), hn2]
        refine ⟨⟨?_, ?_, ?_, ?_⟩, g2⟩
        · rw [ho 3 (by omega) (by omega) (by omega) (by omega), hno 3 (by omega) (by omega), h1]
        · intro k k1 k2
          rw [g2] at k1
          rw [ho (16 + k) (by omega) (by omega) (by omega) (by omega), hno (16 + k) (by omega) (by omega), h2 k (by omega) k2]
        · rw [g2]; omega
        · intro s hs
          rw [g2] at hs
          unfold bk ws
          by_cases es : s = q.2.2 2
          · subst es
            refine ⟨?_, hw⟩
            rw [ho (4 + q.2.2 2) (by omega) (by omega) (by omega) (by omega), hnk]
            omega
          · rw [ho (4 + s) (by omega) (by omega) (by omega) (by omega), hno (4 + s) (by omega) (by omega), ho (16 + s) (by omega) (by omega) (by omega) (by omega), hno (16 + s) (by omega) (by omega)]
            exact h4 s (by omega)
theorem sSs_f {tp : Nat → Nat} {n m i : Nat} {q : Ps} (h : q.1 ≠ 0) : sSs tp n m i q = q := by
  cases m with
  | zero => exact if_pos h
  | succ m => exact if_pos h
theorem sSs_x {tp : Nat → Nat} {n m i : Nat} {q : Ps} (h : q.1 = 0) (h2 : 0 < i ∧ nx tp n q.2.1 = 120) : sSs tp n (m + 1) i q = q := by
  show (if q.1 ≠ 0 then q else if 0 < i ∧ nx tp n q.2.1 = 120 then q else sSs tp n m (i + 1) (sSort tp n q)) = q
  rw [if_neg (by omega), if_pos h2]
theorem sSs_s {tp : Nat → Nat} {n m i : Nat} {q : Ps} (h : q.1 = 0) (h2 : ¬ (0 < i ∧ nx tp n q.2.1 = 120)) : sSs tp n (m + 1) i q = sSs tp n m (i + 1) (sSort tp n q) := by
  show (if q.1 ≠ 0 then q else if 0 < i ∧ nx tp n q.2.1 = 120 then q else sSs tp n m (i + 1) (sSort tp n q)) = _
  rw [if_neg (by omega), if_neg h2]
theorem sSs_cl {tp : Nat → Nat} {n : Nat} : ∀ m i q, Cln q.2.2 → (0 < i → 1 ≤ q.2.2 2) → (sSs tp n m i q).1 = 0 → Cln (sSs tp n m i q).2.2 ∧ 1 ≤ (sSs tp n m i q).2.2 2 := by
  intro m
  induction m with
  | zero =>
    intro i q h h1 hz
    by_cases e : q.1 = 0
    · have : sSs tp n 0 i q = (1, q.2.1, q.2.2) := if_neg (by omega)
      rw [this] at hz; exact absurd hz (by simp)
    · rw [sSs_f e] at hz; exact absurd hz e
  | succ m ih =>
    intro i q h h1 hz
    by_cases e : q.1 = 0
    · by_cases e2 : 0 < i ∧ nx tp n q.2.1 = 120
      · rw [sSs_x e e2]; exact ⟨h, h1 e2.1⟩
      · rw [sSs_s e e2] at hz ⊢
        by_cases e3 : (sSort tp n q).1 = 0
        · have g := sSort_cl h e3
          exact ih _ _ g.1 (fun _ => by omega) hz
        · rw [sSs_f e3] at hz; exact absurd hz e3
    · rw [sSs_f e] at hz; exact absurd hz e
set_option maxRecDepth 20000 in
theorem c_tss {d : Nat} {ρ : St} {tp : Nat → Nat} {n : Nat} {R : Ps}  : ∀ (fu : Nat) {i : Nat} {q : Ps} {τ : St}, 5 - i < fu → i ≤ 5 → RdS ρ τ tp n q → q.1 = 0 → Cln q.2.2 → sSs tp n (5 - i) i q = R → Ev (d + 3) mX10_takeSorts 2 [.ref 2, .ref 5, vi i] [] τ (fun r τ => some (vi (bC ((R).1 = 0))) = r ∧ RdS ρ τ tp n (R)) := by
  intro fu
  induction fu with
  | zero => intros; omega
  | succ fu ih =>
    intro i q τ hm h1 h2 h3 h4 h5
    refine ev_iload_n eX10_takeSorts_2 rfl ?_
    refine ev_iconst eX10_takeSorts_3 ?_
    refine ev_icmp_gt 38 eX10_takeSorts_4 rfl (by omega) (by omega) (fun hi => ?_) (fun hi => ?_)
    · skip
      refine ev_aload_n eX10_takeSorts_38 rfl ?_
      refine ev_iconst eX10_takeSorts_39 ?_
      refine ev_cV1 eX10_takeSorts_40 ⟨lX10_41, kX10_leave⟩ rfl rfl c_tleave ?_
      rintro _ _ ⟨rfl, rfl⟩
      refine ev_zret eX10_takeSorts_43 rfl (Or.inl rfl) ?_
      have e : R = (1, q.2.1, q.2.2) := by rw [← h5, show 5 - i = 0 by omega]; exact if_neg (by omega)
      rw [e]
      exact ⟨congrArg (fun q => some (vi q)) (bI_f n10), RdS_fault (f := 1) h2 (by decide)⟩
    · skip
      refine ev_iload_n eX10_takeSorts_7 rfl ?_
      refine ev_if_le 22 eX10_takeSorts_8 rfl (by omega) (fun hi0 => ?_) (fun hi0 => ?_)
      · skip
        refine ev_aload_n eX10_takeSorts_22 rfl ?_
        refine ev_aload_n eX10_takeSorts_23 rfl ?_
        have e : R = sSs tp n (4 - i) (i + 1) (sSort tp n q) := by rw [← h5, show 5 - i = (4 - i) + 1 by omega, sSs_s h3 (by omega)]
        refine ev_cV1 eX10_takeSorts_24 ⟨lX10_71, kX10_takeSort⟩ rfl rfl (c_takeSort h2 h3 h4.2.1) ?_
        rintro _ τ1 ⟨rfl, r1⟩
        refine ev_ifb_ne 32 eX10_takeSorts_27 rfl (fun z1 => ?_) (fun z1 => ?_)
        · skip
          refine ev_iinc eX10_takeSorts_32 rfl (by decide) ?_
          refine ev_goto 2 eX10_takeSorts_35 rfl ?_
          exact ih (i := i + 1) (q := sSort tp n q) (by omega) (by omega) r1 z1 (sSort_cl h4 z1).1 (by rw [e, show 5 - (i + 1) = 4 - i by omega])
        · skip
          refine ev_iconst eX10_takeSorts_30 ?_
          refine ev_zret eX10_takeSorts_31 rfl (Or.inl rfl) ?_
          rw [e, sSs_f z1]
          exact ⟨congrArg (fun q => some (vi q)) (bI_f z1), r1⟩
      · skip
        refine ev_aload_n eX10_takeSorts_11 rfl ?_
        obtain ⟨hT, ha, hfz, han, hBk, hfr⟩ := id h2
        have hxr := nx_r (fun i hi => (hT.2.2 i hi).1) q.2.1
        refine ev_cV0 eX10_takeSorts_12 ⟨lX10_67, kX10_next⟩ rfl rfl (c_tnext hT ha han) ?_
        rintro _ _ ⟨rfl, rfl⟩
        refine ev_bipush eX10_takeSorts_15 rfl ?_
        refine ev_icmp_ne 22 eX10_takeSorts_17 rfl (by omega) (by omega) (fun hx => ?_) (fun hx => ?_)
        · skip
          refine ev_aload_n eX10_takeSorts_22 rfl ?_
          refine ev_aload_n eX10_takeSorts_23 rfl ?_
          have e : R = sSs tp n (4 - i) (i + 1) (sSort tp n q) := by rw [← h5, show 5 - i = (4 - i) + 1 by omega, sSs_s h3 (by omega)]
          refine ev_cV1 eX10_takeSorts_24 ⟨lX10_71, kX10_takeSort⟩ rfl rfl (c_takeSort h2 h3 h4.2.1) ?_
          rintro _ τ1 ⟨rfl, r1⟩
          refine ev_ifb_ne 32 eX10_takeSorts_27 rfl (fun z1 => ?_) (fun z1 => ?_)
          · skip
            refine ev_iinc eX10_takeSorts_32 rfl (by decide) ?_
            refine ev_goto 2 eX10_takeSorts_35 rfl ?_
            exact ih (i := i + 1) (q := sSort tp n q) (by omega) (by omega) r1 z1 (sSort_cl h4 z1).1 (by rw [e, show 5 - (i + 1) = 4 - i by omega])
          · skip
            refine ev_iconst eX10_takeSorts_30 ?_
            refine ev_zret eX10_takeSorts_31 rfl (Or.inl rfl) ?_
            rw [e, sSs_f z1]
            exact ⟨congrArg (fun q => some (vi q)) (bI_f z1), r1⟩
        · skip
          refine ev_iconst eX10_takeSorts_20 ?_
          refine ev_zret eX10_takeSorts_21 rfl (Or.inr rfl) ?_
          have e : R = q := by rw [← h5, show 5 - i = (4 - i) + 1 by omega, sSs_x h3 (by omega)]
          rw [e]
          exact ⟨congrArg (fun q => some (vi q)) (bI_t h3), h2⟩
set_option maxRecDepth 20000 in
theorem c_takeSorts {d : Nat} {σ : St} {ρ : St} {tp : Nat → Nat} {n : Nat} {q : Ps} (hR : RdS ρ σ tp n q) (hq : q.1 = 0) (hcl : Cln q.2.2) : Ct (d + 3) mX10_takeSorts [.ref 2, .ref 5] σ (fun r τ => some (vi (bC ((sSs tp n 5 0 q).1 = 0))) = r ∧ RdS ρ τ tp n (sSs tp n 5 0 q)) := by
  refine ct_of hX10_takeSorts (Nat.le_of_ble_eq_true rfl) ?_
  refine ev_iconst eX10_takeSorts_0 ?_
  refine ev_istore_n eX10_takeSorts_1 (by decide) ?_
  exact c_tss 6 (i := 0) (by omega) (by omega) hR hq hcl rfl
set_option maxRecDepth 20000 in
theorem c_takeTheRow {d : Nat} {σ : St} {ρ : St} {tp : Nat → Nat} {n : Nat} {q : Ps} (hR : RdS ρ σ tp n q) (hq : q.1 = 0) (hc3 : q.2.2 3 = 0) : Ct (d + 2) mX10_takeTheRow [.ref 2, .ref 5] σ (fun r τ => some (vi (bC ((sRow tp n q).1 = 0))) = r ∧ RdS ρ τ tp n (sRow tp n q)) := by
  refine ct_of hX10_takeTheRow (Nat.le_of_ble_eq_true rfl) ?_
  refine ev_aload_n eX10_takeTheRow_0 rfl ?_
  refine ev_bipush eX10_takeTheRow_1 rfl ?_
  refine ev_cV1 eX10_takeTheRow_3 ⟨lX10_49, kX10_takeByte⟩ rfl rfl (c_pByte hR hq (c := 120) (by omega)) ?_
  rintro _ τ1 ⟨rfl, r1⟩
  refine ev_ifb_ne 11 eX10_takeTheRow_6 rfl (fun z1 => ?_) (fun z1 => ?_)
  · skip
    refine ev_iconst eX10_takeTheRow_11 ?_
    refine ev_istore_n eX10_takeTheRow_12 (by decide) ?_
    have e4 : (sByte tp n 120 q).2.2 3 = 0 := by rw [sByte_B, hc3]
    exact c_trl (s := 0) (u2 := 0) (u3 := 0) (T0 := isT tp n (sByte tp n 120 q).2.1) (R := sTl tp n 36 3 8 0 (sByte tp n 120 q).2.1 (sByte tp n 120 q).2.2) (a0 := (sByte tp n 120 q).2.1) (fun τ i a B k1 k2 k3 k4 k5 k6 => c_tr_e (i := i) z1 k2 k3 (by omega) k4 k5 k6) 9 (i := 0) (a := (sByte tp n 120 q).2.1) (B := (sByte tp n 120 q).2.2) (by omega) (by omega) (RdS_q r1 (by rw [← z1])) rfl e4 (by omega) (fun _ => ⟨rfl, id⟩)
  · skip
    refine ev_iconst eX10_takeTheRow_9 ?_
    refine ev_zret eX10_takeTheRow_10 rfl (Or.inl rfl) ?_
    have e : sRow tp n q = sByte tp n 120 q := by unfold sRow; rw [sWord_f z1, sByte_f z1]
    rw [e]
    exact ⟨congrArg (fun q => some (vi q)) (bI_f z1), r1⟩
