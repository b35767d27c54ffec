/-! Tape (2): reading a text; the text's own reading, tied to bytes -/
def nx (tp : Nat → Nat) (n a : Nat) : Int := if a < n then (tp a : Int) else -1
theorem nx_r {tp : Nat → Nat} {n : Nat} (h : ∀ i, i < n → tp i ≤ 255) (a : Nat) : -1 ≤ nx tp n a ∧ nx tp n a ≤ 255 := by
  unfold nx
  split
  · rename_i q; have := h a q; omega
  · omega
def isD (tp : Nat → Nat) (n i : Nat) : Prop := i < n ∧ 48 ≤ tp i ∧ tp i ≤ 57
noncomputable def figs (tp : Nat → Nat) (n a : Nat) : Nat := Classical.epsilon (fun f => (∀ k, k < f → isD tp n (a + k)) ∧ ¬ isD tp n (a + f))
theorem figs_eq {tp : Nat → Nat} {n a f : Nat} (h1 : ∀ k, k < f → isD tp n (a + k)) (h2 : ¬ isD tp n (a + f)) : figs tp n a = f := by
  have := Classical.epsilon_spec (p := fun f => (∀ k, k < f → isD tp n (a + k)) ∧ ¬ isD tp n (a + f)) ⟨f, h1, h2⟩
  unfold figs
  generalize Classical.epsilon (fun f => (∀ k, k < f → isD tp n (a + k)) ∧ ¬ isD tp n (a + f)) = g at this
  rcases Nat.lt_trichotomy g f with q | q | q
  · exact absurd (h1 g q) this.2
  · exact q
  · exact absurd (this.1 f q) h2
def vl2 (tp : Nat → Nat) (a f : Nat) : Nat := if f = 0 then 0 else if f = 1 then tp a - 48 else 10 * (tp a - 48) + (tp (a + 1) - 48)
/-- fault, place, book -/
abbrev Ps : Type := Nat × Nat × Bok
noncomputable def sByte (tp : Nat → Nat) (n : Nat) (c : Int) (q : Ps) : Ps := if q.1 ≠ 0 then q else if nx tp n q.2.1 = c then (0, q.2.1 + 1, q.2.2) else (1, q.2.1, q.2.2)
noncomputable def sNum (tp : Nat → Nat) (n lo hi j : Nat) (q : Ps) : Ps := if q.1 ≠ 0 then q else if figs tp n q.2.1 < 1 ∨ 2 < figs tp n q.2.1 then (1, q.2.1, q.2.2) else if vl2 tp q.2.1 (figs tp n q.2.1) < lo ∨ hi < vl2 tp q.2.1 (figs tp n q.2.1) then (2, q.2.1, q.2.2) else (0, q.2.1 + figs tp n q.2.1, upB q.2.2 j (vl2 tp q.2.1 (figs tp n q.2.1)))
noncomputable def sLaw (tp : Nat → Nat) (n : Nat) (q : Ps) : Ps := sByte tp n 59 (sNum tp n 1 9 1 (sByte tp n 44 (sNum tp n 0 3 0 (sByte tp n 114 q))))
noncomputable def sTl (tp : Nat → Nat) (n lb zc : Nat) : Nat → Nat → Nat → Bok → Nat × Bok
  | 0, _, a, B => (a, B)
  | m + 1, k, a, B => if 97 ≤ nx tp n a ∧ nx tp n a ≤ 100 then sTl tp n lb zc m (k + 1) (a + 1) (upB (upB B (lb + k) (tp a - 97)) zc (k + 1)) else (a, B)
noncomputable def sWord (tp : Nat → Nat) (n lb zc most : Nat) (q : Ps) : Ps := if q.1 ≠ 0 then q else if 97 ≤ nx tp n q.2.1 ∧ nx tp n q.2.1 ≤ 100 then (0, (sTl tp n lb zc most 0 q.2.1 q.2.2).1, (sTl tp n lb zc most 0 q.2.1 q.2.2).2) else (1, q.2.1, q.2.2)
noncomputable def sSort (tp : Nat → Nat) (n : Nat) (q : Ps) : Ps := if q.1 ≠ 0 then q else if toldN (nx tp n q.2.1) = 0 then (1, q.2.1, q.2.2) else if 4 ≤ q.2.2 2 then (3, q.2.1, q.2.2) else
  sByte tp n 59 (sWord tp n (20 + 4 * q.2.2 2) (16 + q.2.2 2) 4 (sByte tp n 44 (sNum tp n 0 9 (8 + 2 * q.2.2 2 + 1) (sByte tp n 44 (sNum tp n 0 9 (8 + 2 * q.2.2 2 + 0) (0, q.2.1 + 1, upB (upB q.2.2 2 (q.2.2 2 + 1)) (4 + q.2.2 2) (toldN (nx tp n q.2.1))))))))
noncomputable def sSs (tp : Nat → Nat) (n : Nat) : Nat → Nat → Ps → Ps
  | 0, _, q => if q.1 ≠ 0 then q else (1, q.2.1, q.2.2)
  | m + 1, i, q => if q.1 ≠ 0 then q else if 0 < i ∧ nx tp n q.2.1 = 120 then q else sSs tp n m (i + 1) (sSort tp n q)
noncomputable def sRow (tp : Nat → Nat) (n : Nat) (q : Ps) : Ps := sByte tp n 59 (sWord tp n 36 3 8 (sByte tp n 120 q))
noncomputable def sBody (tp : Nat → Nat) (n : Nat) : Ps := sRow tp n (sSs tp n 5 0 (sLaw tp n (0, 0, fun _ => 0)))
noncomputable def sEnd (n : Nat) (q : Ps) : Ps := if q.1 ≠ 0 then q else if q.2.1 < n then (1, q.2.1, q.2.2) else @ite _ (Pall q.2.2) (Classical.propDecidable _) q (4, q.2.1, q.2.2)
noncomputable def sAll (tp : Nat → Nat) (n : Nat) : Ps := sEnd n (sBody tp n)
set_option maxRecDepth 20000 in
theorem c_tnext {d : Nat} {σ : St} {tp : Nat → Nat} {n : Nat} (hT : TpC σ tp n) {a : Nat} (ha : σ 2 2 = (a : Int)) (han : a ≤ n)  : Ct (d) mX10_next [.ref 2] σ (rt (vi (nx tp n a)) σ) := by
  refine ct_of hX10_next (Nat.le_of_ble_eq_true rfl) ?_
  have hn := hT.2.1
  have hxr := nx_r (fun i hi => (hT.2.2 i hi).1) a
  refine ev_aload_n eX10_next_0 rfl ?_
  refine ev_getiv eX10_next_1 fX10_17 rfl ha ?_
  refine ev_aload_n eX10_next_4 rfl ?_
  refine ev_getiv eX10_next_5 fX10_13 rfl hT.1 ?_
  refine ev_icmp_ge 23 eX10_next_8 rfl (by omega) (by omega) (fun h8 => ?_) (fun h8 => ?_)
  · skip
    refine ev_iconst eX10_next_23 ?_
    refine ev_iret eX10_next_24 rfl ?_
    exact ⟨congrArg (fun q => some (vi q)) (by unfold nx; rw [if_neg (by omega)]), rfl⟩
  · skip
    refine ev_aload_n eX10_next_11 rfl ?_
    refine ev_getr eX10_next_12 fX10_9 rfl ?_
    refine ev_aload_n eX10_next_15 rfl ?_
    refine ev_getiv eX10_next_16 fX10_17 rfl ha ?_
    refine ev_ialdv (a) eX10_next_19 rfl (by first | rfl | omega) (by omega) (hT.2.2 a (by omega)).2 ?_
    refine ev_goto 24 eX10_next_20 rfl ?_
    refine ev_iret eX10_next_24 rfl ?_
    exact ⟨congrArg (fun q => some (vi q)) (by unfold nx; rw [if_pos (by omega)]), rfl⟩
set_option maxRecDepth 20000 in
theorem c_tleave {d : Nat} {σ : St} {x : Int} : Ct (d) mX10_leave [.ref 2, vi x] σ (rt (vi 0) (up σ 2 3 x)) := by
  refine ct_of hX10_leave (Nat.le_of_ble_eq_true rfl) ?_
  refine ev_aload_n eX10_leave_0 rfl ?_
  refine ev_iload_n eX10_leave_1 rfl ?_
  refine ev_puti eX10_leave_2 pX10_20 rfl ?_
  refine ev_iconst eX10_leave_5 ?_
  refine ev_zret eX10_leave_6 rfl (by first | exact Or.inl rfl | exact Or.inr rfl | exact bI01 _) ?_
  exact ⟨rfl, rfl⟩
set_option maxRecDepth 20000 in
theorem c_tat {d : Nat} {σ : St} {a : Nat} (ha : σ 2 2 = (a : Int)) : Ct (d) mX10_at [.ref 2] σ (rt (vi a) σ) := by
  refine ct_of hX10_at (Nat.le_of_ble_eq_true rfl) ?_
  refine ev_aload_n eX10_at_0 rfl ?_
  refine ev_getiv eX10_at_1 fX10_17 rfl ha ?_
  refine ev_iret eX10_at_4 rfl ?_
  exact ⟨rfl, rfl⟩
set_option maxRecDepth 20000 in
theorem c_tclear {d : Nat} {σ : St}  : Ct (d) mX10_clear [.ref 2] σ (rv (up (up σ 2 1 0) 2 2 0)) := by
  refine ct_of hX10_clear (Nat.le_of_ble_eq_true rfl) ?_
  refine ev_aload_n eX10_clear_0 rfl ?_
  refine ev_iconst eX10_clear_1 ?_
  refine ev_puti eX10_clear_2 pX10_13 rfl ?_
  refine ev_aload_n eX10_clear_5 rfl ?_
  refine ev_iconst eX10_clear_6 ?_
  refine ev_puti eX10_clear_7 pX10_17 rfl ?_
  refine ev_ret eX10_clear_10 rfl ?_
  exact ⟨rfl, rfl⟩
set_option maxRecDepth 20000 in
theorem c_isTile {d : Nat} {σ : St} {x : Int} (hx : -2147483648 ≤ x ∧ x ≤ 2147483647) : Ct (d) mX10_isTile [vi x] σ (rt (vi (bI (97 ≤ x ∧ x ≤ 100))) σ) := by
  refine ct_of hX10_isTile (Nat.le_of_ble_eq_true rfl) ?_
  refine ev_iload_n eX10_isTile_0 rfl ?_
  refine ev_bipush eX10_isTile_1 rfl ?_
  refine ev_icmp_lt 16 eX10_isTile_3 rfl (by omega) (by omega) (fun h3 => ?_) (fun h3 => ?_)
  · skip
    refine ev_iconst eX10_isTile_16 ?_
    refine ev_zret eX10_isTile_17 rfl (by first | exact Or.inl rfl | exact Or.inr rfl | exact bI01 _) ?_
    exact ⟨congrArg (fun q => some (vi q)) (bI_f (by omega)), rfl⟩
  · skip
    refine ev_iload_n eX10_isTile_6 rfl ?_
    refine ev_bipush eX10_isTile_7 rfl ?_
    refine ev_icmp_gt 16 eX10_isTile_9 rfl (by omega) (by omega) (fun h9 => ?_) (fun h9 => ?_)
    · skip
      refine ev_iconst eX10_isTile_16 ?_
      refine ev_zret eX10_isTile_17 rfl (by first | exact Or.inl rfl | exact Or.inr rfl | exact bI01 _) ?_
      exact ⟨congrArg (fun q => some (vi q)) (bI_f (by omega)), rfl⟩
    · skip
      refine ev_iconst eX10_isTile_12 ?_
      refine ev_goto 17 eX10_isTile_13 rfl ?_
      refine ev_zret eX10_isTile_17 rfl (by first | exact Or.inl rfl | exact Or.inr rfl | exact bI01 _) ?_
      exact ⟨congrArg (fun q => some (vi q)) (bI_t (by omega)), rfl⟩
set_option maxRecDepth 20000 in
theorem c_nextTile {d : Nat} {σ : St} {tp : Nat → Nat} {n : Nat} (hT : TpC σ tp n) {a : Nat} (ha : σ 2 2 = (a : Int)) (han : a ≤ n)  : Ct (d + 1) mX10_nextTile [.ref 2] σ (rt (vi (nx tp n a - 97)) (up σ 2 2 ((a : Int) + 1))) := by
  refine ct_of hX10_nextTile (Nat.le_of_ble_eq_true rfl) ?_
  refine ev_aload_n eX10_nextTile_0 rfl ?_
  refine ev_cV0 eX10_nextTile_1 ⟨lX10_67, kX10_next⟩ rfl rfl (c_tnext hT ha han) ?_
  rintro _ _ ⟨rfl, rfl⟩
  refine ev_bipush eX10_nextTile_4 rfl ?_
  refine ev_isub eX10_nextTile_6 ?_
  refine ev_istore_n eX10_nextTile_7 (by decide) ?_
  refine ev_aload_n eX10_nextTile_8 rfl ?_
  refine ev_dup eX10_nextTile_9 rfl ?_
  refine ev_getiv eX10_nextTile_10 fX10_17 rfl ha ?_
  refine ev_iconst eX10_nextTile_13 ?_
  refine ev_iadd eX10_nextTile_14 ?_
  refine ev_puti eX10_nextTile_15 pX10_17 rfl ?_
  refine ev_iload_n eX10_nextTile_18 rfl ?_
  refine ev_iret eX10_nextTile_19 rfl ?_
  exact ⟨rfl, rfl⟩
set_option maxRecDepth 20000 in
theorem c_takeByte {d : Nat} {σ : St} {tp : Nat → Nat} {n : Nat} (hT : TpC σ tp n) {a : Nat} (ha : σ 2 2 = (a : Int)) (han : a ≤ n) {c : Int} (hc : -2147483648 ≤ c ∧ c ≤ 2147483647) : Ct (d + 1) mX10_takeByte [.ref 2, vi c] σ (fun r τ => (nx tp n a = c → some (vi 1) = r ∧ up σ 2 2 ((a : Int) + 1) = τ) ∧ (nx tp n a ≠ c → some (vi 0) = r ∧ up σ 2 3 1 = τ)) := by
  refine ct_of hX10_takeByte (Nat.le_of_ble_eq_true rfl) ?_
  have hn := hT.2.1
  have hxr := nx_r (fun i hi => (hT.2.2 i hi).1) a
  refine ev_aload_n eX10_takeByte_0 rfl ?_
  refine ev_cV0 eX10_takeByte_1 ⟨lX10_67, kX10_next⟩ rfl rfl (c_tnext hT ha han) ?_
  rintro _ _ ⟨rfl, rfl⟩
  refine ev_iload_n eX10_takeByte_4 rfl ?_
  refine ev_icmp_eq 14 eX10_takeByte_5 rfl (by omega) (by omega) (fun h5 => ?_) (fun h5 => ?_)
  · skip
    refine ev_aload_n eX10_takeByte_14 rfl ?_
    refine ev_dup eX10_takeByte_15 rfl ?_
    refine ev_getiv eX10_takeByte_16 fX10_17 rfl ha ?_
    refine ev_iconst eX10_takeByte_19 ?_
    refine ev_iadd eX10_takeByte_20 ?_
    refine ev_puti eX10_takeByte_21 pX10_17 rfl ?_
    refine ev_iconst eX10_takeByte_24 ?_
    refine ev_zret eX10_takeByte_25 rfl (by first | exact Or.inl rfl | exact Or.inr rfl | exact bI01 _) ?_
    refine ⟨fun hc => ?_, fun hc => ?_⟩ <;> first | (exfalso; omega) | (exact ⟨rfl, rfl⟩)
  · skip
    refine ev_aload_n eX10_takeByte_8 rfl ?_
    refine ev_iconst eX10_takeByte_9 ?_
    refine ev_cV1 eX10_takeByte_10 ⟨lX10_41, kX10_leave⟩ rfl rfl c_tleave ?_
    rintro _ _ ⟨rfl, rfl⟩
    refine ev_zret eX10_takeByte_13 rfl (Or.inl rfl) ?_
    refine ⟨fun hc => ?_, fun hc => ?_⟩ <;> first | (exfalso; omega) | (exact ⟨rfl, rfl⟩)
theorem vl2_le {tp : Nat → Nat} {n a f : Nat} (h : ∀ k, k < f → isD tp n (a + k)) : vl2 tp a f ≤ 99 := by
  unfold vl2
  split
  · omega
  · split
    · have := (h 0 (by omega)).2; rw [Nat.add_zero] at this; omega
    · have h0 := (h 0 (by omega)).2; rw [Nat.add_zero] at h0; have h1 := (h 1 (by omega)).2; omega
theorem vl2_st {tp : Nat → Nat} {a f i : Nat} (h1 : i = a + f) (hf : f < 2) (h : 48 ≤ tp i) : (10 * (vl2 tp a f : Int) + (tp i : Int) - 48) = (vl2 tp a (f + 1) : Int) := by
  subst h1
  rcases (show f = 0 ∨ f = 1 by omega) with rfl | rfl
  · show (10 * ((0 : Nat) : Int) + (tp a : Int) - 48) = ((tp a - 48 : Nat) : Int)
    rw [Nat.add_zero] at h
    omega
  · show (10 * ((tp a - 48 : Nat) : Int) + (tp (a + 1) : Int) - 48) = ((10 * (tp a - 48) + (tp (a + 1) - 48) : Nat) : Int)
    omega
set_option maxRecDepth 20000 in
theorem c_tn_l {d : Nat} {σ : St} {tp : Nat → Nat} {n : Nat} (hT : TpC σ tp n) {a : Nat} (ha : σ 2 2 = (a : Int)) (han : a ≤ n) {lo hi : Nat} (hlo : lo ≤ 9) (hhi : hi ≤ 9) : ∀ (fu : Nat) {i f : Nat}, n - i < fu → i = a + f → (∀ k, k < f → isD tp n (a + k)) → i ≤ n → Ev (d + 1) mX10_takeNumber 11 [.ref 2, vi lo, vi hi, vi f, vi (vl2 tp a f), vi i] [] σ (fun r τ => ((figs tp n a < 1 ∨ 2 < figs tp n a) → some (vi 0) = r ∧ up σ 2 3 1 = τ) ∧ (¬ (figs tp n a < 1 ∨ 2 < figs tp n a) ∧ (vl2 tp a (figs tp n a) < lo ∨ hi < vl2 tp a (figs tp n a)) → some (vi 0) = r ∧ up σ 2 3 2 = τ) ∧ (¬ (figs tp n a < 1 ∨ 2 < figs tp n a) ∧ ¬ (vl2 tp a (figs tp n a) < lo ∨ hi < vl2 tp a (figs tp n a)) → some (vi 1) = r ∧ up (up σ 2 4 (vl2 tp a (figs tp n a) : Int)) 2 2 ((a : Int) + (figs tp n a : Int)) = τ)) := by
  intro fu
  induction fu with
  | zero => intros; omega
  | succ fu ih =>
    intro i f hm h1 h2 h3
    have hn := hT.2.1
    have hv9 := vl2_le h2
    refine ev_iload eX10_takeNumber_11 rfl ?_
    refine ev_aload_n eX10_takeNumber_13 rfl ?_
    refine ev_getiv eX10_takeNumber_14 fX10_13 rfl hT.1 ?_
    refine ev_icmp_ge 76 eX10_takeNumber_17 rfl (by omega) (by omega) (fun h17 => ?_) (fun h17 => ?_)
    · skip
      have hnd : ¬ isD tp n i := fun z => by have := z.1; omega
      obtain rfl : f = figs tp n a := (figs_eq h2 (by rw [← h1]; exact hnd)).symm
      refine ev_iload_n eX10_takeNumber_76 rfl ?_
      refine ev_iconst eX10_takeNumber_77 ?_
      refine ev_icmp_lt 86 eX10_takeNumber_78 rfl (by omega) (by omega) (fun h78 => ?_) (fun h78 => ?_)
      · skip
        refine ev_aload_n eX10_takeNumber_86 rfl ?_
        refine ev_iconst eX10_takeNumber_87 ?_
        refine ev_cV1 eX10_takeNumber_88 ⟨lX10_41, kX10_leave⟩ rfl rfl c_tleave ?_
        rintro _ _ ⟨rfl, rfl⟩
        refine ev_zret eX10_takeNumber_91 rfl (Or.inl rfl) ?_
        refine ⟨fun hc => ?_, fun hc => ?_, fun hc => ?_⟩ <;> first | (exfalso; omega) | (exact ⟨rfl, rfl⟩)
      · skip
        refine ev_iload_n eX10_takeNumber_81 rfl ?_
        refine ev_iconst eX10_takeNumber_82 ?_
        refine ev_icmp_le 92 eX10_takeNumber_83 rfl (by omega) (by omega) (fun h83 => ?_) (fun h83 => ?_)
        · skip
          refine ev_iload eX10_takeNumber_92 rfl ?_
          refine ev_iload_n eX10_takeNumber_94 rfl ?_
          refine ev_icmp_lt 104 eX10_takeNumber_95 rfl (by omega) (by omega) (fun h95 => ?_) (fun h95 => ?_)
          · skip
            refine ev_aload_n eX10_takeNumber_104 rfl ?_
            refine ev_iconst eX10_takeNumber_105 ?_
            refine ev_cV1 eX10_takeNumber_106 ⟨lX10_41, kX10_leave⟩ rfl rfl c_tleave ?_
            rintro _ _ ⟨rfl, rfl⟩
            refine ev_zret eX10_takeNumber_109 rfl (Or.inl rfl) ?_
            refine ⟨fun hc => ?_, fun hc => ?_, fun hc => ?_⟩ <;> first | (exfalso; omega) | (exact ⟨rfl, rfl⟩)
          · skip
            refine ev_iload eX10_takeNumber_98 rfl ?_
            refine ev_iload_n eX10_takeNumber_100 rfl ?_
            refine ev_icmp_le 110 eX10_takeNumber_101 rfl (by omega) (by omega) (fun h101 => ?_) (fun h101 => ?_)
            · skip
              refine ev_aload_n eX10_takeNumber_110 rfl ?_
              refine ev_iload eX10_takeNumber_111 rfl ?_
              refine ev_puti eX10_takeNumber_113 pX10_23 rfl ?_
              refine ev_aload_n eX10_takeNumber_116 rfl ?_
              refine ev_dup eX10_takeNumber_117 rfl ?_
              refine ev_getiv eX10_takeNumber_118 fX10_17 rfl (show _ = (a : Int) by rw [up_n _ _ (by decide)]; exact ha) ?_
              refine ev_iload_n eX10_takeNumber_121 rfl ?_
              refine ev_iadd eX10_takeNumber_122 ?_
              refine ev_puti eX10_takeNumber_123 pX10_17 rfl ?_
              refine ev_iconst eX10_takeNumber_126 ?_
              refine ev_zret eX10_takeNumber_127 rfl (by first | exact Or.inl rfl | exact Or.inr rfl | exact bI01 _) ?_
              refine ⟨fun hc => ?_, fun hc => ?_, fun hc => ?_⟩ <;> first | (exfalso; omega) | (exact ⟨rfl, rfl⟩)
            · skip
              refine ev_aload_n eX10_takeNumber_104 rfl ?_
              refine ev_iconst eX10_takeNumber_105 ?_
              refine ev_cV1 eX10_takeNumber_106 ⟨lX10_41, kX10_leave⟩ rfl rfl c_tleave ?_
              rintro _ _ ⟨rfl, rfl⟩
              refine ev_zret eX10_takeNumber_109 rfl (Or.inl rfl) ?_
              refine ⟨fun hc => ?_, fun hc => ?_, fun hc => ?_⟩ <;> first | (exfalso; omega) | (exact ⟨rfl, rfl⟩)
        · skip
          refine ev_aload_n eX10_takeNumber_86 rfl ?_
          refine ev_iconst eX10_takeNumber_87 ?_
          refine ev_cV1 eX10_takeNumber_88 ⟨lX10_41, kX10_leave⟩ rfl rfl c_tleave ?_
          rintro _ _ ⟨rfl, rfl⟩
          refine ev_zret eX10_takeNumber_91 rfl (Or.inl rfl) ?_
          refine ⟨fun hc => ?_, fun hc => ?_, fun hc => ?_⟩ <;> first | (exfalso; omega) | (exact ⟨rfl, rfl⟩)
    · skip
      refine ev_aload_n eX10_takeNumber_20 rfl ?_
      refine ev_getr eX10_takeNumber_21 fX10_9 rfl ?_
      refine ev_iload eX10_takeNumber_24 rfl ?_
      refine ev_ialdv (i) eX10_takeNumber_26 rfl (by first | rfl | omega) (by omega) (hT.2.2 i (by omega)).2 ?_
      refine ev_bipush eX10_takeNumber_27 rfl ?_
      have ht := (hT.2.2 i (by omega)).1
      refine ev_icmp_lt 76 eX10_takeNumber_29 rfl (by omega) (by omega) (fun h29 => ?_) (fun h29 => ?_)
      · skip
        have hnd : ¬ isD tp n i := fun z => by have := z.2.1; omega
        obtain rfl : f = figs tp n a := (figs_eq h2 (by rw [← h1]; exact hnd)).symm
        refine ev_iload_n eX10_takeNumber_76 rfl ?_
        refine ev_iconst eX10_takeNumber_77 ?_
        refine ev_icmp_lt 86 eX10_takeNumber_78 rfl (by omega) (by omega) (fun h78 => ?_) (fun h78 => ?_)
        · skip
          refine ev_aload_n eX10_takeNumber_86 rfl ?_
          refine ev_iconst eX10_takeNumber_87 ?_
          refine ev_cV1 eX10_takeNumber_88 ⟨lX10_41, kX10_leave⟩ rfl rfl c_tleave ?_
          rintro _ _ ⟨rfl, rfl⟩
          refine ev_zret eX10_takeNumber_91 rfl (Or.inl rfl) ?_
          refine ⟨fun hc => ?_, fun hc => ?_, fun hc => ?_⟩ <;> first | (exfalso; omega) | (exact ⟨rfl, rfl⟩)
        · skip
          refine ev_iload_n eX10_takeNumber_81 rfl ?_
          refine ev_iconst eX10_takeNumber_82 ?_
          refine ev_icmp_le 92 eX10_takeNumber_83 rfl (by omega) (by omega) (fun h83 => ?_) (fun h83 => ?_)
          · skip
            refine ev_iload eX10_takeNumber_92 rfl ?_
            refine ev_iload_n eX10_takeNumber_94 rfl ?_
            refine ev_icmp_lt 104 eX10_takeNumber_95 rfl (by omega) (by omega) (fun h95 => ?_) (fun h95 => ?_)
            · skip
              refine ev_aload_n eX10_takeNumber_104 rfl ?_
              refine ev_iconst eX10_takeNumber_105 ?_
              refine ev_cV1 eX10_takeNumber_106 ⟨lX10_41, kX10_leave⟩ rfl rfl c_tleave ?_
              rintro _ _ ⟨rfl, rfl⟩
              refine ev_zret eX10_takeNumber_109 rfl (Or.inl rfl) ?_
              refine ⟨fun hc => ?_, fun hc => ?_, fun hc => ?_⟩ <;> first | (exfalso; omega) | (exact ⟨rfl, rfl⟩)
            · skip
              refine ev_iload eX10_takeNumber_98 rfl ?_
              refine ev_iload_n eX10_takeNumber_100 rfl ?_
              refine ev_icmp_le 110 eX10_takeNumber_101 rfl (by omega) (by omega) (fun h101 => ?_) (fun h101 => ?_)
              · skip
                refine ev_aload_n eX10_takeNumber_110 rfl ?_
                refine ev_iload eX10_takeNumber_111 rfl ?_
                refine ev_puti eX10_takeNumber_113 pX10_23 rfl ?_
                refine ev_aload_n eX10_takeNumber_116 rfl ?_
                refine ev_dup eX10_takeNumber_117 rfl ?_
                refine ev_getiv eX10_takeNumber_118 fX10_17 rfl (show _ = (a : Int) by rw [up_n _ _ (by decide)]; exact ha) ?_
                refine ev_iload_n eX10_takeNumber_121 rfl ?_
                refine ev_iadd eX10_takeNumber_122 ?_
                refine ev_puti eX10_takeNumber_123 pX10_17 rfl ?_
                refine ev_iconst eX10_takeNumber_126 ?_
                refine ev_zret eX10_takeNumber_127 rfl (by first | exact Or.inl rfl | exact Or.inr rfl | exact bI01 _) ?_
                refine ⟨fun hc => ?_, fun hc => ?_, fun hc => ?_⟩ <;> first | (exfalso; omega) | (exact ⟨rfl, rfl⟩)
              · skip
                refine ev_aload_n eX10_takeNumber_104 rfl ?_
                refine ev_iconst eX10_takeNumber_105 ?_
                refine ev_cV1 eX10_takeNumber_106 ⟨lX10_41, kX10_leave⟩ rfl rfl c_tleave ?_
                rintro _ _ ⟨rfl, rfl⟩
                refine ev_zret eX10_takeNumber_109 rfl (Or.inl rfl) ?_
                refine ⟨fun hc => ?_, fun hc => ?_, fun hc => ?_⟩ <;> first | (exfalso; omega) | (exact ⟨rfl, rfl⟩)
          · skip
            refine ev_aload_n eX10_takeNumber_86 rfl ?_
            refine ev_iconst eX10_takeNumber_87 ?_
            refine ev_cV1 eX10_takeNumber_88 ⟨lX10_41, kX10_leave⟩ rfl rfl c_tleave ?_
            rintro _ _ ⟨rfl, rfl⟩
            refine ev_zret eX10_takeNumber_91 rfl (Or.inl rfl) ?_
            refine ⟨fun hc => ?_, fun hc => ?_, fun hc => ?_⟩ <;> first | (exfalso; omega) | (exact ⟨rfl, rfl⟩)
      · skip
        refine ev_aload_n eX10_takeNumber_32 rfl ?_
        refine ev_getr eX10_takeNumber_33 fX10_9 rfl ?_
        refine ev_iload eX10_takeNumber_36 rfl ?_
        refine ev_ialdv (i) eX10_takeNumber_38 rfl (by first | rfl | omega) (by omega) (hT.2.2 i (by omega)).2 ?_
        refine ev_bipush eX10_takeNumber_39 rfl ?_
        refine ev_icmp_gt 76 eX10_takeNumber_41 rfl (by omega) (by omega) (fun h41 => ?_) (fun h41 => ?_)
        · skip
          have hnd : ¬ isD tp n i := fun z => by have := z.2.2; omega
          obtain rfl : f = figs tp n a := (figs_eq h2 (by rw [← h1]; exact hnd)).symm
          refine ev_iload_n eX10_takeNumber_76 rfl ?_
          refine ev_iconst eX10_takeNumber_77 ?_
          refine ev_icmp_lt 86 eX10_takeNumber_78 rfl (by omega) (by omega) (fun h78 => ?_) (fun h78 => ?_)
          · skip
            refine ev_aload_n eX10_takeNumber_86 rfl ?_
            refine ev_iconst eX10_takeNumber_87 ?_
            refine ev_cV1 eX10_takeNumber_88 ⟨lX10_41, kX10_leave⟩ rfl rfl c_tleave ?_
            rintro _ _ ⟨rfl, rfl⟩
            refine ev_zret eX10_takeNumber_91 rfl (Or.inl rfl) ?_
            refine ⟨fun hc => ?_, fun hc => ?_, fun hc => ?_⟩ <;> first | (exfalso; omega) | (exact ⟨rfl, rfl⟩)
          · skip
            refine ev_iload_n eX10_takeNumber_81 rfl ?_
            refine ev_iconst eX10_takeNumber_82 ?_
            refine ev_icmp_le 92 eX10_takeNumber_83 rfl (by omega) (by omega) (fun h83 => ?_) (fun h83 => ?_)
            · skip
              refine ev_iload eX10_takeNumber_92 rfl ?_
              refine ev_iload_n eX10_takeNumber_94 rfl ?_
              refine ev_icmp_lt 104 eX10_takeNumber_95 rfl (by omega) (by omega) (fun h95 => ?_) (fun h95 => ?_)
              · skip
                refine ev_aload_n eX10_takeNumber_104 rfl ?_
                refine ev_iconst eX10_takeNumber_105 ?_
                refine ev_cV1 eX10_takeNumber_106 ⟨lX10_41, kX10_leave⟩ rfl rfl c_tleave ?_
                rintro _ _ ⟨rfl, rfl⟩
                refine ev_zret eX10_takeNumber_109 rfl (Or.inl rfl) ?_
                refine ⟨fun hc => ?_, fun hc => ?_, fun hc => ?_⟩ <;> first | (exfalso; omega) | (exact ⟨rfl, rfl⟩)
              · skip
                refine ev_iload eX10_takeNumber_98 rfl ?_
                refine ev_iload_n eX10_takeNumber_100 rfl ?_
                refine ev_icmp_le 110 eX10_takeNumber_101 rfl (by omega) (by omega) (fun h101 => ?_) (fun h101 => ?_)
                · skip
                  refine ev_aload_n eX10_takeNumber_110 rfl ?_
                  refine ev_iload eX10_takeNumber_111 rfl ?_
                  refine ev_puti eX10_takeNumber_113 pX10_23 rfl ?_
                  refine ev_aload_n eX10_takeNumber_116 rfl ?_
                  refine ev_dup eX10_takeNumber_117 rfl ?_
                  refine ev_getiv eX10_takeNumber_118 fX10_17 rfl (show _ = (a : Int) by rw [up_n _ _ (by decide)]; exact ha) ?_
                  refine ev_iload_n eX10_takeNumber_121 rfl ?_
                  refine ev_iadd eX10_takeNumber_122 ?_
                  refine ev_puti eX10_takeNumber_123 pX10_17 rfl ?_
                  refine ev_iconst eX10_takeNumber_126 ?_
                  refine ev_zret eX10_takeNumber_127 rfl (by first | exact Or.inl rfl | exact Or.inr rfl | exact bI01 _) ?_
                  refine ⟨fun hc => ?_, fun hc => ?_, fun hc => ?_⟩ <;> first | (exfalso; omega) | (exact ⟨rfl, rfl⟩)
                · skip
                  refine ev_aload_n eX10_takeNumber_104 rfl ?_
                  refine ev_iconst eX10_takeNumber_105 ?_
                  refine ev_cV1 eX10_takeNumber_106 ⟨lX10_41, kX10_leave⟩ rfl rfl c_tleave ?_
                  rintro _ _ ⟨rfl, rfl⟩
                  refine ev_zret eX10_takeNumber_109 rfl (Or.inl rfl) ?_
                  refine ⟨fun hc => ?_, fun hc => ?_, fun hc => ?_⟩ <;> first | (exfalso; omega) | (exact ⟨rfl, rfl⟩)
            · skip
              refine ev_aload_n eX10_takeNumber_86 rfl ?_
              refine ev_iconst eX10_takeNumber_87 ?_
              refine ev_cV1 eX10_takeNumber_88 ⟨lX10_41, kX10_leave⟩ rfl rfl c_tleave ?_
              rintro _ _ ⟨rfl, rfl⟩
              refine ev_zret eX10_takeNumber_91 rfl (Or.inl rfl) ?_
              refine ⟨fun hc => ?_, fun hc => ?_, fun hc => ?_⟩ <;> first | (exfalso; omega) | (exact ⟨rfl, rfl⟩)
        · skip
          refine ev_iload_n eX10_takeNumber_44 rfl ?_
          refine ev_iconst eX10_takeNumber_45 ?_
          refine ev_icmp_ge 67 eX10_takeNumber_46 rfl (by omega) (by omega) (fun h46 => ?_) (fun h46 => ?_)
          · skip
            refine ev_iinc eX10_takeNumber_67 rfl (by decide) ?_
            refine ev_iinc eX10_takeNumber_70 rfl (by decide) ?_
            refine ev_goto 11 eX10_takeNumber_73 rfl ?_
            have hd : isD tp n (a + f) := ⟨by omega, by rw [← h1]; omega, by rw [← h1]; omega⟩
            have h2' : ∀ k, k < f + 1 → isD tp n (a + k) := fun k hk => by
              by_cases e : k = f
              · subst e; exact hd
              · exact h2 k (by omega)
            first | (rw [show vl2 tp a f = vl2 tp a (f + 1) by unfold vl2; rw [if_neg (by omega), if_neg (by omega), if_neg (by omega), if_neg (by omega)]]; exact ih (i := i + 1) (f := f + 1) (by omega) (by omega) h2' (by omega)) | (rw [vl2_st h1 (by omega) (by omega)]; exact ih (i := i + 1) (f := f + 1) (by omega) (by omega) h2' (by omega))
          · skip
            refine ev_bipush eX10_takeNumber_49 rfl ?_
            refine ev_iload eX10_takeNumber_51 rfl ?_
            refine ev_imul eX10_takeNumber_53 ?_
            refine ev_aload_n eX10_takeNumber_54 rfl ?_
            refine ev_getr eX10_takeNumber_55 fX10_9 rfl ?_
            refine ev_iload eX10_takeNumber_58 rfl ?_
            refine ev_ialdv (i) eX10_takeNumber_60 rfl (by first | rfl | omega) (by omega) (hT.2.2 i (by omega)).2 ?_
            refine ev_iadd eX10_takeNumber_61 ?_
            refine ev_bipush eX10_takeNumber_62 rfl ?_
            refine ev_isub eX10_takeNumber_64 ?_
            refine ev_istore eX10_takeNumber_65 (by decide) ?_
            refine ev_iinc eX10_takeNumber_67 rfl (by decide) ?_
            refine ev_iinc eX10_takeNumber_70 rfl (by decide) ?_
            refine ev_goto 11 eX10_takeNumber_73 rfl ?_
            have hd : isD tp n (a + f) := ⟨by omega, by rw [← h1]; omega, by rw [← h1]; omega⟩
            have h2' : ∀ k, k < f + 1 → isD tp n (a + k) := fun k hk => by
              by_cases e : k = f
              · subst e; exact hd
              · exact h2 k (by omega)
            first | (rw [show vl2 tp a f = vl2 tp a (f + 1) by unfold vl2; rw [if_neg (by omega), if_neg (by omega), if_neg (by omega), if_neg (by omega)]]; exact ih (i := i + 1) (f := f + 1) (by omega) (by omega) h2' (by omega)) | (rw [vl2_st h1 (by omega) (by omega)]; exact ih (i := i + 1) (f := f + 1) (by omega) (by omega) h2' (by omega))
set_option maxRecDepth 20000 in
theorem c_takeNumber {d : Nat} {σ : St} {tp : Nat → Nat} {n : Nat} (hT : TpC σ tp n) {a : Nat} (ha : σ 2 2 = (a : Int)) (han : a ≤ n) {lo hi : Nat} (hlo : lo ≤ 9) (hhi : hi ≤ 9) : Ct (d + 1) mX10_takeNumber [.ref 2, vi lo, vi hi] σ (fun r τ => ((figs tp n a < 1 ∨ 2 < figs tp n a) → some (vi 0) = r ∧ up σ 2 3 1 = τ) ∧ (¬ (figs tp n a < 1 ∨ 2 < figs tp n a) ∧ (vl2 tp a (figs tp n a) < lo ∨ hi < vl2 tp a (figs tp n a)) → some (vi 0) = r ∧ up σ 2 3 2 = τ) ∧ (¬ (figs tp n a < 1 ∨ 2 < figs tp n a) ∧ ¬ (vl2 tp a (figs tp n a) < lo ∨ hi < vl2 tp a (figs tp n a)) → some (vi 1) = r ∧ up (up σ 2 4 (vl2 tp a (figs tp n a) : Int)) 2 2 ((a : Int) + (figs tp n a : Int)) = τ)) := by
  refine ct_of hX10_takeNumber (Nat.le_of_ble_eq_true rfl) ?_
  have hn := hT.2.1
  refine ev_iconst eX10_takeNumber_0 ?_
  refine ev_istore_n eX10_takeNumber_1 (by decide) ?_
  refine ev_iconst eX10_takeNumber_2 ?_
  refine ev_istore eX10_takeNumber_3 (by decide) ?_
  refine ev_aload_n eX10_takeNumber_5 rfl ?_
  refine ev_getiv eX10_takeNumber_6 fX10_17 rfl ha ?_
  refine ev_istore eX10_takeNumber_9 (by decide) ?_
  exact c_tn_l hT ha han hlo hhi (n + 1) (i := a) (f := 0) (by omega) (by omega) (fun k hk => by omega) han
