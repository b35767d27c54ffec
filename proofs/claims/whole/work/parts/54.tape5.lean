/-! Tape: the whole text; the call book -/
theorem sLaw_o (tp : Nat → Nat) (n : Nat) (q : Ps) {j : Nat} (h0 : j ≠ 0) (h1 : j ≠ 1) : (sLaw tp n q).2.2 j = q.2.2 j := by
  unfold sLaw
  rw [sByte_B, sNum_B _ _ _ _ _ _ h1, sByte_B, sNum_B _ _ _ _ _ _ h0, sByte_B]
theorem sLaw_cl (tp : Nat → Nat) (n : Nat) : Cln (sLaw tp n (0, 0, fun _ => 0)).2.2 := by
  refine ⟨by rw [sLaw_o _ _ _ (by omega) (by omega)], fun k _ _ => by rw [sLaw_o _ _ _ (by omega) (by omega)], by rw [sLaw_o _ _ _ (by omega) (by omega)]; show 0 ≤ 4; omega, fun s hs => ?_⟩
  rw [sLaw_o _ _ _ (by omega) (by omega)] at hs
  exact absurd hs (Nat.not_lt_zero s)
theorem sRow_f {tp : Nat → Nat} {n : Nat} {q : Ps} (h : q.1 ≠ 0) : sRow tp n q = q := by unfold sRow; rw [sByte_f h, sWord_f h, sByte_f h]
theorem sEnd_f {n : Nat} {q : Ps} (h : q.1 ≠ 0) : sEnd n q = q := if_pos h
theorem sEnd_1 {n : Nat} {q : Ps} (h : q.1 = 0) (h2 : q.2.1 < n) : sEnd n q = (1, q.2.1, q.2.2) := by unfold sEnd; rw [if_neg (by omega), if_pos h2]
theorem sEnd_4 {n : Nat} {q : Ps} (h : q.1 = 0) (h2 : ¬ q.2.1 < n) (h3 : ¬ Pall q.2.2) : sEnd n q = (4, q.2.1, q.2.2) := by unfold sEnd; rw [if_neg (by omega), if_neg h2, if_neg h3]
theorem sEnd_0 {n : Nat} {q : Ps} (h : q.1 = 0) (h2 : ¬ q.2.1 < n) (h3 : Pall q.2.2) : sEnd n q = q := by unfold sEnd; rw [if_neg (by omega), if_neg h2, if_pos h3]
theorem sAll_ok {tp : Nat → Nat} {n : Nat} (h : (sAll tp n).1 = 0) (hW : Wf (sAll tp n).2.2) : Ok (sAll tp n).2.2 := by
  unfold sAll at h hW ⊢
  by_cases e1 : (sBody tp n).1 = 0
  · by_cases e2 : (sBody tp n).2.1 < n
    · rw [sEnd_1 e1 e2] at h; exact absurd h n10
    · by_cases e3 : Pall (sBody tp n).2.2
      · rw [sEnd_0 e1 e2 e3] at hW ⊢
        unfold sBody at hW e1 e3 ⊢
        have hs0 : (sSs tp n 5 0 (sLaw tp n (0, 0, fun _ => 0))).1 = 0 := by
          by_cases e : (sSs tp n 5 0 (sLaw tp n (0, 0, fun _ => 0))).1 = 0
          · exact e
          · rw [sRow_f e] at e1; exact e1
        obtain ⟨⟨c1, c2, c3, c4⟩, c5⟩ := sSs_cl 5 0 _ (sLaw_cl tp n) (by omega) hs0
        generalize sSs tp n 5 0 (sLaw tp n (0, 0, fun _ => 0)) = q at *
        have ho : ∀ j, j ≠ 3 → j < 36 → (sRow tp n q).2.2 j = q.2.2 j := fun j a1 a2 => by
          unfold sRow
          rw [sByte_B, sWord_o a1 (by omega), sByte_B]
        refine ⟨hW, by rw [ho 2 (by omega) (by omega)]; exact c5, ?_, e3.2, fun s hs => ⟨?_, ?_, e3.1 s hs⟩⟩
        · unfold sRow at e1 ⊢
          rw [sByte_B]
          exact sWord_p (m := 7) (sByte_z e1)
        · rw [ho 2 (by omega) (by omega)] at hs
          unfold bk; rw [ho _ (by omega) (by omega)]; exact (c4 s hs).1
        · rw [ho 2 (by omega) (by omega)] at hs
          unfold ws; rw [ho _ (by omega) (by omega)]; exact (c4 s hs).2
      · rw [sEnd_4 e1 e2 e3] at h; exact absurd h (by simp)
  · rw [sEnd_f e1] at h; exact absurd h e1
theorem RdS_st {σ τ : St} {tp : Nat → Nat} {n : Nat} (hT : TpC σ tp n) (h1 : τ 2 1 = σ 2 1) (h2 : τ 2 2 = 0) (h3 : τ 2 3 = 0) (hB : ∀ j, j < 44 → τ 18 j = 0) (hk : ∀ k, k ≠ 2 → k ≠ 18 → τ k = σ k) : RdS σ τ tp n (0, 0, fun _ => 0) :=
  ⟨⟨by rw [h1]; exact hT.1, hT.2.1, fun i hi => ⟨(hT.2.2 i hi).1, by rw [hk 15 (by decide) (by decide)]; exact (hT.2.2 i hi).2⟩⟩, h2, h3, Nat.zero_le _, fun _ => ⟨fun j hj => hB j hj, Wf_of (fun j _ => Nat.zero_le _)⟩, hk⟩
theorem sByte_4 {tp : Nat → Nat} {n : Nat} {c : Int} {q : Ps} (h : q.1 ≤ 4) : (sByte tp n c q).1 ≤ 4 := by
  unfold sByte
  split
  · exact h
  · split
    · exact Nat.zero_le 4
    · exact (by decide : 1 ≤ 4)
theorem sNum_4 {tp : Nat → Nat} {n lo hi j : Nat} {q : Ps} (h : q.1 ≤ 4) : (sNum tp n lo hi j q).1 ≤ 4 := by
  by_cases e : q.1 = 0
  · rcases sNum_c tp n lo hi j e with ⟨_, e⟩ | ⟨_, _, e⟩ | ⟨_, _, e⟩ <;> rw [e]
    · exact (by decide : 1 ≤ 4)
    · exact (by decide : 2 ≤ 4)
    · exact Nat.zero_le 4
  · rw [sNum_f e]; exact h
theorem sWord_4 {tp : Nat → Nat} {n lb zc m : Nat} {q : Ps} (h : q.1 ≤ 4) : (sWord tp n lb zc m q).1 ≤ 4 := by
  by_cases e : q.1 = 0
  · by_cases e2 : isT tp n q.2.1
    · rw [sWord_t e e2]; exact Nat.zero_le 4
    · rw [sWord_n e e2]; exact (by decide : 1 ≤ 4)
  · rw [sWord_f e]; exact h
theorem sSort_4 {tp : Nat → Nat} {n : Nat} {q : Ps} (h : q.1 ≤ 4) : (sSort tp n q).1 ≤ 4 := by
  rw [sSort_e]
  split
  · exact h
  · split
    · exact (by decide : 1 ≤ 4)
    · split
      · exact (by decide : 3 ≤ 4)
      · unfold sP sW
        exact sByte_4 (sWord_4 (sByte_4 (sNum_4 (sByte_4 (sNum_4 (Nat.zero_le 4))))))
theorem sSs_4 {tp : Nat → Nat} {n : Nat} : ∀ m i q, q.1 ≤ 4 → (sSs tp n m i q).1 ≤ 4 := by
  intro m
  induction m with
  | zero =>
    intro i q h
    show (if q.1 ≠ 0 then q else (1, q.2.1, q.2.2)).1 ≤ 4
    split
    · exact h
    · exact (by decide : 1 ≤ 4)
  | succ m ih =>
    intro i q h
    by_cases e : q.1 = 0
    · by_cases e2 : 0 < i ∧ nx tp n q.2.1 = 120
      · rw [sSs_x e e2]; exact h
      · rw [sSs_s e e2]; exact ih _ _ (sSort_4 h)
    · rw [sSs_f e]; exact h
theorem sAll_4 (tp : Nat → Nat) (n : Nat) : (sAll tp n).1 ≤ 4 := by
  have h : (sBody tp n).1 ≤ 4 := by
    unfold sBody sRow sLaw
    exact sByte_4 (sWord_4 (sByte_4 (sSs_4 _ _ _ (sByte_4 (sNum_4 (sByte_4 (sNum_4 (sByte_4 (Nat.zero_le 4)))))))))
  unfold sAll
  by_cases e1 : (sBody tp n).1 = 0
  · by_cases e2 : (sBody tp n).2.1 < n
    · rw [sEnd_1 e1 e2]; exact (by decide : 1 ≤ 4)
    · by_cases e3 : Pall (sBody tp n).2.2
      · rw [sEnd_0 e1 e2 e3]; exact h
      · rw [sEnd_4 e1 e2 e3]; exact (by decide : 4 ≤ 4)
  · rw [sEnd_f e1]; exact h
set_option maxRecDepth 20000 in
theorem c_readInto {d : Nat} {σ : St} {tp : Nat → Nat} {n : Nat} (hT : TpC σ tp n) : Ct (d + 4) mX10_readInto [.ref 2, .ref 5] σ (fun r τ => some (vi ((sAll tp n).1 : Int)) = r ∧ RdS σ τ tp n (sAll tp n)) := by
  refine ct_of hX10_readInto (Nat.le_of_ble_eq_true rfl) ?_
  refine ev_aload_n eX10_readInto_0 rfl ?_
  refine ev_iconst eX10_readInto_1 ?_
  refine ev_puti eX10_readInto_2 pX10_17 rfl ?_
  refine ev_aload_n eX10_readInto_5 rfl ?_
  refine ev_iconst eX10_readInto_6 ?_
  refine ev_puti eX10_readInto_7 pX10_20 rfl ?_
  refine ev_aload_n eX10_readInto_10 rfl ?_
  refine ev_cV0 eX10_readInto_11 ⟨lX10_26, kX0_clear⟩ rfl rfl (c_clear Bq5) ?_
  rintro _ τ0 ⟨rfl, b0, k0⟩
  have r0 : RdS σ τ0 tp n (0, 0, fun _ => 0) := RdS_st hT (by rw [k0 2 (by decide), up_n _ _ (by decide), up_n _ _ (by decide)]) (by rw [k0 2 (by decide), up_n _ _ (by decide), up_s]) (by rw [k0 2 (by decide), up_s]) b0 (fun k a1 a2 => by rw [k0 k a2, up_o _ _ _ a1, up_o _ _ _ a1])
  have eA : sAll tp n = sEnd n (sRow tp n (sSs tp n 5 0 (sLaw tp n (0, 0, fun _ => 0)))) := rfl
  have cL := sLaw_cl tp n
  refine ev_aload_n eX10_readInto_14 rfl ?_
  refine ev_aload_n eX10_readInto_15 rfl ?_
  refine ev_cV1 eX10_readInto_16 ⟨lX10_31, kX10_takeLaw⟩ rfl rfl (c_takeLaw r0 rfl) ?_
  rintro _ τ1 ⟨rfl, r1⟩
  generalize (sLaw tp n (0, 0, fun _ => 0)) = L at *
  refine ev_ifb_eq 42 eX10_readInto_19 rfl (fun z1 => ?_) (fun z1 => ?_)
  · skip
    have e : sAll tp n = L := by rw [eA, sSs_f z1, sRow_f z1, sEnd_f z1]
    refine ev_iconst eX10_readInto_42 ?_
    refine ev_istore_n eX10_readInto_43 (by decide) ?_
    refine ev_iload_n eX10_readInto_44 rfl ?_
    refine ev_if_eq 68 eX10_readInto_45 rfl (by omega) (fun h45 => ?_) (fun h45 => False.elim (by omega))
    refine ev_iload_n eX10_readInto_68 rfl ?_
    refine ev_if_eq 85 eX10_readInto_69 rfl (by omega) (fun h69 => ?_) (fun h69 => False.elim (by omega))
    refine ev_aload_n eX10_readInto_85 rfl ?_
    refine ev_getiv eX10_readInto_86 fX10_20 rfl r1.2.2.1 ?_
    refine ev_iret eX10_readInto_89 rfl ?_
    rw [e]
    exact ⟨rfl, r1⟩
  · skip
    refine ev_aload_n eX10_readInto_22 rfl ?_
    refine ev_aload_n eX10_readInto_23 rfl ?_
    refine ev_cV1 eX10_readInto_24 ⟨lX10_35, kX10_takeSorts⟩ rfl rfl (c_takeSorts r1 z1 cL) ?_
    rintro _ τ2 ⟨rfl, r2⟩
    have cS := fun z => (sSs_cl (tp := tp) (n := n) 5 0 _ cL (by omega) z).1
    generalize sSs tp n 5 0 L = S at *
    refine ev_ifb_eq 42 eX10_readInto_27 rfl (fun z2 => ?_) (fun z2 => ?_)
    · skip
      have e : sAll tp n = S := by rw [eA, sRow_f z2, sEnd_f z2]
      refine ev_iconst eX10_readInto_42 ?_
      refine ev_istore_n eX10_readInto_43 (by decide) ?_
      refine ev_iload_n eX10_readInto_44 rfl ?_
      refine ev_if_eq 68 eX10_readInto_45 rfl (by omega) (fun h45 => ?_) (fun h45 => False.elim (by omega))
      refine ev_iload_n eX10_readInto_68 rfl ?_
      refine ev_if_eq 85 eX10_readInto_69 rfl (by omega) (fun h69 => ?_) (fun h69 => False.elim (by omega))
      refine ev_aload_n eX10_readInto_85 rfl ?_
      refine ev_getiv eX10_readInto_86 fX10_20 rfl r2.2.2.1 ?_
      refine ev_iret eX10_readInto_89 rfl ?_
      rw [e]
      exact ⟨rfl, r2⟩
    · skip
      refine ev_aload_n eX10_readInto_30 rfl ?_
      refine ev_aload_n eX10_readInto_31 rfl ?_
      refine ev_cV1 eX10_readInto_32 ⟨lX10_38, kX10_takeTheRow⟩ rfl rfl (c_takeTheRow r2 z2 (cS z2).1) ?_
      rintro _ τ3 ⟨rfl, r3⟩
      generalize sRow tp n S = R at *
      refine ev_ifb_eq 42 eX10_readInto_35 rfl (fun z3 => ?_) (fun z3 => ?_)
      · skip
        have e : sAll tp n = R := by rw [eA, sEnd_f z3]
        refine ev_iconst eX10_readInto_42 ?_
        refine ev_istore_n eX10_readInto_43 (by decide) ?_
        refine ev_iload_n eX10_readInto_44 rfl ?_
        refine ev_if_eq 68 eX10_readInto_45 rfl (by omega) (fun h45 => ?_) (fun h45 => False.elim (by omega))
        refine ev_iload_n eX10_readInto_68 rfl ?_
        refine ev_if_eq 85 eX10_readInto_69 rfl (by omega) (fun h69 => ?_) (fun h69 => False.elim (by omega))
        refine ev_aload_n eX10_readInto_85 rfl ?_
        refine ev_getiv eX10_readInto_86 fX10_20 rfl r3.2.2.1 ?_
        refine ev_iret eX10_readInto_89 rfl ?_
        rw [e]
        exact ⟨rfl, r3⟩
      · skip
        refine ev_iconst eX10_readInto_38 ?_
        refine ev_goto 43 eX10_readInto_39 rfl ?_
        refine ev_istore_n eX10_readInto_43 (by decide) ?_
        refine ev_iload_n eX10_readInto_44 rfl ?_
        refine ev_if_eq 68 eX10_readInto_45 rfl (by omega) (fun h45 => False.elim (by omega)) (fun h45 => ?_)
        refine ev_aload_n eX10_readInto_48 rfl ?_
        have hnn := hT.2.1
        have hra := r3.2.2.2.1
        refine ev_getiv eX10_readInto_49 fX10_17 rfl r3.2.1 ?_
        refine ev_aload_n eX10_readInto_52 rfl ?_
        refine ev_getiv eX10_readInto_53 fX10_13 rfl r3.1.1 ?_
        refine ev_icmp_ge 68 eX10_readInto_56 rfl (by omega) (by omega) (fun hat => ?_) (fun hat => ?_)
        · skip
          refine ev_iload_n eX10_readInto_68 rfl ?_
          refine ev_if_eq 85 eX10_readInto_69 rfl (by omega) (fun h69 => False.elim (by omega)) (fun h69 => ?_)
          refine ev_aload_n eX10_readInto_72 rfl ?_
          refine ev_cV0 eX10_readInto_73 ⟨lX10_45, kX0_hasAllSortsItNames⟩ rfl rfl (c_hasall Bq5 (r3.2.2.2.2.1 z3).1 (r3.2.2.2.2.1 z3).2) ?_
          rintro _ _ ⟨rfl, rfl⟩
          refine ev_ifb_ne 85 eX10_readInto_76 rfl (fun hpa => ?_) (fun hpa => ?_)
          · skip
            have e : sAll tp n = R := by rw [eA, sEnd_0 z3 (by omega) hpa]
            refine ev_aload_n eX10_readInto_85 rfl ?_
            refine ev_getiv eX10_readInto_86 fX10_20 rfl r3.2.2.1 ?_
            refine ev_iret eX10_readInto_89 rfl ?_
            rw [e]
            exact ⟨rfl, r3⟩
          · skip
            refine ev_aload_n eX10_readInto_79 rfl ?_
            refine ev_iconst eX10_readInto_80 ?_
            refine ev_cV1 eX10_readInto_81 ⟨lX10_41, kX10_leave⟩ rfl rfl c_tleave ?_
            rintro _ _ ⟨rfl, rfl⟩
            have e : sAll tp n = (4, R.2.1, R.2.2) := by rw [eA, sEnd_4 z3 (by omega) hpa]
            have r4 : RdS σ (up τ3 2 3 4) tp n (4, R.2.1, R.2.2) := RdS_fault (f := 4) r3 (by decide)
            refine ev_pop eX10_readInto_84 rfl ?_
            refine ev_aload_n eX10_readInto_85 rfl ?_
            refine ev_getiv eX10_readInto_86 fX10_20 rfl r4.2.2.1 ?_
            refine ev_iret eX10_readInto_89 rfl ?_
            rw [e]
            exact ⟨rfl, r4⟩
        · skip
          refine ev_aload_n eX10_readInto_59 rfl ?_
          refine ev_iconst eX10_readInto_60 ?_
          refine ev_cV1 eX10_readInto_61 ⟨lX10_41, kX10_leave⟩ rfl rfl c_tleave ?_
          rintro _ _ ⟨rfl, rfl⟩
          have e : sAll tp n = (1, R.2.1, R.2.2) := by rw [eA, sEnd_1 z3 (by omega)]
          have r4 : RdS σ (up τ3 2 3 1) tp n (1, R.2.1, R.2.2) := RdS_fault (f := 1) r3 (by decide)
          refine ev_pop eX10_readInto_64 rfl ?_
          refine ev_goto 85 eX10_readInto_65 rfl ?_
          refine ev_aload_n eX10_readInto_85 rfl ?_
          refine ev_getiv eX10_readInto_86 fX10_20 rfl r4.2.2.1 ?_
          refine ev_iret eX10_readInto_89 rfl ?_
          rw [e]
          exact ⟨rfl, r4⟩
set_option maxRecDepth 20000 in
theorem o_book {d : Nat} {σ : St} {tp : Nat → Nat} {n : Nat} (hT : TpC σ tp n) : Ct (d + 5) mX11_book [.ref 0] σ (fun r τ => ((sAll tp n).1 ≠ 0 → some (vi (-1000100 - ((sAll tp n).2.1 : Int))) = r ∧ τ 2 1 = 0 ∧ τ 0 11 = ((sAll tp n).1 : Int) ∧ (∀ k, k ≠ 0 → k ≠ 2 → k ≠ 18 → τ k = σ k) ∧ (∀ j, j ≠ 11 → τ 0 j = σ 0 j)) ∧ ((sAll tp n).1 = 0 → some (vi ((sAll tp n).2.2 2 : Int)) = r ∧ τ 2 1 = 0 ∧ BkC τ 16 (sAll tp n).2.2 ∧ Ok (sAll tp n).2.2 ∧ τ 6 2 = 0 ∧ τ 6 3 = 0 ∧ τ 6 4 = σ 6 4 ∧ (∀ k, k ≠ 2 → k ≠ 6 → k ≠ 16 → k ≠ 18 → τ k = σ k))) := by
  refine ct_of hX11_book (Nat.le_of_ble_eq_true rfl) ?_
  refine ev_aload_n eX11_book_0 rfl ?_
  refine ev_getr eX11_book_1 fX11_19 rfl ?_
  refine ev_aload_n eX11_book_4 rfl ?_
  refine ev_getr eX11_book_5 fX11_33 rfl ?_
  refine ev_cV1 eX11_book_8 ⟨lX11_134, kX10_readInto⟩ rfl rfl (c_readInto hT) ?_
  rintro _ τ1 ⟨rfl, r1⟩
  obtain ⟨q1, q2, q3, q4, q5, q6⟩ := r1
  have hnn := hT.2.1
  have hno := sAll_ok (tp := tp) (n := n)
  have hf4 : (sAll tp n).1 ≤ 4 := sAll_4 tp n
  generalize sAll tp n = A at *
  refine ev_istore_n eX11_book_11 (by decide) ?_
  refine ev_aload_n eX11_book_12 rfl ?_
  refine ev_getr eX11_book_13 fX11_19 rfl ?_
  refine ev_cV0 eX11_book_16 ⟨lX11_138, kX10_at⟩ rfl rfl (c_tat q2) ?_
  rintro _ _ ⟨rfl, rfl⟩
  refine ev_istore_n eX11_book_19 (by decide) ?_
  refine ev_aload_n eX11_book_20 rfl ?_
  refine ev_getr eX11_book_21 fX11_19 rfl ?_
  refine ev_cV0 eX11_book_24 ⟨lX11_141, kX10_clear⟩ rfl rfl c_tclear ?_
  rintro _ _ ⟨rfl, rfl⟩
  refine ev_iload_n eX11_book_27 rfl ?_
  refine ev_if_eq 41 eX11_book_28 rfl (by omega) (fun hf => ?_) (fun hf => ?_)
  · skip
    refine ev_aload_n eX11_book_41 rfl ?_
    refine ev_getr eX11_book_42 fX11_26 rfl ?_
    refine ev_aload_n eX11_book_45 rfl ?_
    refine ev_getr eX11_book_46 fX11_33 rfl ?_
    obtain ⟨hB, hW⟩ := q5 (by omega)
    refine ev_cV1 eX11_book_49 ⟨lX11_145, kX0_takeAll⟩ rfl rfl (c_takeAll Bq3 Bq5) ?_
    rintro _ _ ⟨rfl, rfl⟩
    have hB3 : BkC (upA (up (up τ1 2 1 0) 2 2 0) 16 (cpF (up (up τ1 2 1 0) 2 2 0 18) (up (up τ1 2 1 0) 2 2 0 16) 0 0 44)) 16 A.2.2 := fun j hj => by
      rw [upA_s]
      show (if 0 ≤ j ∧ j < 0 + 44 then _ else _) = _
      rw [if_pos (by omega)]
      show up (up τ1 2 1 0) 2 2 0 18 (0 + (j - 0)) = _
      rw [up_o _ _ _ (by decide), up_o _ _ _ (by decide), show 0 + (j - 0) = j by omega]
      exact hB j hj
    refine ev_aload_n eX11_book_52 rfl ?_
    refine ev_getr eX11_book_53 fX11_39 rfl ?_
    refine ev_cV0 eX11_book_56 ⟨lX11_149, kX6_forgetActs⟩ rfl rfl c_forgetActs ?_
    rintro _ _ ⟨rfl, rfl⟩
    refine ev_aload_n eX11_book_59 rfl ?_
    refine ev_getr eX11_book_60 fX11_26 rfl ?_
    refine ev_cV0 eX11_book_63 ⟨lX11_152, kX0_sortCount⟩ rfl rfl (c_sortCount Bq3 (fun j hj => by rw [up_o _ _ _ (by decide), up_o _ _ _ (by decide)]; exact hB3 j hj) hW.sm) ?_
    rintro _ _ ⟨rfl, rfl⟩
    refine ev_iret eX11_book_66 rfl ?_
    refine ⟨fun z => absurd z (by omega), fun z => ⟨rfl, ?_, ?_, hno z hW, ?_, ?_, ?_, ?_⟩⟩
    · rw [up_o _ _ _ (by decide), up_o _ _ _ (by decide), upA_n _ _ (by decide), up_n _ _ (by decide), up_s]
    · exact fun j hj => by rw [up_o _ _ _ (by decide), up_o _ _ _ (by decide)]; exact hB3 j hj
    · rw [up_n _ _ (by decide), up_s]
    · rw [up_s]
    · rw [up_n _ _ (by decide), up_n _ _ (by decide), upA_n _ _ (by decide), up_o _ _ _ (by decide), up_o _ _ _ (by decide), q6 6 (by decide) (by decide)]
    · intro k a1 a2 a3 a4
      rw [up_o _ _ _ a2, up_o _ _ _ a2, upA_n _ _ a3, up_o _ _ _ a1, up_o _ _ _ a1]
      exact q6 k a1 a4
  · skip
    refine ev_aload_n eX11_book_31 rfl ?_
    refine ev_iload_n eX11_book_32 rfl ?_
    refine ev_puti eX11_book_33 pX11_78 rfl ?_
    refine ev_ldc eX11_book_36 qX11_144 ?_
    refine ev_iload_n eX11_book_38 rfl ?_
    refine ev_isub eX11_book_39 ?_
    refine ev_iret eX11_book_40 rfl ?_
    refine ⟨fun _ => ⟨rfl, ?_, ?_, ?_, ?_⟩, fun z => absurd z (by omega)⟩
    · rw [up_o _ _ _ (by decide), up_n _ _ (by decide), up_s]
    · exact up_s _ _ _ _
    · intro k a1 a2 a3
      rw [up_o _ _ _ a1, up_o _ _ _ a2, up_o _ _ _ a2]
      exact q6 k a2 a3
    · intro j hj
      rw [up_n _ _ hj, up_o _ _ _ (by decide), up_o _ _ _ (by decide), q6 0 (by decide) (by decide)]
