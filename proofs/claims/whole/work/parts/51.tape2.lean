/-! Tape: the parts of a text -/
def bnd (j : Nat) : Nat := if j < 2 then 9 else if j = 2 then 4 else if j = 3 then 8 else if j < 8 then 5 else if j < 16 then 9 else if j < 20 then 4 else 3
theorem bnd_le (j : Nat) : bnd j ≤ 9 := by unfold bnd; repeat (first | omega | split)
theorem Wf_of {B : Bok} (h : ∀ j, j < 44 → B j ≤ bnd j) : Wf B := by
  have g : ∀ j x, j < 44 → bnd j = x → B j ≤ x := fun j x hj e => e ▸ h j hj
  refine ⟨fun j hj => Nat.le_trans (h j hj) (Nat.le_trans (bnd_le j) (by omega)), g 2 4 (by omega) rfl, g 3 8 (by omega) rfl, fun s hs => g _ _ (by omega) ?_, fun s hs => g _ _ (by omega) ?_, fun s v hs hv => g _ _ (by omega) ?_, g 0 9 (by omega) rfl, g 1 9 (by omega) rfl, fun s i hs hi => Nat.lt_succ_of_le (g (20 + 4 * s + i) 3 (by omega) ?_), fun i hi => Nat.lt_succ_of_le (g (36 + i) 3 (by omega) ?_)⟩ <;> (unfold bnd; repeat (first | rw [if_pos (by omega)] | rw [if_neg (by omega)]))
theorem Wf.bn {B : Bok} (h : Wf B) {j : Nat} (hj : j < 44) : B j ≤ bnd j := by
  obtain ⟨w1, w2, w3, w4, w5, w6, w7, w8, w9, w10⟩ := h
  unfold bnd
  split
  · rcases (show j = 0 ∨ j = 1 by omega) with rfl | rfl <;> assumption
  · split
    · rename_i e; subst e; exact w2
    · split
      · rename_i e; subst e; exact w3
      · split
        · have := w5 (j - 4) (by omega); unfold bk at this; rw [show 4 + (j - 4) = j by omega] at this; exact this
        · split
          · have := w6 ((j - 8) / 2) ((j - 8) % 2) (by omega) (by omega); unfold pt at this; rw [show 8 + 2 * ((j - 8) / 2) + (j - 8) % 2 = j by omega] at this; exact this
          · split
            · have := w4 (j - 16) (by omega); unfold ws at this; rw [show 16 + (j - 16) = j by omega] at this; exact this
            · by_cases e : j < 36
              · have := w9 ((j - 20) / 4) ((j - 20) % 4) (by omega) (by omega); unfold wd at this; rw [show 20 + 4 * ((j - 20) / 4) + (j - 20) % 4 = j by omega] at this; omega
              · have := w10 (j - 36) (by omega); unfold rw_ at this; rw [show 36 + (j - 36) = j by omega] at this; omega
theorem Wf_up {B : Bok} (h : Wf B) {j x : Nat} (hx : x ≤ bnd j) : Wf (upB B j x) := Wf_of (fun i hi => by
  unfold upB
  split
  · rename_i e; subst e; exact hx
  · exact h.bn hi)
def RdS (σ τ : St) (tp : Nat → Nat) (n : Nat) (q : Ps) : Prop := TpC τ tp n ∧ τ 2 2 = (q.2.1 : Int) ∧ τ 2 3 = (q.1 : Int) ∧ q.2.1 ≤ n ∧ (q.1 = 0 → BkC τ 18 q.2.2 ∧ Wf q.2.2) ∧ ∀ k, k ≠ 2 → k ≠ 18 → τ k = σ k
theorem sByte_f {tp : Nat → Nat} {n : Nat} {c : Int} {q : Ps} (h : q.1 ≠ 0) : sByte tp n c q = q := if_pos h
theorem sByte_1 {tp : Nat → Nat} {n : Nat} {c : Int} {q : Ps} (h : q.1 = 0) (h2 : nx tp n q.2.1 = c) : sByte tp n c q = (0, q.2.1 + 1, q.2.2) := by unfold sByte; rw [if_neg (by omega), if_pos h2]
theorem sByte_0 {tp : Nat → Nat} {n : Nat} {c : Int} {q : Ps} (h : q.1 = 0) (h2 : nx tp n q.2.1 ≠ c) : sByte tp n c q = (1, q.2.1, q.2.2) := by unfold sByte; rw [if_neg (by omega), if_neg h2]
theorem sNum_f {tp : Nat → Nat} {n lo hi j : Nat} {q : Ps} (h : q.1 ≠ 0) : sNum tp n lo hi j q = q := if_pos h
theorem sWord_f {tp : Nat → Nat} {n lb zc m : Nat} {q : Ps} (h : q.1 ≠ 0) : sWord tp n lb zc m q = q := if_pos h
theorem nx_lt {tp : Nat → Nat} {n a : Nat} {c : Int} (h : nx tp n a = c) (hc : 0 ≤ c) : a < n := by
  unfold nx at h
  split at h
  · assumption
  · omega
theorem TpC_up {σ : St} {tp : Nat → Nat} {n f : Nat} {x : Int} (h : TpC σ tp n) (hf : f ≠ 1) : TpC (up σ 2 f x) tp n := ⟨by rw [up_n _ _ (Ne.symm hf)]; exact h.1, h.2.1, fun i hi => by rw [up_o _ _ _ (by decide)]; exact h.2.2 i hi⟩
theorem TpC_o {σ : St} {tp : Nat → Nat} {n k j : Nat} {x : Int} (h : TpC σ tp n) (h2 : k ≠ 2) (h15 : k ≠ 15) : TpC (up σ k j x) tp n := ⟨by rw [up_o _ _ _ (Ne.symm h2)]; exact h.1, h.2.1, fun i hi => by rw [up_o _ _ _ (Ne.symm h15)]; exact h.2.2 i hi⟩
theorem figs_c (tp : Nat → Nat) (n a : Nat) : (∀ k, k < figs tp n a → isD tp n (a + k)) ∧ ¬ isD tp n (a + figs tp n a) := by
  have : ∃ f, (∀ k, k < f → isD tp n (a + k)) ∧ ¬ isD tp n (a + f) := by
    obtain ⟨f, h1, h2⟩ := pk_least (fun f => ¬ isD tp n (a + f)) ⟨n, fun h => by have := h.1; omega⟩
    exact ⟨f, fun k hk => Classical.byContradiction (h2 k hk), h1⟩
  exact Classical.epsilon_spec this
theorem ct_imp {d : Nat} {y : Mth} {av : List Value} {σ : St} {q1 q2 : Option Value → St → Prop} (k : Ct d y av σ q1) (h : ∀ r τ, q1 r τ → q2 r τ) : Ct d y av σ q2 := by
  intro l g
  intro p e ha hc hk s m args below hf hap hP hk2
  obtain ⟨kk, o, h1, h2, h3, hQ⟩ := k l g p e ha hc hk s m args below hf hap hP hk2
  refine ⟨kk, o, h1, h2, h3, ?_⟩
  obtain ⟨⟨⟨r, τ, e1, e2, e3, e4⟩, hF⟩, L⟩ := hQ
  exact ⟨⟨⟨r, τ, e1, h r τ e2, e3, e4⟩, hF⟩, L⟩
set_option maxRecDepth 20000 in
theorem c_pByte {d : Nat} {σ : St} {ρ : St} {tp : Nat → Nat} {n : Nat} {q : Ps} (hR : RdS ρ σ tp n q) (hq : q.1 = 0) {c : Int} (hc : 0 ≤ c ∧ c ≤ 255) : Ct (d + 1) mX10_takeByte [.ref 2, vi c] σ (fun r τ => some (vi (bC ((sByte tp n c q).1 = 0))) = r ∧ RdS ρ τ tp n (sByte tp n c q)) := by
  obtain ⟨hT, ha, hfz, han, hBk, hfr⟩ := hR
  obtain ⟨hB, hWf⟩ := hBk hq
  refine ct_imp (c_takeByte hT ha han (c := c) (by omega)) (fun r τ h => ?_)
  by_cases e : nx tp n q.2.1 = c
  · obtain ⟨rfl, rfl⟩ := h.1 e
    rw [sByte_1 hq e]
    have hl := nx_lt e hc.1
    exact ⟨congrArg (fun q => some (vi q)) (bI_t rfl), TpC_up hT (by decide), up_s _ _ _ _, by rw [up_n _ _ (by decide), hfz, hq], hl, fun _ => ⟨fun j hj => by rw [up_o _ _ _ (by decide)]; exact hB j hj, hWf⟩, fun k a1 a2 => by rw [up_o _ _ _ a1]; exact hfr k a1 a2⟩
  · obtain ⟨rfl, rfl⟩ := h.2 e
    rw [sByte_0 hq e]
    exact ⟨congrArg (fun q => some (vi q)) (bI_f (show ¬ (1 : Nat) = 0 by decide)), TpC_up hT (by decide), by rw [up_n _ _ (by decide)]; exact ha, up_s _ _ _ _, han, fun z => absurd (show (1 : Nat) = 0 from z) (by decide), fun k a1 a2 => by rw [up_o _ _ _ a1]; exact hfr k a1 a2⟩
theorem sNum_c (tp : Nat → Nat) (n lo hi j : Nat) {q : Ps} (h : q.1 = 0) : ((figs tp n q.2.1 < 1 ∨ 2 < figs tp n q.2.1) ∧ sNum tp n lo hi j q = (1, q.2.1, q.2.2)) ∨ (¬ (figs tp n q.2.1 < 1 ∨ 2 < figs tp n q.2.1) ∧ (vl2 tp q.2.1 (figs tp n q.2.1) < lo ∨ hi < vl2 tp q.2.1 (figs tp n q.2.1)) ∧ sNum tp n lo hi j q = (2, q.2.1, q.2.2)) ∨ (¬ (figs tp n q.2.1 < 1 ∨ 2 < figs tp n q.2.1) ∧ ¬ (vl2 tp q.2.1 (figs tp n q.2.1) < lo ∨ hi < vl2 tp q.2.1 (figs tp n q.2.1)) ∧ sNum tp n lo hi j q = (0, q.2.1 + figs tp n q.2.1, upB q.2.2 j (vl2 tp q.2.1 (figs tp n q.2.1)))) := by
  unfold sNum
  rw [if_neg (by omega)]
  by_cases h1 : figs tp n q.2.1 < 1 ∨ 2 < figs tp n q.2.1
  · rw [if_pos h1]; exact Or.inl ⟨h1, rfl⟩
  · rw [if_neg h1]
    by_cases h2 : vl2 tp q.2.1 (figs tp n q.2.1) < lo ∨ hi < vl2 tp q.2.1 (figs tp n q.2.1)
    · rw [if_pos h2]; exact Or.inr (Or.inl ⟨h1, h2, rfl⟩)
    · rw [if_neg h2]; exact Or.inr (Or.inr ⟨h1, h2, rfl⟩)
theorem figs_le {tp : Nat → Nat} {n a : Nat} (h : ¬ (figs tp n a < 1 ∨ 2 < figs tp n a)) : a + figs tp n a ≤ n := by
  have := (figs_c tp n a).1 (figs tp n a - 1) (by omega)
  have := this.1
  omega
set_option maxRecDepth 20000 in
theorem c_pNum {d : Nat} {σ : St} {ρ : St} {tp : Nat → Nat} {n : Nat} {q : Ps} (hR : RdS ρ σ tp n q) (hq : q.1 = 0) {lo hi : Nat} (hlo : lo ≤ 9) (hhi : hi ≤ 9) (j : Nat) : Ct (d + 1) mX10_takeNumber [.ref 2, vi lo, vi hi] σ (fun r τ => some (vi (bC ((sNum tp n lo hi j q).1 = 0))) = r ∧ RdS ρ τ tp n ((sNum tp n lo hi j q).1, (sNum tp n lo hi j q).2.1, q.2.2) ∧ ((sNum tp n lo hi j q).1 = 0 → ∃ v : Nat, τ 2 4 = (v : Int) ∧ lo ≤ v ∧ v ≤ hi ∧ (sNum tp n lo hi j q).2.2 = upB q.2.2 j v)) := by
  obtain ⟨hT, ha, hfz, han, hBk, hfr⟩ := hR
  obtain ⟨hB, hWf⟩ := hBk hq
  refine ct_imp (c_takeNumber hT ha han hlo hhi) (fun r τ h => ?_)
  rcases sNum_c tp n lo hi j hq with ⟨e1, e2⟩ | ⟨e1, e2, e3⟩ | ⟨e1, e2, e3⟩
  · obtain ⟨rfl, rfl⟩ := h.1 e1
    rw [e2]
    exact ⟨congrArg (fun q => some (vi q)) (bI_f (show ¬ (1 : Nat) = 0 by decide)), ⟨TpC_up hT (by decide), by rw [up_n _ _ (by decide)]; exact ha, up_s _ _ _ _, han, fun z => absurd (show (1 : Nat) = 0 from z) (by decide), fun k a1 a2 => by rw [up_o _ _ _ a1]; exact hfr k a1 a2⟩, fun z => absurd (show (1 : Nat) = 0 from z) (by decide)⟩
  · obtain ⟨rfl, rfl⟩ := h.2.1 ⟨e1, e2⟩
    rw [e3]
    exact ⟨congrArg (fun q => some (vi q)) (bI_f (show ¬ (2 : Nat) = 0 by decide)), ⟨TpC_up hT (by decide), by rw [up_n _ _ (by decide)]; exact ha, up_s _ _ _ _, han, fun z => absurd (show (2 : Nat) = 0 from z) (by decide), fun k a1 a2 => by rw [up_o _ _ _ a1]; exact hfr k a1 a2⟩, fun z => absurd (show (2 : Nat) = 0 from z) (by decide)⟩
  · obtain ⟨rfl, rfl⟩ := h.2.2 ⟨e1, e2⟩
    rw [e3]
    exact ⟨congrArg (fun q => some (vi q)) (bI_t rfl), ⟨TpC_up (TpC_up hT (by decide)) (by decide), by rw [up_s]; push_cast; rfl, by rw [up_n _ _ (by decide), up_n _ _ (by decide), hfz, hq], figs_le e1, fun _ => ⟨fun j hj => by rw [up_o _ _ _ (by decide), up_o _ _ _ (by decide)]; exact hB j hj, hWf⟩, fun k a1 a2 => by rw [up_o _ _ _ a1, up_o _ _ _ a1]; exact hfr k a1 a2⟩, fun _ => ⟨_, by rw [up_n _ _ (by decide), up_s], by omega, by omega, rfl⟩⟩
theorem RdS_set {ρ τ : St} {tp : Nat → Nat} {n f a j x : Nat} {B : Bok} (h : RdS ρ τ tp n (f, a, B)) (hf : f = 0) (hx : x ≤ bnd j) : RdS ρ (up τ 18 j (x : Int)) tp n (f, a, upB B j x) := by
  obtain ⟨h1, h2, h3, h4, h5, h6⟩ := h
  exact ⟨TpC_o h1 (by decide) (by decide), by rw [up_o _ _ _ (by decide)]; exact h2, by rw [up_o _ _ _ (by decide)]; exact h3, h4, fun z => ⟨BkC_up (h5 z).1 j x, Wf_up (h5 z).2 hx⟩, fun k a1 a2 => by rw [up_o _ _ _ a2]; exact h6 k a1 a2⟩
theorem RdS_q {ρ τ : St} {tp : Nat → Nat} {n : Nat} {q q' : Ps} (h : RdS ρ τ tp n q) (e : q = q') : RdS ρ τ tp n q' := e ▸ h
set_option maxRecDepth 20000 in
theorem c_takeLaw {d : Nat} {σ : St} {ρ : St} {tp : Nat → Nat} {n : Nat} {q : Ps} (hR : RdS ρ σ tp n q) (hq : q.1 = 0)  : Ct (d + 2) mX10_takeLaw [.ref 2, .ref 5] σ (fun r τ => some (vi (bC ((sLaw tp n q).1 = 0))) = r ∧ RdS ρ τ tp n (sLaw tp n q)) := by
  refine ct_of hX10_takeLaw (Nat.le_of_ble_eq_true rfl) ?_
  refine ev_aload_n eX10_takeLaw_0 rfl ?_
  refine ev_bipush eX10_takeLaw_1 rfl ?_
  refine ev_cV1 eX10_takeLaw_3 ⟨lX10_49, kX10_takeByte⟩ rfl rfl (c_pByte hR hq (c := 114) (by omega)) ?_
  rintro _ τ1 ⟨rfl, r1⟩
  refine ev_ifb_eq 24 eX10_takeLaw_6 rfl (fun z1 => ?_) (fun z1 => ?_)
  · skip
    refine ev_iconst eX10_takeLaw_24 ?_
    refine ev_zret eX10_takeLaw_25 rfl (Or.inl rfl) ?_
    have e : sLaw tp n q = (sByte tp n 114 q) := by unfold sLaw; rw [sNum_f z1, sByte_f z1, sNum_f z1, sByte_f z1]
    rw [e]
    exact ⟨congrArg (fun q => some (vi q)) (bI_f z1), r1⟩
  · skip
    refine ev_aload_n eX10_takeLaw_9 rfl ?_
    refine ev_iconst eX10_takeLaw_10 ?_
    refine ev_cS1 eX10_takeLaw_11 ⟨lX10_52, kX0_leastLaw⟩ rfl (c_leastLaw (s := 0) (by omega)) ?_
    rintro _ _ ⟨rfl, rfl⟩
    refine ev_iconst eX10_takeLaw_14 ?_
    refine ev_cS1 eX10_takeLaw_15 ⟨lX10_56, kX0_mostLaw⟩ rfl (c_mostLaw (s := 0) (by omega)) ?_
    rintro _ _ ⟨rfl, rfl⟩
    refine ev_cV2 eX10_takeLaw_18 ⟨lX10_59, kX10_takeNumber⟩ rfl rfl (c_pNum r1 z1 (lo := 0) (hi := 3) (by omega) (by omega) 0) ?_
    rintro _ τ2 ⟨rfl, r2, n2⟩
    refine ev_ifb_ne 26 eX10_takeLaw_21 rfl (fun z2 => ?_) (fun z2 => ?_)
    · skip
      obtain ⟨v2, v2a, v2b, v2c, v2d⟩ := n2 z2
      refine ev_aload_n eX10_takeLaw_26 rfl ?_
      refine ev_iconst eX10_takeLaw_27 ?_
      refine ev_aload_n eX10_takeLaw_28 rfl ?_
      refine ev_getiv eX10_takeLaw_29 fX10_23 rfl v2a ?_
      refine ev_cV2 eX10_takeLaw_32 ⟨lX10_63, kX0_setLaw⟩ rfl rfl (c_setLaw Bq5 (s := 0) (x := (v2 : Int)) (by omega)) ?_
      rintro _ _ ⟨rfl, rfl⟩
      have r2b : RdS ρ (up τ2 18 0 (v2 : Int)) tp n (sNum tp n 0 3 0 (sByte tp n 114 q)) := RdS_q (RdS_set (j := 0) (x := v2) r2 z2 (by show v2 ≤ 9; omega)) (by rw [← v2d])
      refine ev_aload_n eX10_takeLaw_35 rfl ?_
      refine ev_bipush eX10_takeLaw_36 rfl ?_
      refine ev_cV1 eX10_takeLaw_38 ⟨lX10_49, kX10_takeByte⟩ rfl rfl (c_pByte r2b z2 (c := 44) (by omega)) ?_
      rintro _ τ3 ⟨rfl, r3⟩
      refine ev_ifb_eq 59 eX10_takeLaw_41 rfl (fun z3 => ?_) (fun z3 => ?_)
      · skip
        refine ev_iconst eX10_takeLaw_59 ?_
        refine ev_zret eX10_takeLaw_60 rfl (Or.inl rfl) ?_
        have e : sLaw tp n q = (sByte tp n 44 (sNum tp n 0 3 0 (sByte tp n 114 q))) := by unfold sLaw; rw [sNum_f z3, sByte_f z3]
        rw [e]
        exact ⟨congrArg (fun q => some (vi q)) (bI_f z3), r3⟩
      · skip
        refine ev_aload_n eX10_takeLaw_44 rfl ?_
        refine ev_iconst eX10_takeLaw_45 ?_
        refine ev_cS1 eX10_takeLaw_46 ⟨lX10_52, kX0_leastLaw⟩ rfl (c_leastLaw (s := 1) (by omega)) ?_
        rintro _ _ ⟨rfl, rfl⟩
        refine ev_iconst eX10_takeLaw_49 ?_
        refine ev_cS1 eX10_takeLaw_50 ⟨lX10_56, kX0_mostLaw⟩ rfl (c_mostLaw (s := 1) (by omega)) ?_
        rintro _ _ ⟨rfl, rfl⟩
        refine ev_cV2 eX10_takeLaw_53 ⟨lX10_59, kX10_takeNumber⟩ rfl rfl (c_pNum r3 z3 (lo := 1) (hi := 9) (by omega) (by omega) 1) ?_
        rintro _ τ4 ⟨rfl, r4, n4⟩
        refine ev_ifb_ne 61 eX10_takeLaw_56 rfl (fun z4 => ?_) (fun z4 => ?_)
        · skip
          obtain ⟨v4, v4a, v4b, v4c, v4d⟩ := n4 z4
          refine ev_aload_n eX10_takeLaw_61 rfl ?_
          refine ev_iconst eX10_takeLaw_62 ?_
          refine ev_aload_n eX10_takeLaw_63 rfl ?_
          refine ev_getiv eX10_takeLaw_64 fX10_23 rfl v4a ?_
          refine ev_cV2 eX10_takeLaw_67 ⟨lX10_63, kX0_setLaw⟩ rfl rfl (c_setLaw Bq5 (s := 1) (x := (v4 : Int)) (by omega)) ?_
          rintro _ _ ⟨rfl, rfl⟩
          have r4b : RdS ρ (up τ4 18 1 (v4 : Int)) tp n (sNum tp n 1 9 1 (sByte tp n 44 (sNum tp n 0 3 0 (sByte tp n 114 q)))) := RdS_q (RdS_set (j := 1) (x := v4) r4 z4 (by show v4 ≤ 9; omega)) (by rw [← v4d])
          refine ev_aload_n eX10_takeLaw_70 rfl ?_
          refine ev_bipush eX10_takeLaw_71 rfl ?_
          refine ev_cV1 eX10_takeLaw_73 ⟨lX10_49, kX10_takeByte⟩ rfl rfl (c_pByte r4b z4 (c := 59) (by omega)) ?_
          rintro _ τ5 ⟨rfl, r5⟩
          refine ev_zret eX10_takeLaw_76 rfl (by first | exact Or.inl rfl | exact Or.inr rfl | exact bI01 _) ?_
          exact ⟨rfl, r5⟩
        · skip
          refine ev_iconst eX10_takeLaw_59 ?_
          refine ev_zret eX10_takeLaw_60 rfl (Or.inl rfl) ?_
          have e : sLaw tp n q = (sNum tp n 1 9 1 (sByte tp n 44 (sNum tp n 0 3 0 (sByte tp n 114 q)))) := by unfold sLaw; rw [sByte_f z4]
          rw [e]
          exact ⟨congrArg (fun q => some (vi q)) (bI_f z4), r4.1, r4.2.1, r4.2.2.1, r4.2.2.2.1, fun z => absurd z z4, r4.2.2.2.2.2⟩
    · skip
      refine ev_iconst eX10_takeLaw_24 ?_
      refine ev_zret eX10_takeLaw_25 rfl (Or.inl rfl) ?_
      have e : sLaw tp n q = (sNum tp n 0 3 0 (sByte tp n 114 q)) := by unfold sLaw; rw [sByte_f z2, sNum_f z2, sByte_f z2]
      rw [e]
      exact ⟨congrArg (fun q => some (vi q)) (bI_f z2), r2.1, r2.2.1, r2.2.2.1, r2.2.2.2.1, fun z => absurd z z2, r2.2.2.2.2.2⟩
