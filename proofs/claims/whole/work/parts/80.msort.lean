/-! the reference: sorts -/
def Xs (s : Nat) : Nat → Prop := fun c => c = 2 ∨ c = 16 + s
def Sg (s : Nat) (τ : St) (Q : Ps) : Prop := Q.1 = 0 → Fr (Xs s) τ Q.2.2 ∧ τ 50 0 = (s : Int) ∧ TL (τ 45 20) Q.2.2 ∧ Q.2.2 (16 + s) = 0 ∧ Q.2.2 2 = s + 1
theorem Sg.sign {s : Nat} {τ τ' : St} {Q : Ps} (h : Sg s τ Q) (f : Fx τ τ') {tp : Nat → Nat} {n : Nat} {x : Int} : Sg s τ' (sByte tp n x Q) := by
  intro z
  obtain ⟨a, b, c, d, e⟩ := h (sByte_z z)
  rw [sByte_B]
  exact ⟨a.of (f.2 50 (by decide)), by rw [f.2 50 (by decide)]; exact b, by rw [f.1 20 (by omega)]; exact c, d, e⟩
theorem TL_up {t : Int} {B : Bok} (h : TL t B) {j v : Nat} (h1 : j ≠ 2) (h2 : j ≠ 3) (h3 : j < 16) : TL t (upB B j v) := TL_cg h (fun m => Lm_cg (fun i hi => upB_n _ _ (by omega))) (fun z hz => upB_n _ _ (by omega))
theorem Sg.num {s : Nat} {τ τ' : St} {Q : Ps} (h : Sg s τ Q) (f : Fx τ τ') {tp : Nat → Nat} {n lo hi e v : Nat} (hs : s < 4) (he : e < 2) (hv : (sNum tp n lo hi (8 + 2 * s + e) Q).1 = 0 → lo ≤ v ∧ v ≤ hi ∧ (sNum tp n lo hi (8 + 2 * s + e) Q).2.2 = upB Q.2.2 (8 + 2 * s + e) v) : Sg s (up τ' 50 (12 + 8 * s + 1 + e) (v : Int)) (sNum tp n lo hi (8 + 2 * s + e) Q) := by
  intro z
  obtain ⟨a, b, c, d, g⟩ := h (sNum_z z)
  rw [(hv z).2.2]
  refine ⟨(a.of (f.2 50 (by decide))).st (X' := Xs s) (by omega) (by rw [pm_p s hs e he, upB_s]) (fun i a1 a2 => ⟨a2, upB_n _ _ (by rw [← pm_p s hs e he]; exact a1)⟩), by rw [up_n _ _ (by omega), f.2 50 (by decide)]; exact b, ?_, by rw [upB_n _ _ (by omega)]; exact d, by rw [upB_n _ _ (by omega)]; exact g⟩
  rw [up_o _ _ _ (by decide), f.1 20 (by omega)]
  exact TL_up c (by omega) (by omega) (by omega)
theorem Sg_0 {τ ξ : St} {tp : Nat → Nat} {n s x : Nat} {q : Ps} (hF : Fr (fun _ => False) τ q.2.2) (hL : TL (τ 45 20) q.2.2) (hs : q.2.2 2 = s) (hs4 : s < 4) (hz : q.2.2 (16 + s) = 0) (hx : x = toldN (nx tp n q.2.1)) (e50 : ξ 50 = τ 50) (e20 : ξ 45 20 = τ 45 20) : Sg s (up ξ 50 (12 + 8 * s) (x : Int)) (nQ tp n q) := by
  intro _
  have eB : (nQ tp n q).2.2 = upB (upB q.2.2 2 (s + 1)) (4 + s) x := by unfold nQ; rw [hs, hx]
  rw [eB]
  refine ⟨(hF.of e50).st (X' := Xs s) (by omega) (by rw [pm_k s hs4, upB_s]) (fun i a1 a2 => ⟨fun z => z, ?_⟩), ?_, ?_, ?_, ?_⟩
  · rw [upB_n _ _ (by rw [← pm_k s hs4]; exact a1), upB_n _ _ (fun z => a2 (Or.inl z))]
  · rw [up_n _ _ (by omega), e50, ← hs]
    exact hF 0 (by omega) (fun z => z)
  · rw [up_o _ _ _ (by decide), e20]
    exact TL_cg hL (fun m => Lm_n hs hs4 hz) (fun z hz => by rw [upB_n _ _ (by omega), upB_n _ _ (by omega)])
  · rw [upB_n _ _ (by omega), upB_n _ _ (by omega)]; exact hz
  · rw [upB_n _ _ (by omega), upB_s]
set_option maxRecDepth 20000 in
theorem m_readSort {d : Nat} {σ : St} {tp : Nat → Nat} {n : Nat} {q : Ps} (hR : RM σ tp n q) (hq : q.1 = 0) (hF : Fr (fun _ => False) σ q.2.2) (hTL : TL (σ 45 20) q.2.2) (hC : Cln q.2.2) : Ct (d + 4) mX12_readSort [.ref 45] σ (fun r τ => none = r ∧ RM τ tp n (sSort tp n q) ∧ Fw σ τ ∧ ((sSort tp n q).1 = 0 → Fr (fun _ => False) τ (sSort tp n q).2.2 ∧ TL (τ 45 20) (sSort tp n q).2.2)) := by
  refine ct_of hX12_readSort (Nat.le_of_ble_eq_true rfl) ?_
  obtain ⟨hT, han, hq4, hft, hst, htk, hfa⟩ := id hR
  have hn := hT.2.1
  have hk := htk.2.1
  have hv := htk.1
  have hB2 := hC.2.2.1
  have hnx := nx_r (fun i hi => (hT.2.2 i hi).1) q.2.1
  have ht5 := toldN_5 (nx tp n q.2.1)
  refine ev_aload_n eX12_readSort_0 rfl ?_
  refine ev_geti eX12_readSort_1 fX12_136 rfl ?_
  refine ev_iconst eX12_readSort_4 ?_
  refine ev_icmp_ne 18 eX12_readSort_5 rfl (by omega) (by omega) (fun h5 => ?_) (fun h5 => ?_)
  · skip
    refine ev_iconst eX12_readSort_18 ?_
    refine ev_istore_n eX12_readSort_19 (by decide) ?_
    refine ev_iload_n eX12_readSort_20 rfl ?_
    refine ev_if_ne 32 eX12_readSort_21 rfl (by omega) (fun h21 => False.elim (by omega)) (fun h21 => ?_)
    refine ev_aload_n eX12_readSort_24 rfl ?_
    refine ev_iconst eX12_readSort_25 ?_
    refine ev_cV1 eX12_readSort_26 ⟨lX12_139, kX12_bad⟩ rfl rfl (m_bad2 hR (k := 1) (by decide) (by decide)) ?_
    rintro _ τ ⟨rfl, r1, f1⟩
    have hn1 := sBad_n (k := 1) (q := q) (by decide)
    have hb4 := r1.2.2.1
    refine ev_goto 47 eX12_readSort_29 rfl ?_
    refine ev_aload_n eX12_readSort_47 rfl ?_
    refine ev_getiv eX12_readSort_48 fX12_112 rfl r1.2.2.2.1 ?_
    refine ev_if_le 55 eX12_readSort_51 rfl (by omega) (fun h51 => False.elim (by omega)) (fun h51 => ?_)
    refine ev_ret eX12_readSort_54 rfl ?_
    rw [sBad_z hq] at r1
    rw [sSort_e, if_neg (by omega), if_pos (toldN_o (htk.nm.2 (by omega)))]
    exact ⟨rfl, r1, f1.w, fun z => absurd (show (1 : Nat) = 0 from z) (by decide)⟩
  · skip
    refine ev_aload_n eX12_readSort_8 rfl ?_
    refine ev_getiv eX12_readSort_9 fX12_125 rfl (htk.nm.1 (by omega)) ?_
    refine ev_cS1 eX12_readSort_12 ⟨lX12_155, kX12_sortOf⟩ rfl (m_sortOf (x := nx tp n q.2.1) (by omega)) ?_
    rintro _ _ ⟨rfl, rfl⟩
    refine ev_goto 19 eX12_readSort_15 rfl ?_
    refine ev_istore_n eX12_readSort_19 (by decide) ?_
    refine ev_iload_n eX12_readSort_20 rfl ?_
    refine ev_if_ne 32 eX12_readSort_21 rfl (by omega) (fun h21 => ?_) (fun h21 => ?_)
    · skip
      refine ev_aload_n eX12_readSort_32 rfl ?_
      refine ev_getr eX12_readSort_33 fX12_22 rfl ?_
      refine ev_iconst eX12_readSort_36 ?_
      refine ev_ialdv (0) eX12_readSort_37 rfl (by first | rfl | omega) (by omega) (gv (q.2.2 2 : Int) (hF 0 (by omega) (fun z => z))) ?_
      refine ev_iconst eX12_readSort_38 ?_
      refine ev_icmp_ne 47 eX12_readSort_39 rfl (by omega) (by omega) (fun h39 => ?_) (fun h39 => ?_)
      · skip
        refine ev_aload_n eX12_readSort_47 rfl ?_
        refine ev_getiv eX12_readSort_48 fX12_112 rfl hft ?_
        refine ev_if_le 55 eX12_readSort_51 rfl (by omega) (fun h51 => ?_) (fun h51 => False.elim (by omega))
        obtain ⟨s, hs⟩ : ∃ s, q.2.2 2 = s := ⟨_, rfl⟩
        have hs4 : s < 4 := by omega
        have hz0 := hC.2.1 s (by omega) hs4
        have hnm : 97 ≤ nx tp n q.2.1 ∧ nx tp n q.2.1 ≤ 122 := Classical.byContradiction (fun z => by have := toldN_o z; omega)
        have hcu := htk.c1 (x := nx tp n q.2.1) rfl (by omega) (by omega)
        refine ev_bipush eX12_readSort_55 rfl ?_
        refine ev_bipush eX12_readSort_57 rfl ?_
        refine ev_aload_n eX12_readSort_59 rfl ?_
        refine ev_getr eX12_readSort_60 fX12_22 rfl ?_
        refine ev_iconst eX12_readSort_63 ?_
        refine ev_ialdv (0) eX12_readSort_64 rfl (by first | rfl | omega) (by omega) (gv (s : Int) (by rw [← hs]; exact hF 0 (by omega) (fun z => z))) ?_
        refine ev_imul eX12_readSort_65 ?_
        refine ev_iadd eX12_readSort_66 ?_
        refine ev_istore_n eX12_readSort_67 (by decide) ?_
        refine ev_aload_n eX12_readSort_68 rfl ?_
        refine ev_cV0 eX12_readSort_69 ⟨lX12_143, kX12_nextToken⟩ rfl rfl (m_nextToken hT hcu.1 hcu.2) ?_
        rintro _ ξ ⟨rfl, n1, n2, n3, n4⟩
        have hR1 : RM ξ tp n (nQ tp n q) := (hR.nt hq hcu.2 n1 n2 n3 n4).q rfl rfl
        refine ev_aload_n eX12_readSort_72 rfl ?_
        refine ev_getr eX12_readSort_73 fX12_22 rfl ?_
        refine ev_iload_n eX12_readSort_76 rfl ?_
        refine ev_iload_n eX12_readSort_77 rfl ?_
        refine ev_iast (12 + 8 * s) eX12_readSort_78 rfl (by first | rfl | omega) (by omega) ?_
        have g0 : Sg s (up ξ 50 (12 + 8 * s) (toldN (nx tp n q.2.1) : Int)) (nQ tp n q) := Sg_0 hF hTL hs hs4 hz0 rfl (n4 50 (by decide)) (n3 20 (by decide) (by decide) (by decide) (by decide))
        have hR2 : RM (up ξ 50 (12 + 8 * s) (toldN (nx tp n q.2.1) : Int)) tp n (nQ tp n q) := hR1.st
        refine ev_aload_n eX12_readSort_79 rfl ?_
        refine ev_getr eX12_readSort_80 fX12_22 rfl ?_
        refine ev_iload_n eX12_readSort_83 rfl ?_
        refine ev_iconst eX12_readSort_84 ?_
        refine ev_iadd eX12_readSort_85 ?_
        refine ev_aload_n eX12_readSort_86 rfl ?_
        refine ev_iconst eX12_readSort_87 ?_
        refine ev_bipush eX12_readSort_88 rfl ?_
        refine ev_cV2 eX12_readSort_90 ⟨lX12_158, kX12_figure⟩ rfl rfl (m_figure hR2 (lo := 0) (hi := 9) (by omega) (by omega) (8 + 2 * s + 0)) ?_
        rintro _ τ1 ⟨v1, rfl, r1, f1, y1, w1⟩
        refine ev_iast (12 + 8 * s + 1 + 0) eX12_readSort_93 rfl (by first | rfl | omega) (by omega) ?_
        have g1 := g0.num f1 hs4 (e := 0) (by omega) w1
        have r1b := r1.st (j := 12 + 8 * s + 1 + 0) (x := (v1 : Int))
        refine ev_aload_n eX12_readSort_94 rfl ?_
        refine ev_bipush eX12_readSort_95 rfl ?_
        refine ev_cV1 eX12_readSort_97 ⟨lX12_162, kX12_mustSign⟩ rfl rfl (m_mustSign r1b (x := 44) (Or.inl rfl)) ?_
        rintro _ τ2 ⟨rfl, r2, f2⟩
        have g2 := g1.sign f2 (tp := tp) (n := n) (x := 44)
        refine ev_aload_n eX12_readSort_100 rfl ?_
        refine ev_getr eX12_readSort_101 fX12_22 rfl ?_
        refine ev_iload_n eX12_readSort_104 rfl ?_
        refine ev_iconst eX12_readSort_105 ?_
        refine ev_iadd eX12_readSort_106 ?_
        refine ev_aload_n eX12_readSort_107 rfl ?_
        refine ev_iconst eX12_readSort_108 ?_
        refine ev_bipush eX12_readSort_109 rfl ?_
        refine ev_cV2 eX12_readSort_111 ⟨lX12_158, kX12_figure⟩ rfl rfl (m_figure r2 (lo := 0) (hi := 9) (by omega) (by omega) (8 + 2 * s + 1)) ?_
        rintro _ τ3 ⟨v3, rfl, r3, f3, y3, w3⟩
        refine ev_iast (12 + 8 * s + 1 + 1) eX12_readSort_114 rfl (by first | rfl | omega) (by omega) ?_
        have g3 := g2.num f3 hs4 (e := 1) (by omega) w3
        have r3b := r3.st (j := 12 + 8 * s + 1 + 1) (x := (v3 : Int))
        refine ev_aload_n eX12_readSort_115 rfl ?_
        refine ev_bipush eX12_readSort_116 rfl ?_
        refine ev_cV1 eX12_readSort_118 ⟨lX12_162, kX12_mustSign⟩ rfl rfl (m_mustSign r3b (x := 44) (Or.inl rfl)) ?_
        rintro _ τ4 ⟨rfl, r4, f4⟩
        have g4 := g3.sign f4 (tp := tp) (n := n) (x := 44)
        refine ev_aload_n eX12_readSort_121 rfl ?_
        refine ev_getr eX12_readSort_122 fX12_22 rfl ?_
        refine ev_iload_n eX12_readSort_125 rfl ?_
        refine ev_iconst eX12_readSort_126 ?_
        refine ev_iadd eX12_readSort_127 ?_
        refine ev_aload_n eX12_readSort_128 rfl ?_
        refine ev_iload_n eX12_readSort_129 rfl ?_
        refine ev_iconst eX12_readSort_130 ?_
        refine ev_iadd eX12_readSort_131 ?_
        refine ev_iconst eX12_readSort_132 ?_
        rw [show (12 + 8 * (s : Int) + 4) = ((12 + 8 * s + 4 : Nat) : Int) by push_cast; rfl]
        refine ev_cV2 eX12_readSort_133 ⟨lX12_165, kX12_readWord⟩ rfl rfl (m_readWord r4 (L := 12 + 8 * s + 4) (most := 4) (lb := 20 + 4 * s) (zc := 16 + s) (by omega) (by omega) (fun i hi => pm_l s hs4 i hi) (X := Xs s) (Or.inr rfl) (fun i hi z => by rw [pm_l s hs4 i hi] at z; unfold Xs at z; omega) (P := fun B => B 2 = s + 1) (fun B k x hP hc hz hk => ⟨fun m => Lm_w hP hs4 hz hk hc, by show upB (upB B (20 + 4 * s + k) x) (16 + s) (k + 1) 2 = s + 1; rw [upB_n _ _ (by omega), upB_n _ _ (by omega)]; exact hP, fun z hz4 => by
      by_cases e : z = s
      · subst e; rw [upB_s]; omega
      · rw [upB_n _ _ (by omega), upB_n _ _ (by omega)]; exact hc z hz4⟩) (fun z => ⟨(g4 z).1, (g4 z).2.2.1, (g4 z).2.2.2⟩)) ?_
        rintro _ τ5 ⟨k5, rfl, y5, r5, f5, o5, g5⟩
        refine ev_iast (12 + 8 * s + 3) eX12_readSort_136 rfl (by first | rfl | omega) (by omega) ?_
        have r5b := r5.st (j := 12 + 8 * s + 3) (x := (k5 : Int))
        have g6 : (sWord tp n (20 + 4 * s) (16 + s) 4 (sByte tp n 44 (sNum tp n 0 9 (8 + 2 * s + 1) (sByte tp n 44 (sNum tp n 0 9 (8 + 2 * s + 0) (nQ tp n q)))))).1 = 0 → Fr (fun c => c = 2) (up τ5 50 (12 + 8 * s + 3) (k5 : Int)) (sWord tp n (20 + 4 * s) (16 + s) 4 (sByte tp n 44 (sNum tp n 0 9 (8 + 2 * s + 1) (sByte tp n 44 (sNum tp n 0 9 (8 + 2 * s + 0) (nQ tp n q)))))).2.2 ∧ (up τ5 50 (12 + 8 * s + 3) (k5 : Int)) 50 0 = (s : Int) ∧ TL ((up τ5 50 (12 + 8 * s + 3) (k5 : Int)) 45 20) (sWord tp n (20 + 4 * s) (16 + s) 4 (sByte tp n 44 (sNum tp n 0 9 (8 + 2 * s + 1) (sByte tp n 44 (sNum tp n 0 9 (8 + 2 * s + 0) (nQ tp n q)))))).2.2 ∧ (sWord tp n (20 + 4 * s) (16 + s) 4 (sByte tp n 44 (sNum tp n 0 9 (8 + 2 * s + 1) (sByte tp n 44 (sNum tp n 0 9 (8 + 2 * s + 0) (nQ tp n q)))))).2.2 2 = s + 1 := by
          intro z
          obtain ⟨a1, a2, a3, a4⟩ := g5 z
          refine ⟨a1.st (by omega) (by rw [pm_w s hs4]; exact a3) (fun i b1 b2 => ⟨fun z => ?_, rfl⟩), ?_, by rw [up_o _ _ _ (by decide)]; exact a2, a4⟩
          · rcases z with z | z
            · exact b2 z
            · exact b1 (by rw [pm_w s hs4]; exact z)
          · rw [up_n _ _ (by omega), o5 0 (by omega)]
            exact (g4 (sWord_z z)).2.1
        refine ev_aload_n eX12_readSort_137 rfl ?_
        refine ev_bipush eX12_readSort_138 rfl ?_
        refine ev_cV1 eX12_readSort_140 ⟨lX12_162, kX12_mustSign⟩ rfl rfl (m_mustSign r5b (x := 59) (Or.inr rfl)) ?_
        rintro _ τ6 ⟨rfl, r6, f6⟩
        refine ev_aload_n eX12_readSort_143 rfl ?_
        refine ev_getr eX12_readSort_144 fX12_22 rfl ?_
        refine ev_iconst eX12_readSort_147 ?_
        refine ev_dup2 eX12_readSort_148 rfl rfl ?_
        refine ev_ialdv (0) eX12_readSort_149 rfl (by first | rfl | omega) (by omega) rfl ?_
        refine ev_iconst eX12_readSort_150 ?_
        refine ev_iadd eX12_readSort_151 ?_
        refine ev_iast (0) eX12_readSort_152 rfl (by first | rfl | omega) (by omega) ?_
        refine ev_ret eX12_readSort_153 rfl ?_
        have e : sSort tp n q = sByte tp n 59 (sWord tp n (20 + 4 * s) (16 + s) 4 (sByte tp n 44 (sNum tp n 0 9 (8 + 2 * s + 1) (sByte tp n 44 (sNum tp n 0 9 (8 + 2 * s + 0) (nQ tp n q)))))) := by
          rw [sSort_e, if_neg (by omega), if_neg (by omega), if_neg (by omega), hs]
          rfl
        rw [e]
        refine ⟨rfl, r6.st, ((((((((((Fx.nt n3 n4).w).st).tr f1.w).st).tr f2.w).tr f3.w).st).tr f4.w).tr f5).st.tr f6.w |>.st, fun z => ?_⟩
        obtain ⟨a1, a2, a3, a4⟩ := g6 (sByte_z z)
        have e0 : τ6 50 0 = (s : Int) := by rw [f6.2 50 (by decide)]; exact a2
        rw [e0, show (s : Int) + 1 = ((s + 1 : Nat) : Int) by push_cast; rfl, sByte_B]
        refine ⟨(a1.of (f6.2 50 (by decide))).st (by omega) a4 (fun i b1 b2 => ⟨b1, rfl⟩), ?_⟩
        rw [up_o _ _ _ (by decide), f6.1 20 (by omega)]
        exact a3
      · skip
        refine ev_aload_n eX12_readSort_42 rfl ?_
        refine ev_iconst eX12_readSort_43 ?_
        refine ev_cV1 eX12_readSort_44 ⟨lX12_139, kX12_bad⟩ rfl rfl (m_bad2 hR (k := 3) (by decide) (by decide)) ?_
        rintro _ τ ⟨rfl, r1, f1⟩
        have hn1 := sBad_n (k := 3) (q := q) (by decide)
        have hb4 := r1.2.2.1
        refine ev_aload_n eX12_readSort_47 rfl ?_
        refine ev_getiv eX12_readSort_48 fX12_112 rfl r1.2.2.2.1 ?_
        refine ev_if_le 55 eX12_readSort_51 rfl (by omega) (fun h51 => False.elim (by omega)) (fun h51 => ?_)
        refine ev_ret eX12_readSort_54 rfl ?_
        rw [sBad_z hq] at r1
        rw [sSort_e, if_neg (by omega), if_neg (by omega), if_pos (by omega)]
        exact ⟨rfl, r1, f1.w, fun z => absurd (show (3 : Nat) = 0 from z) (by decide)⟩
    · skip
      refine ev_aload_n eX12_readSort_24 rfl ?_
      refine ev_iconst eX12_readSort_25 ?_
      refine ev_cV1 eX12_readSort_26 ⟨lX12_139, kX12_bad⟩ rfl rfl (m_bad2 hR (k := 1) (by decide) (by decide)) ?_
      rintro _ τ ⟨rfl, r1, f1⟩
      have hn1 := sBad_n (k := 1) (q := q) (by decide)
      have hb4 := r1.2.2.1
      refine ev_goto 47 eX12_readSort_29 rfl ?_
      refine ev_aload_n eX12_readSort_47 rfl ?_
      refine ev_getiv eX12_readSort_48 fX12_112 rfl r1.2.2.2.1 ?_
      refine ev_if_le 55 eX12_readSort_51 rfl (by omega) (fun h51 => False.elim (by omega)) (fun h51 => ?_)
      refine ev_ret eX12_readSort_54 rfl ?_
      rw [sBad_z hq] at r1
      rw [sSort_e, if_neg (by omega), if_pos (by omega)]
      exact ⟨rfl, r1, f1.w, fun z => absurd (show (1 : Nat) = 0 from z) (by decide)⟩
