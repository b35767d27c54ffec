/-! the reference: ways back -/
noncomputable def wN (B : Bok) (l : Nat → Nat) (n : Nat) (N : Nat → Nat) (a : Nat) : Nat → Nat := wstep B l n N a
def Nw (B : Bok) (l : Nat → Nat) (n : Nat) (N : Nat → Nat) : Prop := N n = 1 ∧ ∀ a, a < n → N a = sumF (wstep B l n N a) (B 2)
theorem Nw_ex {B : Bok} (hO : Ok B) (l : Nat → Nat) (n : Nat) : ∃ N, Nw B l n N := by
  have h : ∀ k, k ≤ n → ∃ N : Nat → Nat, N n = 1 ∧ ∀ a, n - k ≤ a → a < n → N a = sumF (wstep B l n N a) (B 2) := by
    intro k
    induction k with
    | zero => exact fun _ => ⟨fun _ => 1, rfl, fun a h1 h2 => by omega⟩
    | succ k ih =>
      intro hk
      obtain ⟨N, h1, h2⟩ := ih (by omega)
      refine ⟨upB N (n - (k + 1)) (sumF (wstep B l n N (n - (k + 1))) (B 2)), by rw [upB_n _ _ (by omega)]; exact h1, fun a a1 a2 => ?_⟩
      have hc : ∀ a, n - (k + 1) ≤ a → sumF (wstep B l n (upB N (n - (k + 1)) (sumF (wstep B l n N (n - (k + 1))) (B 2))) a) (B 2) = sumF (wstep B l n N a) (B 2) := fun a ha => sumF_cg (fun s hs => by
        by_cases e : LAc B l n s a
        · rw [ws_t e, ws_t e, upB_n _ _ (by have := hO.im1 hs; omega)]
        · rw [ws_f e, ws_f e])
      rw [hc a a1]
      by_cases e : a = n - (k + 1)
      · subst e; exact upB_s _ _ _
      · rw [upB_n _ _ e]; exact h2 a (by omega) a2
  obtain ⟨N, h1, h2⟩ := h n (Nat.le_refl _)
  exact ⟨N, h1, fun a ha => h2 a (by omega) ha⟩
theorem min_add (a b c : Nat) : min (min a c + min b c) c = min (a + b) c := by omega
theorem sumF_min (f : Nat → Nat) (c : Nat) : ∀ n, min (sumF (fun i => min (f i) c) n) c = min (sumF f n) c
  | 0 => rfl
  | n + 1 => by
    have ih := sumF_min f c n
    rw [sumF_s, sumF_s]
    show min (sumF (fun i => min (f i) c) n + min (f n) c) c = _
    omega
theorem Wy_N {B : Bok} (hO : Ok B) {l : Nat → Nat} {n : Nat} {N F : Nat → Nat} (hN : Nw B l n N) (hF : Wy B l n F) : ∀ k a, a ≤ n → n - a ≤ k → F a = min (N a) CR := by
  intro k
  induction k with
  | zero =>
    intro a h1 h2
    obtain rfl : a = n := by omega
    rw [hF.1, hN.1]
    rfl
  | succ k ih =>
    intro a h1 h2
    by_cases e : a = n
    · subst e
      rw [hF.1, hN.1]
      rfl
    · rw [hF.2 a (by omega), hN.2 a (by omega), ← sumF_min (wstep B l n N a)]
      congr 1
      refine sumF_cg (fun s hs => ?_)
      by_cases e2 : LAc B l n s a
      · rw [ws_t e2, ws_t e2]
        exact ih _ e2.1 (by have := hO.im1 hs; omega)
      · rw [ws_f e2, ws_f e2]
        rfl
theorem sumF_pos {f : Nat → Nat} {n : Nat} : 0 < sumF f n ↔ ∃ s, s < n ∧ 0 < f s := by
  constructor
  · intro h
    refine Classical.byContradiction (fun z => ?_)
    have : sumF f n = 0 := sumF_0 (fun i hi => by
      rcases Nat.eq_zero_or_pos (f i) with q | q
      · exact q
      · exact absurd ⟨i, hi, q⟩ z)
    omega
  · rintro ⟨s, hs, h⟩
    have := sumF_ge (f := f) hs
    omega
def Gn (B : Bok) (l : Nat → Nat) (n : Nat) (N : Nat → Nat) (a s : Nat) : Prop := LAc B l n s a ∧ 0 < N (a + im B s)
theorem ws_p {B : Bok} {l : Nat → Nat} {n : Nat} {N : Nat → Nat} {a s : Nat} : 0 < wstep B l n N a s ↔ Gn B l n N a s := by
  by_cases e : LAc B l n s a
  · rw [ws_t e]; exact ⟨fun h => ⟨e, h⟩, fun h => h.2⟩
  · rw [ws_f e]; exact ⟨fun h => absurd h (by omega), fun h => absurd h.1 e⟩
theorem N_p {B : Bok} {l : Nat → Nat} {n : Nat} {N : Nat → Nat} (hN : Nw B l n N) {a : Nat} (ha : a < n) : 0 < N a ↔ ∃ s, s < B 2 ∧ Gn B l n N a s := by
  rw [hN.2 a ha, sumF_pos]
  exact ⟨fun ⟨s, h1, h2⟩ => ⟨s, h1, ws_p.1 h2⟩, fun ⟨s, h1, h2⟩ => ⟨s, h1, ws_p.2 h2⟩⟩
-- isImageAt
def La (B : Bok) (l : Nat → Nat) (n s a k : Nat) : Prop := a + im B s ≤ n ∧ ∀ i, i < k → l (a + i) = il B s i
set_option maxRecDepth 20000 in
theorem m_iia_l {d : Nat} {σ : St} {B : Bok} (hM : MBk σ 49 B) (hO : Ok B) {l : Nat → Nat} {q n : Nat} (hq : q < 8) (hn : n ≤ 40) (hit : ∀ j, j < n → l j < 4 ∧ σ 48 (40 * q + j) = (l j : Int)) {s a : Nat} (hs : s < B 2) (ha : a ≤ n) : ∀ (fu : Nat) {k : Nat} {z : Int}, im B s - k < fu → k ≤ im B s → z = bC (La B l n s a k) → Ev (d + 2) mX12_isImageAt 25 [.ref 45, vi s, vi q, vi a, vi n, vi z, vi k] [] σ (rt (vi (bC (LAc B l n s a))) σ) := by
  intro fu
  induction fu with
  | zero => intros; omega
  | succ fu ih =>
    intro k z hm h1 ha2
    subst ha2
    have hf := hO.1
    have h7 := hf.2.1
    have him := im_le hf (s := s) (by omega)
    refine ev_iload eX12_isImageAt_25 rfl ?_
    refine ev_aload_n eX12_isImageAt_27 rfl ?_
    refine ev_getr eX12_isImageAt_28 fX12_19 rfl ?_
    refine ev_iload_n eX12_isImageAt_31 rfl ?_
    refine ev_cS2 eX12_isImageAt_32 ⟨lX12_100, kX12_imageSize⟩ rfl (m_imageSize (Or.inl rfl) hM hf (s := s) (by omega)) ?_
    rintro _ _ ⟨rfl, rfl⟩
    refine ev_icmp_ge 83 eX12_isImageAt_35 rfl (by omega) (by omega) (fun h35 => ?_) (fun h35 => ?_)
    · skip
      refine ev_iload eX12_isImageAt_83 rfl ?_
      refine ev_zret eX12_isImageAt_85 rfl (by first | exact Or.inl rfl | exact Or.inr rfl | exact bI01 _) ?_
      exact ⟨congrArg (fun q => some (vi q)) (by rw [show k = im B s by omega]; rfl), rfl⟩
    · skip
      refine ev_iload eX12_isImageAt_38 rfl ?_
      refine ev_ifb_eq 83 eX12_isImageAt_40 rfl (fun hz => ?_) (fun hz => ?_)
      · skip
        refine ev_iload eX12_isImageAt_83 rfl ?_
        refine ev_zret eX12_isImageAt_85 rfl (by first | exact Or.inl rfl | exact Or.inr rfl | exact bI01 _) ?_
        exact ⟨congrArg (fun q => some (vi q)) ((bI_f (fun y => hz ⟨y.1, fun i hi => y.2 i (by omega)⟩)).trans (bI_f hz).symm), rfl⟩
      · skip
        refine ev_aload_n eX12_isImageAt_43 rfl ?_
        refine ev_getr eX12_isImageAt_44 fX12_16 rfl ?_
        refine ev_bipush eX12_isImageAt_47 rfl ?_
        refine ev_iload_n eX12_isImageAt_49 rfl ?_
        refine ev_imul eX12_isImageAt_50 ?_
        refine ev_iload_n eX12_isImageAt_51 rfl ?_
        refine ev_iadd eX12_isImageAt_52 ?_
        refine ev_iload eX12_isImageAt_53 rfl ?_
        refine ev_iadd eX12_isImageAt_55 ?_
        have hl4 := (hit (a + k) (by have := hz.1; omega)).1
        have hzl := hz.1
        refine ev_ialdv (40 * q + (a + k)) eX12_isImageAt_56 rfl (by first | rfl | omega) (by omega) (hit (a + k) (by have := hz.1; omega)).2 ?_
        refine ev_aload_n eX12_isImageAt_57 rfl ?_
        refine ev_getr eX12_isImageAt_58 fX12_19 rfl ?_
        refine ev_iload_n eX12_isImageAt_61 rfl ?_
        refine ev_iload eX12_isImageAt_62 rfl ?_
        refine ev_cS3 eX12_isImageAt_64 ⟨lX12_103, kX12_imageAt⟩ rfl (m_imageAt (Or.inl rfl) hM hf (s := s) (i := k) (by omega) (by omega)) ?_
        rintro _ _ ⟨rfl, rfl⟩
        have hil := hO.il2 hs (i := k) (by omega)
        refine ev_icmp_ne 74 eX12_isImageAt_67 rfl (by omega) (by omega) (fun h67 => ?_) (fun h67 => ?_)
        · skip
          refine ev_iconst eX12_isImageAt_74 ?_
          refine ev_istore eX12_isImageAt_75 (by decide) ?_
          refine ev_iinc eX12_isImageAt_77 rfl (by decide) ?_
          refine ev_goto 25 eX12_isImageAt_80 rfl ?_
          exact ih (k := k + 1) (by omega) (by omega) (bI_f (fun y => h67 (by have := y.2 k (by omega); omega))).symm
        · skip
          refine ev_iconst eX12_isImageAt_70 ?_
          refine ev_goto 75 eX12_isImageAt_71 rfl ?_
          refine ev_istore eX12_isImageAt_75 (by decide) ?_
          refine ev_iinc eX12_isImageAt_77 rfl (by decide) ?_
          refine ev_goto 25 eX12_isImageAt_80 rfl ?_
          refine ih (k := k + 1) (by omega) (by omega) (bI_t (show La B l n s a (k + 1) from ⟨hz.1, fun i hi => ?_⟩)).symm
          by_cases e : i = k
          · subst e; omega
          · exact hz.2 i (by omega)
set_option maxRecDepth 20000 in
theorem m_isImageAt {d : Nat} {σ : St} {B : Bok} (hM : MBk σ 49 B) (hO : Ok B) {l : Nat → Nat} {q n : Nat} (hq : q < 8) (hn : n ≤ 40) (hit : ∀ j, j < n → l j < 4 ∧ σ 48 (40 * q + j) = (l j : Int)) {s a : Nat} (hs : s < B 2) (ha : a ≤ n) : Ct (d + 2) mX12_isImageAt [.ref 45, vi s, vi q, vi a, vi n] σ (rt (vi (bC (LAc B l n s a))) σ) := by
  refine ct_of hX12_isImageAt (Nat.le_of_ble_eq_true rfl) ?_
  have hf := hO.1
  have h7 := hf.2.1
  have him := im_le hf (s := s) (by omega)
  refine ev_iload_n eX12_isImageAt_0 rfl ?_
  refine ev_aload_n eX12_isImageAt_1 rfl ?_
  refine ev_getr eX12_isImageAt_2 fX12_19 rfl ?_
  refine ev_iload_n eX12_isImageAt_5 rfl ?_
  refine ev_cS2 eX12_isImageAt_6 ⟨lX12_100, kX12_imageSize⟩ rfl (m_imageSize (Or.inl rfl) hM hf (s := s) (by omega)) ?_
  rintro _ _ ⟨rfl, rfl⟩
  refine ev_iadd eX12_isImageAt_9 ?_
  refine ev_iload eX12_isImageAt_10 rfl ?_
  refine ev_icmp_gt 19 eX12_isImageAt_12 rfl (by omega) (by omega) (fun h12 => ?_) (fun h12 => ?_)
  · skip
    refine ev_iconst eX12_isImageAt_19 ?_
    refine ev_istore eX12_isImageAt_20 (by decide) ?_
    refine ev_iconst eX12_isImageAt_22 ?_
    refine ev_istore eX12_isImageAt_23 (by decide) ?_
    exact m_iia_l hM hO hq hn hit hs ha 5 (k := 0) (by omega) (by omega) (bI_f (fun z => by have := z.1; omega)).symm
  · skip
    refine ev_iconst eX12_isImageAt_15 ?_
    refine ev_goto 20 eX12_isImageAt_16 rfl ?_
    refine ev_istore eX12_isImageAt_20 (by decide) ?_
    refine ev_iconst eX12_isImageAt_22 ?_
    refine ev_istore eX12_isImageAt_23 (by decide) ?_
    exact m_iia_l hM hO hq hn hit hs ha 5 (k := 0) (by omega) (by omega) (bI_t (show La B l n s a 0 from ⟨by omega, fun i hi => by omega⟩)).symm
theorem sumF_at {f : Nat → Nat} {j x : Nat} : ∀ m, j < m → sumF (fun k => if k = j then f k + x else f k) m = sumF f m + x
  | 0, h => by omega
  | m + 1, h => by
    rw [sumF_s, sumF_s]
    by_cases e : j = m
    · subst e
      rw [if_pos rfl, sumF_cg (g := f) (fun i hi => if_neg (by omega))]
      omega
    · rw [if_neg (fun z => e z.symm), sumF_at m (by omega)]
      omega
def Tw (N U : Nat → Nat) (n i : Nat) : Nat := sumF (fun j => if i < j then U j * N j else 0) (n + 1)
theorem Tw_up {N U : Nat → Nat} {n i j x : Nat} (h1 : i < j) (h2 : j ≤ n) : Tw N (upB U j (U j + x)) n i = Tw N U n i + x * N j := by
  unfold Tw
  rw [← sumF_at (f := fun j => if i < j then U j * N j else 0) (j := j) (n + 1) (by omega)]
  refine sumF_cg (fun k hk => ?_)
  by_cases e : k = j
  · subst e
    rw [if_pos h1, if_pos rfl, if_pos h1, upB_s, Nat.add_mul]
  · rw [if_neg e, upB_n _ _ e]
theorem Tw_s {N U : Nat → Nat} {n i : Nat} (h : i < n) : Tw N U n i = Tw N U n (i + 1) + U (i + 1) * N (i + 1) := by
  unfold Tw
  rw [← sumF_at (f := fun j => if i + 1 < j then U j * N j else 0) (j := i + 1) (n + 1) (by omega)]
  refine sumF_cg (fun k hk => ?_)
  by_cases e : k = i + 1
  · subst e
    rw [if_pos (by omega), if_pos rfl, if_neg (by omega), Nat.zero_add]
  · rw [if_neg e]
    by_cases e2 : i < k
    · rw [if_pos e2, if_pos (by omega)]
    · rw [if_neg e2, if_neg (by omega)]
theorem Tw_n (N U : Nat → Nat) (n : Nat) : Tw N U n n = 0 := sumF_0 (fun j hj => if_neg (by omega))
theorem Tw_0 {N : Nat → Nat} {n : Nat} : Tw N (fun j => if j = 0 then 1 else 0) n 0 = 0 := sumF_0 (fun j hj => by
  by_cases e : 0 < j
  · rw [if_pos e]
    show (if j = 0 then 1 else 0) * N j = 0
    rw [if_neg (by omega), Nat.zero_mul]
  · exact if_neg e)
def Wv (τ : St) (n : Nat) (U : Nat → Nat) : Prop := ∀ j, j ≤ n → τ 58 j = ((min (U j) CR : Nat) : Int)
theorem Wv.up {τ : St} {n : Nat} {U : Nat → Nat} (h : Wv τ n U) {j x : Nat} : Wv (up τ 58 j ((min x CR : Nat) : Int)) n (upB U j x) := fun k hk => by
  by_cases e : k = j
  · subst e; rw [up_s, upB_s]
  · rw [up_n _ _ e, upB_n _ _ e]; exact h k hk
set_option maxRecDepth 20000 in
theorem m_lw_s {d : Nat} {σ : St} {B : Bok} (hM : MBk σ 49 B) (hO : Ok B) {l : Nat → Nat} {q n : Nat} (hq : q < 8) (hn : n ≤ 40) (hit : ∀ j, j < n → l j < 4 ∧ σ 48 (40 * q + j) = (l j : Int)) {N : Nat → Nat} {i : Nat} (hi : i < n) {post : Option Value → St → Prop} (hk : ∀ (τ : St) (U : Nat → Nat) (u : Value), Wv τ n U → Tw N U n i = N 0 → (∀ j, j ≤ n → τ 59 j = bC (j = n)) → (∀ c, c ≠ 58 → c ≠ 59 → τ c = σ c) → Ev (d + 3) mX12_layWays 143 [.ref 45, vi q, vi n, vi i, vi (B 2), u] [] τ post) (hNi : N i = sumF (wstep B l n N i) (B 2)) : ∀ (fu : Nat) {s : Nat} {U : Nat → Nat} {u5 : Value} {τ : St}, B 2 - s < fu → s ≤ B 2 → Wv τ n U → Tw N U n i + U i * N i = N 0 + U i * sumF (wstep B l n N i) s → (∀ j, j ≤ n → τ 59 j = bC (j = n)) → (∀ c, c ≠ 58 → c ≠ 59 → τ c = σ c) → Ev (d + 3) mX12_layWays 54 [.ref 45, vi q, vi n, vi i, vi s, u5] [] τ (post) := by
  intro fu
  induction fu with
  | zero => intros; omega
  | succ fu ih =>
    intro s U u5 τ hm h1 h2 h3 h5 h4
    have hf := hO.1
    have h7 := hf.2.1
    have him := fun h => im_le hf (s := s) h
    refine ev_iload eX12_layWays_54 rfl ?_
    refine ev_aload_n eX12_layWays_56 rfl ?_
    refine ev_getr eX12_layWays_57 fX12_19 rfl ?_
    refine ev_iconst eX12_layWays_60 ?_
    refine ev_ialdv (0) eX12_layWays_61 rfl (by first | rfl | omega) (by omega) (show τ 49 0 = (B 2 : Int) by rw [h4 49 (by decide) (by decide)]; exact hM.S) ?_
    refine ev_icmp_ge 143 eX12_layWays_62 rfl (by omega) (by omega) (fun h62 => ?_) (fun h62 => ?_)
    · skip
      obtain rfl : s = B 2 := by omega
      exact hk τ U _ h2 (by rw [hNi] at h3; omega) h5 h4
    · skip
      refine ev_iload_n eX12_layWays_65 rfl ?_
      refine ev_aload_n eX12_layWays_66 rfl ?_
      refine ev_getr eX12_layWays_67 fX12_19 rfl ?_
      refine ev_iload eX12_layWays_70 rfl ?_
      refine ev_cS2 eX12_layWays_72 ⟨lX12_100, kX12_imageSize⟩ rfl (m_imageSize (Or.inl rfl) (hM.of (h4 49 (by decide) (by decide))) hf (s := s) (by omega)) ?_
      rintro _ _ ⟨rfl, rfl⟩
      refine ev_iadd eX12_layWays_75 ?_
      refine ev_istore eX12_layWays_76 (by decide) ?_
      refine ev_aload_n eX12_layWays_78 rfl ?_
      refine ev_iload eX12_layWays_79 rfl ?_
      refine ev_iload_n eX12_layWays_81 rfl ?_
      refine ev_iload_n eX12_layWays_82 rfl ?_
      refine ev_iload_n eX12_layWays_83 rfl ?_
      refine ev_cV4 eX12_layWays_84 ⟨lX12_262, kX12_isImageAt⟩ rfl rfl (m_isImageAt (hM.of (h4 49 (by decide) (by decide))) hO hq hn (fun j hj => ⟨(hit j hj).1, by rw [h4 48 (by decide) (by decide)]; exact (hit j hj).2⟩) (s := s) (a := i) (by omega) (by omega)) ?_
      rintro _ _ ⟨rfl, rfl⟩
      refine ev_ifb_eq 137 eX12_layWays_87 rfl (fun hla => ?_) (fun hla => ?_)
      · skip
        refine ev_iinc eX12_layWays_137 rfl (by decide) ?_
        refine ev_goto 54 eX12_layWays_140 rfl ?_
        exact ih (s := s + 1) (U := U) (by omega) (by omega) h2 (by rw [sumF_s, ws_f hla, Nat.add_zero]; exact h3) h5 h4
      · skip
        have hle := hla.1
        have hw1 := h2 (i + im B s) (by omega)
        have hw2 := h2 i (by omega)
        have hcr := CRe
        have hm1 := min_add (U (i + im B s)) (U i) CR
        have him1 := hO.im1 (s := s) (by omega)
        refine ev_aload_n eX12_layWays_90 rfl ?_
        refine ev_getr eX12_layWays_91 fX12_47 rfl ?_
        refine ev_iload eX12_layWays_94 rfl ?_
        refine ev_aload_n eX12_layWays_96 rfl ?_
        refine ev_getr eX12_layWays_97 fX12_47 rfl ?_
        refine ev_iload eX12_layWays_100 rfl ?_
        refine ev_ialdv ((i + im B s)) eX12_layWays_102 rfl (by first | rfl | omega) (by omega) hw1 ?_
        refine ev_aload_n eX12_layWays_103 rfl ?_
        refine ev_getr eX12_layWays_104 fX12_47 rfl ?_
        refine ev_iload_n eX12_layWays_107 rfl ?_
        refine ev_ialdv (i) eX12_layWays_108 rfl (by first | rfl | omega) (by omega) hw2 ?_
        refine ev_iadd eX12_layWays_109 ?_
        refine ev_ldc_w eX12_layWays_110 qX12_266 ?_
        refine ev_icmp_le 122 eX12_layWays_113 rfl (by omega) (by omega) (fun h113 => ?_) (fun h113 => ?_)
        · skip
          refine ev_aload_n eX12_layWays_122 rfl ?_
          refine ev_getr eX12_layWays_123 fX12_47 rfl ?_
          refine ev_iload eX12_layWays_126 rfl ?_
          refine ev_ialdv ((i + im B s)) eX12_layWays_128 rfl (by first | rfl | omega) (by omega) hw1 ?_
          refine ev_aload_n eX12_layWays_129 rfl ?_
          refine ev_getr eX12_layWays_130 fX12_47 rfl ?_
          refine ev_iload_n eX12_layWays_133 rfl ?_
          refine ev_ialdv (i) eX12_layWays_134 rfl (by first | rfl | omega) (by omega) hw2 ?_
          refine ev_iadd eX12_layWays_135 ?_
          rw [show (((min (U (i + im B s)) CR : Nat) : Int) + ((min (U i) CR : Nat) : Int)) = ((min (U (i + im B s) + U i) CR : Nat) : Int) by omega]
          refine ev_iast (i + im B s) eX12_layWays_136 rfl (by first | rfl | omega) (by omega) ?_
          refine ev_iinc eX12_layWays_137 rfl (by decide) ?_
          refine ev_goto 54 eX12_layWays_140 rfl ?_
          refine ih (s := s + 1) (U := upB U (i + im B s) (U (i + im B s) + U i)) (by omega) (by omega) h2.up ?_ (fun j hj => by rw [up_o _ _ _ (by decide)]; exact h5 j hj) (fun c a1 a2 => by rw [up_o _ _ _ a1]; exact h4 c a1 a2)
          rw [Tw_up (by omega) (by omega), upB_n _ _ (by omega), sumF_s, ws_t hla, Nat.mul_add]
          omega
        · skip
          refine ev_ldc_w eX12_layWays_116 qX12_266 ?_
          refine ev_goto 136 eX12_layWays_119 rfl ?_
          rw [show (1000000 : Int) = ((min (U (i + im B s) + U i) CR : Nat) : Int) by omega]
          refine ev_iast (i + im B s) eX12_layWays_136 rfl (by first | rfl | omega) (by omega) ?_
          refine ev_iinc eX12_layWays_137 rfl (by decide) ?_
          refine ev_goto 54 eX12_layWays_140 rfl ?_
          refine ih (s := s + 1) (U := upB U (i + im B s) (U (i + im B s) + U i)) (by omega) (by omega) h2.up ?_ (fun j hj => by rw [up_o _ _ _ (by decide)]; exact h5 j hj) (fun c a1 a2 => by rw [up_o _ _ _ a1]; exact h4 c a1 a2)
          rw [Tw_up (by omega) (by omega), upB_n _ _ (by omega), sumF_s, ws_t hla, Nat.mul_add]
          omega
set_option maxRecDepth 20000 in
theorem m_lw_i {d : Nat} {σ : St} {B : Bok} (hM : MBk σ 49 B) (hO : Ok B) {l : Nat → Nat} {q n : Nat} (hq : q < 8) (hn : n ≤ 40) (hit : ∀ j, j < n → l j < 4 ∧ σ 48 (40 * q + j) = (l j : Int)) {N : Nat → Nat} (hN : Nw B l n N) {post : Option Value → St → Prop} (hk : ∀ (τ : St) (U : Nat → Nat) (u4 u5 : Value), Wv τ n U → U n = N 0 → (∀ j, j ≤ n → τ 59 j = bC (j = n)) → (∀ c, c ≠ 58 → c ≠ 59 → τ c = σ c) → Ev (d + 3) mX12_layWays 149 [.ref 45, vi q, vi n, vi n, u4, u5] [] τ post) : ∀ (fu : Nat) {i : Nat} {U : Nat → Nat} {u4 u5 : Value} {τ : St}, n - i < fu → i ≤ n → Wv τ n U → Tw N U n i + U i * N i = N 0 → (∀ j, j ≤ n → τ 59 j = bC (j = n)) → (∀ c, c ≠ 58 → c ≠ 59 → τ c = σ c) → Ev (d + 3) mX12_layWays 46 [.ref 45, vi q, vi n, vi i, u4, u5] [] τ (post) := by
  intro fu
  induction fu with
  | zero => intros; omega
  | succ fu ih =>
    intro i U u4 u5 τ hm h1 h2 h3 h5 h4
    have hf := hO.1
    have h7 := hf.2.1
    refine ev_iload_n eX12_layWays_46 rfl ?_
    refine ev_iload_n eX12_layWays_47 rfl ?_
    refine ev_icmp_ge 149 eX12_layWays_48 rfl (by omega) (by omega) (fun h48 => ?_) (fun h48 => ?_)
    · skip
      obtain rfl : i = n := by omega
      exact hk τ U _ _ h2 (by rw [Tw_n, hN.1] at h3; omega) h5 h4
    · skip
      refine ev_iconst eX12_layWays_51 ?_
      refine ev_istore eX12_layWays_52 (by decide) ?_
      refine m_lw_s hM hO hq hn hit (N := N) (i := i) (by omega) (fun τ U2 u k1 k2 k3 k4 => ?_) (hN.2 i (by omega)) 5 (s := 0) (U := U) (by omega) (by omega) h2 (by show _ = N 0 + U i * 0; rw [Nat.mul_zero]; exact h3) h5 h4
      refine ev_iinc eX12_layWays_143 rfl (by decide) ?_
      refine ev_goto 46 eX12_layWays_146 rfl ?_
      exact ih (i := i + 1) (U := U2) (by omega) (by omega) k1 (by rw [← Tw_s (by omega)]; exact k2) k3 k4
