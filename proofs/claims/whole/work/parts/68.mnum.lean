/-! the reference: numbers -/
theorem bC_01 (P : Prop) : bC P = 0 ∨ bC P = 1 := bI01 P
set_option maxRecDepth 20000 in
theorem m_plus {d : Nat} {σ : St} {P : Prop} (hb : σ 45 23 = bC P) {x y : Nat} (hx : x ≤ MX) (hy : y ≤ MX) : Ct (d) mX12_plus [.ref 45, vl x, vl y] σ (fun r τ => ∃ u : Nat, some (vl (u : Int)) = r ∧ u ≤ MX ∧ (¬ (P ∨ MX < x + y) → u = x + y) ∧ up σ 45 23 (bC (P ∨ MX < x + y)) = τ) := by
  refine ct_of hX12_plus (Nat.le_of_ble_eq_true rfl) ?_
  have hMX := MXe
  refine ev_aload_n eX12_plus_0 rfl ?_
  refine ev_aload_n eX12_plus_1 rfl ?_
  refine ev_getiv eX12_plus_2 fX12_229 rfl hb ?_
  refine ev_ifb_ne 18 eX12_plus_5 rfl (fun h5 => ?_) (fun h5 => ?_)
  · skip
    refine ev_iconst eX12_plus_18 ?_
    refine ev_goto 23 eX12_plus_19 rfl ?_
    have hq : P ∨ MX < x + y := Or.inl h5
    rw [show (1 : Int) = bC (P ∨ MX < x + y) from (bI_t hq).symm]
    refine ev_putz eX12_plus_23 pX12_229 rfl (by first | exact Or.inl rfl | exact Or.inr rfl | exact bI01 _) ?_
    refine ev_aload_n eX12_plus_26 rfl ?_
    refine ev_getiv eX12_plus_27 fX12_229 rfl (up_s _ _ _ _) ?_
    refine ev_ifb_eq 37 eX12_plus_30 rfl (fun hz => False.elim (by exact hz hq)) (fun hz => ?_)
    refine ev_lconst 0 eX12_plus_33 rfl ?_
    refine ev_goto 40 eX12_plus_34 rfl ?_
    refine ev_lret eX12_plus_40 rfl ?_
    exact ⟨0, rfl, by omega, fun z => absurd hq z, rfl⟩
  · skip
    refine ev_lload_n eX12_plus_8 rfl ?_
    refine ev_ldc2 eX12_plus_9 qX12_233 ?_
    refine ev_lload_n eX12_plus_12 rfl ?_
    refine ev_lsub eX12_plus_13 ?_
    refine ev_lif_le 22 eX12_plus_14 eX12_plus_15 rfl (by omega) (by omega) (fun h14 => ?_) (fun h14 => ?_)
    · skip
      refine ev_iconst eX12_plus_22 ?_
      have hq : ¬ (P ∨ MX < x + y) := fun z => z.elim h5 (fun z => by omega)
      rw [show vi 0 = vi (bC (P ∨ MX < x + y)) from congrArg vi (bI_f hq).symm]
      refine ev_putz eX12_plus_23 pX12_229 rfl (by first | exact Or.inl rfl | exact Or.inr rfl | exact bI01 _) ?_
      refine ev_aload_n eX12_plus_26 rfl ?_
      refine ev_getiv eX12_plus_27 fX12_229 rfl (up_s _ _ _ _) ?_
      refine ev_ifb_eq 37 eX12_plus_30 rfl (fun hz => ?_) (fun hz => False.elim (by exact hq hz))
      refine ev_lload_n eX12_plus_37 rfl ?_
      refine ev_lload_n eX12_plus_38 rfl ?_
      refine ev_ladd eX12_plus_39 ?_
      refine ev_lret eX12_plus_40 rfl ?_
      exact ⟨x + y, congrArg (fun q => some (vl q)) (by omega), by omega, fun _ => rfl, rfl⟩
    · skip
      refine ev_iconst eX12_plus_18 ?_
      refine ev_goto 23 eX12_plus_19 rfl ?_
      have hq : P ∨ MX < x + y := Or.inr (by omega)
      rw [show vi 1 = vi (bC (P ∨ MX < x + y)) from congrArg vi (bI_t hq).symm]
      refine ev_putz eX12_plus_23 pX12_229 rfl (by first | exact Or.inl rfl | exact Or.inr rfl | exact bI01 _) ?_
      refine ev_aload_n eX12_plus_26 rfl ?_
      refine ev_getiv eX12_plus_27 fX12_229 rfl (up_s _ _ _ _) ?_
      refine ev_ifb_eq 37 eX12_plus_30 rfl (fun hz => False.elim (by exact hz hq)) (fun hz => ?_)
      refine ev_lconst 0 eX12_plus_33 rfl ?_
      refine ev_goto 40 eX12_plus_34 rfl ?_
      refine ev_lret eX12_plus_40 rfl ?_
      exact ⟨0, rfl, by omega, fun z => absurd hq z, rfl⟩
def Nf (σ τ : St) : Prop := (∀ j, j ≠ 23 → τ 45 j = σ 45 j) ∧ ∀ c, c ≠ 45 → c ≠ 56 → c ≠ 57 → τ c = σ c
theorem Nf.up23 {σ τ : St} (h : Nf σ τ) (x : Int) : Nf σ (up τ 45 23 x) := ⟨fun j hj => by rw [up_n _ _ hj]; exact h.1 j hj, fun c a1 a2 a3 => by rw [up_o _ _ _ a1]; exact h.2 c a1 a2 a3⟩
theorem Nf.up56 {σ τ : St} (h : Nf σ τ) (j : Nat) (x : Int) : Nf σ (up τ 56 j x) := ⟨fun j hj => by rw [up_o _ _ _ (by decide)]; exact h.1 j hj, fun c a1 a2 a3 => by rw [up_o _ _ _ a2]; exact h.2 c a1 a2 a3⟩
theorem Nf.up57 {σ τ : St} (h : Nf σ τ) (j : Nat) (x : Int) : Nf σ (up τ 57 j x) := ⟨fun j hj => by rw [up_o _ _ _ (by decide)]; exact h.1 j hj, fun c a1 a2 a3 => by rw [up_o _ _ _ a3]; exact h.2 c a1 a2 a3⟩
theorem Nf.bk {σ τ : St} (h : Nf σ τ) {B : Bok} (hM : MBk σ 49 B) : MBk τ 49 B := hM.of (h.2 49 (by decide) (by decide) (by decide))
/-- numbers in a cell: exact, unless Q -/
def Vx (τ : St) (c : Nat) (Q : Prop) (v : Nat → Nat) : Prop := ∀ s, s < 4 → ∃ z : Nat, τ c s = (z : Int) ∧ z ≤ MX ∧ (¬ Q → z = v s)
def NbR (τ : St) (B : Bok) (n : Nat) : Prop := τ 45 23 = bC (ovr B n) ∧ Vx τ 56 (ovr B n) (nm B n)
def pS (B : Bok) (v : Nat → Nat) (k i s : Nat) : Nat := sumF (fun t => v t * cn B t s) k + v k * cntF (il B k) s i
def pQ (B : Bok) (v : Nat → Nat) (k i : Nat) : Prop := ∃ x, x < B 2 ∧ MX < pS B v k i x
theorem pS_s (B : Bok) (v : Nat → Nat) (k i s : Nat) : pS B v k (i + 1) s = pS B v k i s + (if il B k i = s then v k else 0) := by
  unfold pS
  rw [cntF_s]
  split
  · rw [Nat.mul_add, Nat.mul_one, Nat.add_assoc]
  · rw [Nat.add_zero, Nat.add_zero]
theorem pS_n (B : Bok) (v : Nat → Nat) (k s : Nat) : pS B v k (im B k) s = pS B v (k + 1) 0 s := by
  unfold pS
  rw [sumF_s]
  show _ = _ + _ + v (k + 1) * 0
  rw [Nat.mul_zero, Nat.add_zero]
  rfl
theorem pQ_n (B : Bok) (v : Nat → Nat) (k : Nat) : pQ B v k (im B k) = pQ B v (k + 1) 0 := by
  unfold pQ
  rw [show pS B v k (im B k) = pS B v (k + 1) 0 from funext (pS_n B v k)]
theorem pQ_s {B : Bok} {v : Nat → Nat} {k i z : Nat} (hto : il B k i < B 2) (hz : ¬ pQ B v k i → z = pS B v k i (il B k i)) : pQ B v k (i + 1) ↔ (pQ B v k i ∨ MX < z + v k) := by
  constructor
  · rintro ⟨x, hx, h⟩
    by_cases q : pQ B v k i
    · exact Or.inl q
    · right
      rw [pS_s] at h
      by_cases e : il B k i = x
      · subst e
        rw [if_pos rfl] at h
        rw [hz q]; exact h
      · rw [if_neg e, Nat.add_zero] at h
        exact absurd ⟨x, hx, h⟩ q
  · intro h
    by_cases q : pQ B v k i
    · obtain ⟨x, hx, h⟩ := q
      exact ⟨x, hx, by rw [pS_s]; omega⟩
    · have h := h.resolve_left q
      refine ⟨il B k i, hto, ?_⟩
      rw [pS_s, if_pos rfl, ← hz q]
      exact h
theorem ovr_mono {B : Bok} {m n : Nat} (h : m ≤ n) (h2 : ovr B m) : ovr B n := by
  obtain ⟨k, hk, r⟩ := h2
  exact ⟨k, by omega, r⟩
theorem ovr_s {B : Bok} {n : Nat} (h : ¬ ovr B n) : ovr B (n + 1) ↔ pQ B (nm B n) (B 2) 0 := by
  have e : ∀ x, pS B (nm B n) (B 2) 0 x = nm B (n + 1) x := fun x => by
    unfold pS
    show _ + _ * 0 = _
    rw [Nat.mul_zero, Nat.add_zero]
    rfl
  constructor
  · rintro ⟨k, hk, s, hs, hq⟩
    by_cases e2 : k = n + 1
    · subst e2
      exact ⟨s, hs, by rw [e]; exact hq⟩
    · exact absurd ⟨k, by omega, s, hs, hq⟩ h
  · rintro ⟨x, hx, hq⟩
    rw [e] at hq
    exact ⟨n + 1, Nat.le_refl _, x, hx, hq⟩
theorem Vx_up {τ : St} {c : Nat} {Q Q' : Prop} {v v' : Nat → Nat} {j u : Nat} (h : Vx τ c Q v) (hu : u ≤ MX) (hQ : ¬ Q' → ¬ Q) (hj : ¬ Q' → u = v' j) (hv : ∀ s, s ≠ j → v' s = v s) : Vx (up τ c j (u : Int)) c Q' v' := fun s hs => by
  by_cases e : s = j
  · subst e
    exact ⟨u, up_s _ _ _ _, hu, hj⟩
  · obtain ⟨z, h1, h2, h3⟩ := h s hs
    exact ⟨z, by rw [up_n _ _ e]; exact h1, h2, fun q => by rw [hv s e]; exact h3 (hQ q)⟩
theorem Vx.of {τ ν : St} {c : Nat} {Q : Prop} {v : Nat → Nat} (h : Vx τ c Q v) (e : ν c = τ c) : Vx ν c Q v := fun s hs => by rw [e]; exact h s hs
def VaE (τ : St) (c : Nat) (v : Nat → Nat) : Prop := ∀ s, s < 4 → v s ≤ MX ∧ τ c s = (v s : Int)
set_option maxRecDepth 20000 in
theorem m_ln_i {d : Nat} {σ : St} {B : Bok} (hM : MBk σ 49 B) (hO : Ok B) {n g k : Nat} (hk : k < B 2) {post : Option Value → St → Prop} (hq : ∀ (τ : St) (u : Int), VaE τ 56 (nm B g) → τ 45 23 = bC (pQ B (nm B g) (k + 1) 0) → Vx τ 57 (pQ B (nm B g) (k + 1) 0) (pS B (nm B g) (k + 1) 0) → Nf σ τ → ∀ w : Value, Ev (d + 2) mX12_layNumbers 164 [.ref 45, vi n, vi g, vi k, vi u, w] [] τ post) : ∀ (fu : Nat) {i : Nat} {u5 : Value} {τ : St}, im B k - i < fu → i ≤ im B k → VaE τ 56 (nm B g) → τ 45 23 = bC (pQ B (nm B g) k i) → Vx τ 57 (pQ B (nm B g) k i) (pS B (nm B g) k i) → Nf σ τ → Ev (d + 2) mX12_layNumbers 109 [.ref 45, vi n, vi g, vi k, vi i, u5] [] τ (post) := by
  intro fu
  induction fu with
  | zero => intros; omega
  | succ fu ih =>
    intro i u5 τ hm h1 h2 h3 h4 h5
    have hf := hO.1
    have h7 := hf.2.1
    have h8 := hf.2.2.1
    have him := im_le hf (s := k) (by omega)
    refine ev_iload eX12_layNumbers_109 rfl ?_
    refine ev_aload_n eX12_layNumbers_111 rfl ?_
    refine ev_getr eX12_layNumbers_112 fX12_19 rfl ?_
    refine ev_iload_n eX12_layNumbers_115 rfl ?_
    refine ev_cS2 eX12_layNumbers_116 ⟨lX12_100, kX12_imageSize⟩ rfl (m_imageSize (Or.inl rfl) (h5.bk hM) hf (s := k) (by omega)) ?_
    rintro _ _ ⟨rfl, rfl⟩
    refine ev_icmp_ge 164 eX12_layNumbers_119 rfl (by omega) (by omega) (fun h119 => ?_) (fun h119 => ?_)
    · skip
      rw [show i = im B k by omega, pQ_n] at h3 h4
      rw [show pS B (nm B g) k (im B k) = pS B (nm B g) (k + 1) 0 from funext (pS_n B _ k)] at h4
      exact hq τ _ h2 h3 h4 h5 _
    · skip
      refine ev_aload_n eX12_layNumbers_122 rfl ?_
      refine ev_getr eX12_layNumbers_123 fX12_19 rfl ?_
      refine ev_iload_n eX12_layNumbers_126 rfl ?_
      refine ev_iload eX12_layNumbers_127 rfl ?_
      refine ev_cS3 eX12_layNumbers_129 ⟨lX12_103, kX12_imageAt⟩ rfl (m_imageAt (Or.inl rfl) (h5.bk hM) hf (s := k) (i := i) (by omega) (by omega)) ?_
      rintro _ _ ⟨rfl, rfl⟩
      have hto := hO.il2 hk (i := i) (by omega)
      obtain ⟨z, z1, z2, z3⟩ := h4 (il B k i) (by omega)
      obtain ⟨v1, v2⟩ := h2 k (by omega)
      refine ev_istore eX12_layNumbers_132 (by decide) ?_
      refine ev_aload_n eX12_layNumbers_134 rfl ?_
      refine ev_getr eX12_layNumbers_135 fX12_44 rfl ?_
      refine ev_iload eX12_layNumbers_138 rfl ?_
      refine ev_aload_n eX12_layNumbers_140 rfl ?_
      refine ev_aload_n eX12_layNumbers_141 rfl ?_
      refine ev_getr eX12_layNumbers_142 fX12_44 rfl ?_
      refine ev_iload eX12_layNumbers_145 rfl ?_
      refine ev_laldv (il B k i) eX12_layNumbers_147 rfl (by first | rfl | omega) (by omega) z1 ?_
      refine ev_aload_n eX12_layNumbers_148 rfl ?_
      refine ev_getr eX12_layNumbers_149 fX12_40 rfl ?_
      refine ev_iload_n eX12_layNumbers_152 rfl ?_
      refine ev_laldv (k) eX12_layNumbers_153 rfl (by first | rfl | omega) (by omega) v2 ?_
      refine ev_cV2 eX12_layNumbers_154 ⟨lX12_235, kX12_plus⟩ rfl rfl (m_plus h3 (x := z) (y := nm B g k) z2 v1) ?_
      rintro _ τ2 ⟨u, rfl, u1, u2, rfl⟩
      rw [show bC (pQ B (nm B g) k i ∨ MX < z + nm B g k) = bC (pQ B (nm B g) k (i + 1)) from bI_iff (pQ_s hto z3).symm]
      rw [← pQ_s hto z3] at u2
      refine ev_last (il B k i) eX12_layNumbers_157 rfl (by first | rfl | omega) (by omega) ?_
      refine ev_iinc eX12_layNumbers_158 rfl (by decide) ?_
      refine ev_goto 109 eX12_layNumbers_161 rfl ?_
      refine ih (i := i + 1) (by omega) (by omega) ?_ ?_ ?_ ((h5.up23 _).up57 _ _)
      · exact fun s hs => by rw [up_o _ _ _ (by decide), up_o _ _ _ (by decide)]; exact h2 s hs
      · rw [up_o _ _ _ (by decide), up_s]
      · refine Vx_up (v := pS B (nm B g) k i) (Q := pQ B (nm B g) k i) (h4.of (up_o _ _ _ (by decide))) u1 (fun q z => q ((pQ_s hto z3).2 (Or.inl z))) (fun q => ?_) (fun s hs => ?_)
        · rw [u2 q, z3 (fun z => q ((pQ_s hto z3).2 (Or.inl z))), pS_s, if_pos rfl]
        · rw [pS_s, if_neg (fun e => hs e.symm), Nat.add_zero]
set_option maxRecDepth 20000 in
theorem m_ln_k {d : Nat} {σ : St} {B : Bok} (hM : MBk σ 49 B) (hO : Ok B) {n g : Nat} {post : Option Value → St → Prop} (hq : ∀ (τ : St), VaE τ 56 (nm B g) → τ 45 23 = bC (pQ B (nm B g) (B 2) 0) → Vx τ 57 (pQ B (nm B g) (B 2) 0) (pS B (nm B g) (B 2) 0) → Nf σ τ → ∀ u4 w : Value, Ev (d + 2) mX12_layNumbers 170 [.ref 45, vi n, vi g, vi (B 2), u4, w] [] τ post) : ∀ (fu : Nat) {k : Nat} {u4 u5 : Value} {τ : St}, B 2 - k < fu → k ≤ B 2 → VaE τ 56 (nm B g) → τ 45 23 = bC (pQ B (nm B g) k 0) → Vx τ 57 (pQ B (nm B g) k 0) (pS B (nm B g) k 0) → Nf σ τ → Ev (d + 2) mX12_layNumbers 96 [.ref 45, vi n, vi g, vi k, u4, u5] [] τ (post) := by
  intro fu
  induction fu with
  | zero => intros; omega
  | succ fu ih =>
    intro k u4 u5 τ hm h1 h2 h3 h4 h5
    have hf := hO.1
    have h7 := hf.2.1
    have h8 := hf.2.2.1
    refine ev_iload_n eX12_layNumbers_96 rfl ?_
    refine ev_aload_n eX12_layNumbers_97 rfl ?_
    refine ev_getr eX12_layNumbers_98 fX12_19 rfl ?_
    refine ev_iconst eX12_layNumbers_101 ?_
    refine ev_ialdv (0) eX12_layNumbers_102 rfl (by first | rfl | omega) (by omega) (h5.bk hM).S ?_
    refine ev_icmp_ge 170 eX12_layNumbers_103 rfl (by omega) (by omega) (fun h103 => ?_) (fun h103 => ?_)
    · skip
      obtain rfl : k = B 2 := by omega
      exact hq τ h2 h3 h4 h5 _ _
    · skip
      refine ev_iconst eX12_layNumbers_106 ?_
      refine ev_istore eX12_layNumbers_107 (by decide) ?_
      refine m_ln_i hM hO (k := k) (by omega) (fun τ u g1 g2 g3 g4 w => ?_) 5 (i := 0) (by have := im_le hf (s := k) (by omega); omega) (by omega) h2 h3 h4 h5
      refine ev_iinc eX12_layNumbers_164 rfl (by decide) ?_
      refine ev_goto 96 eX12_layNumbers_167 rfl ?_
      exact ih (k := k + 1) (by omega) (by omega) g1 g2 g3 g4
set_option maxRecDepth 20000 in
theorem m_ln_c {d : Nat} {σ : St} {n g : Nat} {u4 u5 : Value} {Q : Prop} {v : Nat → Nat} {post : Option Value → St → Prop} (hq : ∀ (τ : St), Vx τ 56 Q v → (∀ c, c ≠ 56 → τ c = σ c) → Ev (d + 2) mX12_layNumbers 195 [.ref 45, vi n, vi g, vi 4, u4, u5] [] τ post) (hv : Vx σ 57 Q v) : ∀ (fu : Nat) {s : Nat} {τ : St}, 4 - s < fu → s ≤ 4 → (∀ q, q < s → τ 56 q = σ 57 q) → (∀ c, c ≠ 56 → τ c = σ c) → Ev (d + 2) mX12_layNumbers 172 [.ref 45, vi n, vi g, vi s, u4, u5] [] τ (post) := by
  intro fu
  induction fu with
  | zero => intros; omega
  | succ fu ih =>
    intro s τ hm h1 h2 h3
    refine ev_iload_n eX12_layNumbers_172 rfl ?_
    refine ev_iconst eX12_layNumbers_173 ?_
    refine ev_icmp_ge 195 eX12_layNumbers_174 rfl (by omega) (by omega) (fun h174 => ?_) (fun h174 => ?_)
    · skip
      obtain rfl : s = 4 := by omega
      exact hq τ (fun q hq => by rw [h2 q hq]; exact hv q hq) h3
    · skip
      refine ev_aload_n eX12_layNumbers_177 rfl ?_
      refine ev_getr eX12_layNumbers_178 fX12_40 rfl ?_
      refine ev_iload_n eX12_layNumbers_181 rfl ?_
      refine ev_aload_n eX12_layNumbers_182 rfl ?_
      refine ev_getr eX12_layNumbers_183 fX12_44 rfl ?_
      refine ev_iload_n eX12_layNumbers_186 rfl ?_
      refine ev_laldv (s) eX12_layNumbers_187 rfl (by first | rfl | omega) (by omega) (show τ 57 s = σ 57 s by rw [h3 57 (by decide)]) ?_
      refine ev_last (s) eX12_layNumbers_188 rfl (by first | rfl | omega) (by omega) ?_
      refine ev_iinc eX12_layNumbers_189 rfl (by decide) ?_
      refine ev_goto 172 eX12_layNumbers_192 rfl ?_
      refine ih (s := s + 1) (by omega) (by omega) (fun q hq => ?_) (fun c hc => by rw [up_o _ _ _ hc]; exact h3 c hc)
      by_cases e : q = s
      · subst e; exact up_s _ _ _ _
      · rw [up_n _ _ e]; exact h2 q (by omega)
set_option maxRecDepth 20000 in
theorem m_ln_z {d : Nat} {σ : St} {n g : Nat} {u4 u5 : Value} {post : Option Value → St → Prop} (hq : ∀ (τ : St), (∀ q, q < 4 → τ 57 q = 0) → (∀ c, c ≠ 57 → τ c = σ c) → Ev (d + 2) mX12_layNumbers 94 [.ref 45, vi n, vi g, vi 4, u4, u5] [] τ post) : ∀ (fu : Nat) {s : Nat} {τ : St}, 4 - s < fu → s ≤ 4 → (∀ q, q < s → τ 57 q = 0) → (∀ c, c ≠ 57 → τ c = σ c) → Ev (d + 2) mX12_layNumbers 76 [.ref 45, vi n, vi g, vi s, u4, u5] [] τ (post) := by
  intro fu
  induction fu with
  | zero => intros; omega
  | succ fu ih =>
    intro s τ hm h1 h2 h3
    refine ev_iload_n eX12_layNumbers_76 rfl ?_
    refine ev_iconst eX12_layNumbers_77 ?_
    refine ev_icmp_ge 94 eX12_layNumbers_78 rfl (by omega) (by omega) (fun h78 => ?_) (fun h78 => ?_)
    · skip
      obtain rfl : s = 4 := by omega
      exact hq τ h2 h3
    · skip
      refine ev_aload_n eX12_layNumbers_81 rfl ?_
      refine ev_getr eX12_layNumbers_82 fX12_44 rfl ?_
      refine ev_iload_n eX12_layNumbers_85 rfl ?_
      refine ev_lconst 0 eX12_layNumbers_86 rfl ?_
      refine ev_last (s) eX12_layNumbers_87 rfl (by first | rfl | omega) (by omega) ?_
      refine ev_iinc eX12_layNumbers_88 rfl (by decide) ?_
      refine ev_goto 76 eX12_layNumbers_91 rfl ?_
      refine ih (s := s + 1) (by omega) (by omega) (fun q hq => ?_) (fun c hc => by rw [up_o _ _ _ hc]; exact h3 c hc)
      by_cases e : q = s
      · subst e; exact up_s _ _ _ _
      · rw [up_n _ _ e]; exact h2 q (by omega)
set_option maxRecDepth 20000 in
theorem m_ln_g {d : Nat} {σ : St} {B : Bok} (hM : MBk σ 49 B) (hO : Ok B) {n : Nat} (hn : n ≤ 60) : ∀ (fu : Nat) {g : Nat} {u3 u4 u5 : Value} {τ : St}, n - g < fu → g ≤ n → NbR τ B g → Nf σ τ → Ev (d + 2) mX12_layNumbers 62 [.ref 45, vi n, vi g, u3, u4, u5] [] τ (fun r τ => none = r ∧ NbR τ B n ∧ Nf σ τ) := by
  intro fu
  induction fu with
  | zero => intros; omega
  | succ fu ih =>
    intro g u3 u4 u5 τ hm h1 h2 h5
    have hf := hO.1
    have h7 := hf.2.1
    have h8 := hf.2.2.1
    refine ev_iload_n eX12_layNumbers_62 rfl ?_
    refine ev_iload_n eX12_layNumbers_63 rfl ?_
    refine ev_icmp_ge 201 eX12_layNumbers_64 rfl (by omega) (by omega) (fun h64 => ?_) (fun h64 => ?_)
    · skip
      refine ev_ret eX12_layNumbers_201 rfl ?_
      obtain rfl : g = n := by omega
      exact ⟨rfl, h2, h5⟩
    · skip
      refine ev_aload_n eX12_layNumbers_67 rfl ?_
      refine ev_getiv eX12_layNumbers_68 fX12_229 rfl h2.1 ?_
      refine ev_ifb_ne 201 eX12_layNumbers_71 rfl (fun hnq => ?_) (fun hnq => ?_)
      · skip
        refine ev_ret eX12_layNumbers_201 rfl ?_
        have ho := ovr_mono (n := n) (by omega) hnq
        refine ⟨rfl, ⟨h2.1.trans (bI_iff ⟨fun _ => ho, fun _ => hnq⟩), fun s hs => ?_⟩, h5⟩
        obtain ⟨z, z1, z2, z3⟩ := h2.2 s hs
        exact ⟨z, z1, z2, fun q => absurd ho q⟩
      · skip
        have hve : VaE τ 56 (nm B g) := fun s hs => by
          obtain ⟨z, z1, z2, z3⟩ := h2.2 s hs
          rw [z3 hnq] at z1 z2
          exact ⟨z2, z1⟩
        refine ev_iconst eX12_layNumbers_74 ?_
        refine ev_istore_n eX12_layNumbers_75 (by decide) ?_
        refine m_ln_z (σ := τ) (fun τ3 e1 e2 => ?_) 5 (s := 0) (by omega) (by omega) (fun q hq => by omega) (fun _ _ => rfl)
        refine ev_iconst eX12_layNumbers_94 ?_
        refine ev_istore_n eX12_layNumbers_95 (by decide) ?_
        refine m_ln_k (σ := σ) hM hO (fun τ4 k1 k2 k3 k4 u4 u5 => ?_) 5 (k := 0) (by omega) (by omega) (fun s hs => ?_) ?_ ?_ ?_
        rotate_left
        · rw [e2 56 (by decide)]; exact hve s hs
        · rw [e2 45 (by decide), h2.1]
          refine bI_iff ⟨fun z => absurd z hnq, ?_⟩
          rintro ⟨x, hx, hq⟩
          exact absurd hq (by unfold pS; show ¬ MX < 0 + _ * 0; omega)
        · intro s hs
          refine ⟨0, e1 s hs, Nat.zero_le _, fun _ => ?_⟩
          unfold pS
          show 0 = 0 + _ * 0
          omega
        · exact ⟨fun j hj => by rw [e2 45 (by decide)]; exact h5.1 j hj, fun c a1 a2 a3 => by rw [e2 c a3]; exact h5.2 c a1 a2 a3⟩
        refine ev_iconst eX12_layNumbers_170 ?_
        refine ev_istore_n eX12_layNumbers_171 (by decide) ?_
        refine m_ln_c (σ := τ4) (Q := pQ B (nm B g) (B 2) 0) (v := nm B (g + 1)) (fun τ5 f1 f2 => ?_) (fun s hs => ?_) 5 (s := 0) (by omega) (by omega) (fun q hq => by omega) (fun _ _ => rfl)
        rotate_left
        · obtain ⟨z, z1, z2, z3⟩ := k3 s hs
          refine ⟨z, z1, z2, fun q => ?_⟩
          rw [z3 q]
          unfold pS
          show _ + _ * 0 = _
          rw [Nat.mul_zero, Nat.add_zero]
          rfl
        refine ev_iinc eX12_layNumbers_195 rfl (by decide) ?_
        refine ev_goto 62 eX12_layNumbers_198 rfl ?_
        refine ih (g := g + 1) (by omega) (by omega) ⟨?_, ?_⟩ ⟨fun j hj => ?_, fun c a1 a2 a3 => ?_⟩
        · rw [f2 45 (by decide), k2]; exact bI_iff (ovr_s hnq).symm
        · exact fun s hs => by
            obtain ⟨z, z1, z2, z3⟩ := f1 s hs
            exact ⟨z, z1, z2, fun q => z3 (fun z => q ((ovr_s hnq).2 z))⟩
        · rw [f2 45 (by decide)]; exact k4.1 j hj
        · rw [f2 c a2]; exact k4.2 c a1 a2 a3
set_option maxRecDepth 20000 in
theorem m_ln_b {d : Nat} {σ : St} {B : Bok} (hM : MBk σ 49 B) (hO : Ok B) {n : Nat} (hn : n ≤ 60) : ∀ (fu : Nat) {k : Nat} {τ : St}, B 3 - k < fu → k ≤ B 3 → τ 45 23 = 0 → (∀ s, s < 4 → τ 56 s = (cntF (rw_ B) s k : Int)) → Nf σ τ → Ev (d + 2) mX12_layNumbers 27 [.ref 45, vi n, vi k, .null, .null, .null] [] τ (fun r τ => none = r ∧ NbR τ B n ∧ Nf σ τ) := by
  intro fu
  induction fu with
  | zero => intros; omega
  | succ fu ih =>
    intro k τ hm h1 h2 h3 h5
    have hf := hO.1
    have h7 := hf.2.1
    have h8 := hf.2.2.1
    refine ev_iload_n eX12_layNumbers_27 rfl ?_
    refine ev_aload_n eX12_layNumbers_28 rfl ?_
    refine ev_getr eX12_layNumbers_29 fX12_19 rfl ?_
    refine ev_iconst eX12_layNumbers_32 ?_
    refine ev_ialdv (3) eX12_layNumbers_33 rfl (by first | rfl | omega) (by omega) (h5.bk hM).N ?_
    refine ev_icmp_ge 60 eX12_layNumbers_34 rfl (by omega) (by omega) (fun h34 => ?_) (fun h34 => ?_)
    · skip
      refine ev_iconst eX12_layNumbers_60 ?_
      refine ev_istore_n eX12_layNumbers_61 (by decide) ?_
      obtain rfl : k = B 3 := by omega
      have hnv : ¬ ovr B 0 := by
        rintro ⟨q, hq, s, hs, hz⟩
        obtain rfl : q = 0 := by omega
        have := cntF_le (rw_ B) s (B 3)
        have hMX := MXe
        unfold nm at hz
        omega
      exact m_ln_g hM hO hn 61 (g := 0) (by omega) (by omega) ⟨by rw [h2, show bC (ovr B 0) = 0 from bI_f hnv], fun s hs => ⟨_, h3 s hs, by have := cntF_le (rw_ B) s (B 3); have hMX := MXe; omega, fun _ => rfl⟩⟩ h5
    · skip
      refine ev_aload_n eX12_layNumbers_37 rfl ?_
      refine ev_getr eX12_layNumbers_38 fX12_40 rfl ?_
      refine ev_aload_n eX12_layNumbers_41 rfl ?_
      refine ev_getr eX12_layNumbers_42 fX12_19 rfl ?_
      refine ev_iconst eX12_layNumbers_45 ?_
      refine ev_iload_n eX12_layNumbers_46 rfl ?_
      refine ev_iadd eX12_layNumbers_47 ?_
      have hr4 := hO.2.2.2.1 k (by omega)
      refine ev_ialdv ((4 + k)) eX12_layNumbers_48 rfl (by first | rfl | omega) (by omega) ((h5.bk hM).R (i := k) (by omega)) ?_
      refine ev_dup2 eX12_layNumbers_49 rfl rfl ?_
      refine ev_laldv (rw_ B k) eX12_layNumbers_50 rfl (by first | rfl | omega) (by omega) (h3 _ (by omega)) ?_
      refine ev_lconst 1 eX12_layNumbers_51 rfl ?_
      refine ev_ladd eX12_layNumbers_52 ?_
      refine ev_last (rw_ B k) eX12_layNumbers_53 rfl (by first | rfl | omega) (by omega) ?_
      refine ev_iinc eX12_layNumbers_54 rfl (by decide) ?_
      refine ev_goto 27 eX12_layNumbers_57 rfl ?_
      refine ih (k := k + 1) (by omega) (by omega) (by rw [up_o _ _ _ (by decide)]; exact h2) (fun s hs => ?_) (h5.up56 _ _)
      by_cases e : s = rw_ B k
      · subst e
        rw [up_s, cntF_s, if_pos rfl]
        push_cast
        rfl
      · rw [up_n _ _ e, h3 s hs, cntF_s, if_neg (fun z => e z.symm), Nat.add_zero]
set_option maxRecDepth 20000 in
theorem m_ln_a {d : Nat} {σ : St} {B : Bok} (hM : MBk σ 49 B) (hO : Ok B) {n : Nat} (hn : n ≤ 60) : ∀ (fu : Nat) {s : Nat} {τ : St}, 4 - s < fu → s ≤ 4 → τ 45 23 = 0 → (∀ q, q < s → τ 56 q = 0) → Nf σ τ → Ev (d + 2) mX12_layNumbers 7 [.ref 45, vi n, vi s, .null, .null, .null] [] τ (fun r τ => none = r ∧ NbR τ B n ∧ Nf σ τ) := by
  intro fu
  induction fu with
  | zero => intros; omega
  | succ fu ih =>
    intro s τ hm h1 h2 h3 h5
    have hf := hO.1
    have h7 := hf.2.1
    have h8 := hf.2.2.1
    refine ev_iload_n eX12_layNumbers_7 rfl ?_
    refine ev_iconst eX12_layNumbers_8 ?_
    refine ev_icmp_ge 25 eX12_layNumbers_9 rfl (by omega) (by omega) (fun h9 => ?_) (fun h9 => ?_)
    · skip
      refine ev_iconst eX12_layNumbers_25 ?_
      refine ev_istore_n eX12_layNumbers_26 (by decide) ?_
      exact m_ln_b hM hO hn 9 (k := 0) (by omega) (by omega) h2 (fun q hq => h3 q (by omega)) h5
    · skip
      refine ev_aload_n eX12_layNumbers_12 rfl ?_
      refine ev_getr eX12_layNumbers_13 fX12_40 rfl ?_
      refine ev_iload_n eX12_layNumbers_16 rfl ?_
      refine ev_lconst 0 eX12_layNumbers_17 rfl ?_
      refine ev_last (s) eX12_layNumbers_18 rfl (by first | rfl | omega) (by omega) ?_
      refine ev_iinc eX12_layNumbers_19 rfl (by decide) ?_
      refine ev_goto 7 eX12_layNumbers_22 rfl ?_
      refine ih (s := s + 1) (by omega) (by omega) (by rw [up_o _ _ _ (by decide)]; exact h2) (fun q hq => ?_) (h5.up56 _ _)
      by_cases e : q = s
      · subst e; exact up_s _ _ _ _
      · rw [up_n _ _ e]; exact h3 q (by omega)
set_option maxRecDepth 20000 in
theorem m_layNumbers {d : Nat} {σ : St} {B : Bok} (hM : MBk σ 49 B) (hO : Ok B) {n : Nat} (hn : n ≤ 60) : Ct (d + 2) mX12_layNumbers [.ref 45, vi n] σ (fun r τ => none = r ∧ NbR τ B n ∧ Nf σ τ) := by
  refine ct_of hX12_layNumbers (Nat.le_of_ble_eq_true rfl) ?_
  refine ev_aload_n eX12_layNumbers_0 rfl ?_
  refine ev_iconst eX12_layNumbers_1 ?_
  refine ev_putz eX12_layNumbers_2 pX12_229 rfl (by first | exact Or.inl rfl | exact Or.inr rfl | exact bI01 _) ?_
  refine ev_iconst eX12_layNumbers_5 ?_
  refine ev_istore_n eX12_layNumbers_6 (by decide) ?_
  exact m_ln_a hM hO hn 5 (s := 0) (by omega) (by omega) (up_s _ _ _ _) (fun q hq => by omega) (Nf.up23 ⟨fun _ _ => rfl, fun _ _ _ _ => rfl⟩ _)
theorem gcd_st (x y : Nat) : Nat.gcd y (x % y) = Nat.gcd x y := by rw [Nat.gcd_comm x y, Nat.gcd_rec y x, Nat.gcd_comm]
set_option maxRecDepth 20000 in
theorem m_low_l {d : Nat} {σ : St} {a b e : Nat} (ha : a ≤ MX) (hb : b ≤ MX) (hb1 : 1 ≤ b) (he : e < 2) : ∀ (fu : Nat) {x y : Nat} {u9 u10 : Value}, y < fu → x ≤ MX → y ≤ MX → Nat.gcd x y = Nat.gcd a b → Ev (d) mX12_lowest 6 [vl a, .null, vl b, .null, vi e, vl x, .null, vl y, .null, u9, u10] [] σ (rt (vl (lowT a b e)) σ) := by
  intro fu
  induction fu with
  | zero => intros; omega
  | succ fu ih =>
    intro x y u9 u10 hm h1 h2 h3
    have hMX := MXe
    refine ev_lload eX12_lowest_6 rfl ?_
    refine ev_lconst 0 eX12_lowest_8 rfl ?_
    refine ev_lif_eq 31 eX12_lowest_9 eX12_lowest_10 rfl (by omega) (by omega) (fun h9 => ?_) (fun h9 => ?_)
    · skip
      refine ev_iload eX12_lowest_31 rfl ?_
      refine ev_if_ne 40 eX12_lowest_33 rfl (by omega) (fun h33 => ?_) (fun h33 => ?_)
      · skip
        refine ev_lload_n eX12_lowest_40 rfl ?_
        refine ev_lload eX12_lowest_41 rfl ?_
        obtain rfl : y = 0 := by omega
        rw [Nat.gcd_zero_right] at h3
        have hg := Nat.gcd_pos_of_pos_right a hb1
        refine ev_ldiv eX12_lowest_43 (by omega) (by omega) ?_
        refine ev_lret eX12_lowest_44 rfl ?_
        exact ⟨congrArg (fun q => some (vl q)) (by unfold lowT; rw [if_neg (by omega), ← h3]; rfl), rfl⟩
      · skip
        refine ev_lload_n eX12_lowest_36 rfl ?_
        refine ev_goto 41 eX12_lowest_37 rfl ?_
        refine ev_lload eX12_lowest_41 rfl ?_
        obtain rfl : y = 0 := by omega
        rw [Nat.gcd_zero_right] at h3
        have hg := Nat.gcd_pos_of_pos_right a hb1
        refine ev_ldiv eX12_lowest_43 (by omega) (by omega) ?_
        refine ev_lret eX12_lowest_44 rfl ?_
        exact ⟨congrArg (fun q => some (vl q)) (by unfold lowT; rw [if_pos (by omega), ← h3]; rfl), rfl⟩
    · skip
      refine ev_lload eX12_lowest_13 rfl ?_
      refine ev_lload eX12_lowest_15 rfl ?_
      refine ev_lrem eX12_lowest_17 (by omega) (by omega) ?_
      refine ev_lstore eX12_lowest_18 (by decide) ?_
      refine ev_lload eX12_lowest_20 rfl ?_
      refine ev_lstore eX12_lowest_22 (by decide) ?_
      refine ev_lload eX12_lowest_24 rfl ?_
      refine ev_lstore eX12_lowest_26 (by decide) ?_
      refine ev_goto 6 eX12_lowest_28 rfl ?_
      have hl := Nat.mod_lt x (show 0 < y by omega)
      exact ih (x := y) (y := x % y) (by omega) (by omega) (by omega) (by rw [gcd_st]; exact h3)
set_option maxRecDepth 20000 in
theorem m_lowest {d : Nat} {σ : St} {a b e : Nat} (ha : a ≤ MX) (hb : b ≤ MX) (hb1 : 1 ≤ b) (he : e < 2) : Ct (d) mX12_lowest [vl a, vl b, vi e] σ (rt (vl (lowT a b e)) σ) := by
  refine ct_of hX12_lowest (Nat.le_of_ble_eq_true rfl) ?_
  refine ev_lload_n eX12_lowest_0 rfl ?_
  refine ev_lstore eX12_lowest_1 (by decide) ?_
  refine ev_lload_n eX12_lowest_3 rfl ?_
  refine ev_lstore eX12_lowest_4 (by decide) ?_
  exact m_low_l ha hb hb1 he (b + 1) (x := a) (y := b) (by omega) ha hb rfl
