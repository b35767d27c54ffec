/-! the reference: pairs -/
theorem ior_p {a b : Nat} (ha : a < 2147483648) (hb : b < 31) : iOr (a : Int) (iShl 1 (b : Int)) = ((a ||| 2 ^ b : Nat) : Int) := by rw [sh1 hb, iOr_n ha (p2_30 hb)]
theorem or16 {a b : Nat} (ha : a < 65536) (hb : b < 16) : (a ||| 2 ^ b) < 65536 := Nat.or_lt_two_pow (n := 16) ha (p2_lt hb)
set_option maxRecDepth 20000 in
theorem m_pr_i {d : Nat} {σ : St} {c : Nat} {B : Bok} (hc : Mq c) (hM : MBk σ c B) (hO : Ok B) {r s L0 P0 : Nat} (hs : s < B 2) (hb : L0.testBit s = true) (hL0 : L0 < 16) (hP0 : P0 < 65536) {post : Option Value → St → Prop} (hk : ∀ u : Int, Ev (d + 2) mX12_pairsOf 153 [.ref c, vi ((L0 ||| fiL B s : Nat) : Int), vi ((P0 ||| wi B s : Nat) : Int), vi r, vi s, vi u] [] σ post) : ∀ (fu : Nat) {i L P : Nat}, im B s - i < fu → i ≤ im B s → L = L0 ||| orF (il B s) i → P = P0 ||| orF (fun i => 4 * il B s i + il B s (i + 1)) (i - 1) → Ev (d + 2) mX12_pairsOf 79 [.ref c, vi L, vi P, vi r, vi s, vi i] [] σ (post) := by
  intro fu
  induction fu with
  | zero => intros; omega
  | succ fu ih =>
    intro i L P hm h1 h2 h3
    have hf := hO.1
    have h7 := hf.2.1
    have h8 := hf.2.2.1
    have him := im_le hf (s := s) (by omega)
    have hb1 : L < 16 := by rw [h2]; exact Nat.or_lt_two_pow (n := 4) hL0 (orF_lt (fun q hq => by have := hO.il2 hs (i := q) (by omega); omega))
    have hb2 : P < 65536 := by rw [h3]; exact Nat.or_lt_two_pow (n := 16) hP0 (orF_lt (fun q hq => by have z1 := hO.il2 hs (i := q) (by omega); have z2 := hO.il2 hs (i := q + 1) (by omega); omega))
    refine ev_iload eX12_pairsOf_79 rfl ?_
    refine ev_aload_n eX12_pairsOf_81 rfl ?_
    refine ev_iload eX12_pairsOf_82 rfl ?_
    refine ev_cS2 eX12_pairsOf_84 ⟨lX12_100, kX12_imageSize⟩ rfl (m_imageSize hc hM hf (s := s) (by omega)) ?_
    rintro _ _ ⟨rfl, rfl⟩
    refine ev_icmp_ge 153 eX12_pairsOf_87 rfl (by omega) (by omega) (fun h87 => ?_) (fun h87 => ?_)
    · skip
      rw [h2, h3, show i = im B s by omega]
      exact hk _
    · skip
      refine ev_iload_n eX12_pairsOf_90 rfl ?_
      refine ev_iload eX12_pairsOf_91 rfl ?_
      refine ev_cS2 eX12_pairsOf_93 ⟨lX12_85, kX12_has⟩ rfl (m_has (P := L) (k := s) (by omega) (by omega)) ?_
      rintro _ _ ⟨rfl, rfl⟩
      refine ev_ifb_eq 153 eX12_pairsOf_96 rfl (fun h96 => False.elim (by exact h96 (by rw [h2]; exact or_b.2 (Or.inl hb)))) (fun h96 => ?_)
      refine ev_iload_n eX12_pairsOf_99 rfl ?_
      refine ev_iconst eX12_pairsOf_100 ?_
      refine ev_aload_n eX12_pairsOf_101 rfl ?_
      refine ev_iload eX12_pairsOf_102 rfl ?_
      refine ev_iload eX12_pairsOf_104 rfl ?_
      refine ev_cS3 eX12_pairsOf_106 ⟨lX12_103, kX12_imageAt⟩ rfl (m_imageAt hc hM hf (s := s) (i := i) (by omega) (by omega)) ?_
      rintro _ _ ⟨rfl, rfl⟩
      have hil := hO.il2 (s := s) (i := i) (by omega) (by omega)
      refine ev_ishl eX12_pairsOf_109 ?_
      refine ev_ior eX12_pairsOf_110 ?_
      rw [ior_p (by omega) (by omega)]
      refine ev_istore_n eX12_pairsOf_111 (by decide) ?_
      refine ev_iload_n eX12_pairsOf_112 rfl ?_
      refine ev_iload eX12_pairsOf_113 rfl ?_
      refine ev_if_le 144 eX12_pairsOf_115 rfl (by omega) (fun h115 => ?_) (fun h115 => ?_)
      · skip
        refine ev_iconst eX12_pairsOf_144 ?_
        refine ev_ior eX12_pairsOf_145 ?_
        refine ev_istore_n eX12_pairsOf_146 (by decide) ?_
        refine ev_iinc eX12_pairsOf_147 rfl (by decide) ?_
        refine ev_goto 79 eX12_pairsOf_150 rfl ?_
        rw [iOr_z (by omega)]
        exact ih (i := i + 1) (L := L ||| 2 ^ il B s i) (P := P) (by omega) (by omega) (by rw [h2, orF_s, Nat.or_assoc]) (by rw [h3, show i = 0 by omega])
      · skip
        refine ev_iconst eX12_pairsOf_118 ?_
        refine ev_iconst eX12_pairsOf_119 ?_
        refine ev_aload_n eX12_pairsOf_120 rfl ?_
        refine ev_iload eX12_pairsOf_121 rfl ?_
        refine ev_iload eX12_pairsOf_123 rfl ?_
        refine ev_iconst eX12_pairsOf_125 ?_
        refine ev_isub eX12_pairsOf_126 ?_
        rw [show (i : Int) - 1 = ((i - 1 : Nat) : Int) by omega]
        refine ev_cS3 eX12_pairsOf_127 ⟨lX12_103, kX12_imageAt⟩ rfl (m_imageAt hc hM hf (s := s) (i := i - 1) (by omega) (by omega)) ?_
        rintro _ _ ⟨rfl, rfl⟩
        have hil2 := hO.il2 (s := s) (i := i - 1) (by omega) (by omega)
        refine ev_imul eX12_pairsOf_130 ?_
        refine ev_aload_n eX12_pairsOf_131 rfl ?_
        refine ev_iload eX12_pairsOf_132 rfl ?_
        refine ev_iload eX12_pairsOf_134 rfl ?_
        refine ev_cS3 eX12_pairsOf_136 ⟨lX12_103, kX12_imageAt⟩ rfl (m_imageAt hc hM hf (s := s) (i := i) (by omega) (by omega)) ?_
        rintro _ _ ⟨rfl, rfl⟩
        have hil3 := hO.il2 (s := s) (i := i) (by omega) (by omega)
        refine ev_iadd eX12_pairsOf_139 ?_
        refine ev_ishl eX12_pairsOf_140 ?_
        refine ev_goto 145 eX12_pairsOf_141 rfl ?_
        refine ev_ior eX12_pairsOf_145 ?_
        refine ev_istore_n eX12_pairsOf_146 (by decide) ?_
        refine ev_iinc eX12_pairsOf_147 rfl (by decide) ?_
        refine ev_goto 79 eX12_pairsOf_150 rfl ?_
        rw [show (4 * ((il B s (i - 1) : Nat) : Int) + ((il B s i : Nat) : Int)) = ((4 * il B s (i - 1) + il B s i : Nat) : Int) by push_cast; rfl, ior_p (by omega) (by omega)]
        refine ih (i := i + 1) (L := L ||| 2 ^ il B s i) (P := P ||| 2 ^ (4 * il B s (i - 1) + il B s i)) (by omega) (by omega) (by rw [h2, orF_s, Nat.or_assoc]) ?_
        obtain ⟨j, rfl⟩ : ∃ j, i = j + 1 := ⟨i - 1, by omega⟩
        rw [h3, show j + 1 - 1 = j by omega, show j + 1 + 1 - 1 = j + 1 by omega, orF_s, Nat.or_assoc]
set_option maxRecDepth 20000 in
theorem m_pr_s {d : Nat} {σ : St} {c : Nat} {B : Bok} (hc : Mq c) (hM : MBk σ c B) (hO : Ok B) {r : Nat} {q : LPt} (hq : LPi B q) {post : Option Value → St → Prop} (hk : ∀ u : Value, Ev (d + 2) mX12_pairsOf 159 [.ref c, vi (gS B (B 2) q).1, vi (gS B (B 2) q).2, vi r, vi (B 2), u] [] σ post) : ∀ (fu : Nat) {s L P : Nat} {u5 : Value}, B 2 - s < fu → s ≤ B 2 → L = (gS B s q).1 → P = (gS B s q).2 → Ev (d + 2) mX12_pairsOf 68 [.ref c, vi L, vi P, vi r, vi s, u5] [] σ (post) := by
  intro fu
  induction fu with
  | zero => intros; omega
  | succ fu ih =>
    intro s L P u5 hm h1 h2 h3
    have hf := hO.1
    have h7 := hf.2.1
    have h8 := hf.2.2.1
    have hlt := LPi_lt hO (gS_i hO hq s (by omega))
    refine ev_iload eX12_pairsOf_68 rfl ?_
    refine ev_aload_n eX12_pairsOf_70 rfl ?_
    refine ev_iconst eX12_pairsOf_71 ?_
    refine ev_ialdv (0) eX12_pairsOf_72 (akM hc) (by first | rfl | omega) (by omega) hM.S ?_
    refine ev_icmp_ge 159 eX12_pairsOf_73 rfl (by omega) (by omega) (fun h73 => ?_) (fun h73 => ?_)
    · skip
      subst h2 h3
      obtain rfl : s = B 2 := by omega
      exact hk _
    · skip
      refine ev_iconst eX12_pairsOf_76 ?_
      refine ev_istore eX12_pairsOf_77 (by decide) ?_
      subst h2 h3
      have him := im_le hf (s := s) (by omega)
      have him1 := hO.im1 (s := s) (by omega)
      by_cases hb : (gS B s q).1.testBit s = true
      · refine m_pr_i hc hM hO (by omega) hb hlt.1 hlt.2 (fun u => ?_) 5 (i := 0) (by omega) (by omega) (by show _ = _ ||| 0; rw [Nat.or_zero]) (by show _ = _ ||| 0; rw [Nat.or_zero])
        refine ev_iinc eX12_pairsOf_153 rfl (by decide) ?_
        refine ev_goto 68 eX12_pairsOf_156 rfl ?_
        exact ih (s := s + 1) (by omega) (by omega) (by rw [gS_t hb]) (by rw [gS_t hb])
      · skip
        refine ev_iload eX12_pairsOf_79 rfl ?_
        refine ev_aload_n eX12_pairsOf_81 rfl ?_
        refine ev_iload eX12_pairsOf_82 rfl ?_
        refine ev_cS2 eX12_pairsOf_84 ⟨lX12_100, kX12_imageSize⟩ rfl (m_imageSize hc hM hf (s := s) (by omega)) ?_
        rintro _ _ ⟨rfl, rfl⟩
        refine ev_icmp_ge 153 eX12_pairsOf_87 rfl (by omega) (by omega) (fun h87 => False.elim (by omega)) (fun h87 => ?_)
        refine ev_iload_n eX12_pairsOf_90 rfl ?_
        refine ev_iload eX12_pairsOf_91 rfl ?_
        refine ev_cS2 eX12_pairsOf_93 ⟨lX12_85, kX12_has⟩ rfl (m_has (P := (gS B s q).1) (k := s) (by omega) (by omega)) ?_
        rintro _ _ ⟨rfl, rfl⟩
        refine ev_ifb_eq 153 eX12_pairsOf_96 rfl (fun h96 => ?_) (fun h96 => False.elim (by exact hb h96))
        refine ev_iinc eX12_pairsOf_153 rfl (by decide) ?_
        refine ev_goto 68 eX12_pairsOf_156 rfl ?_
        exact ih (s := s + 1) (by omega) (by omega) (by rw [gS_f hb]) (by rw [gS_f hb])
set_option maxRecDepth 20000 in
theorem m_pr_p {d : Nat} {σ : St} {c : Nat} {B : Bok} (hc : Mq c) (hM : MBk σ c B) (hO : Ok B) {r L Q : Nat} (hL : L < 16) (hQ : ∀ k, Q.testBit k = true → k / 4 < B 2 ∧ k % 4 < B 2) {post : Option Value → St → Prop} (hk : ∀ u : Value, Ev (d + 2) mX12_pairsOf 223 [.ref c, vi L, vi (gP B 16 Q), vi r, vi 16, u] [] σ post) : ∀ (fu : Nat) {k P : Nat} {u5 : Value}, 16 - k < fu → k ≤ 16 → P = gP B k Q → Ev (d + 2) mX12_pairsOf 162 [.ref c, vi L, vi P, vi r, vi k, u5] [] σ (post) := by
  intro fu
  induction fu with
  | zero => intros; omega
  | succ fu ih =>
    intro k P u5 hm h1 h2
    have hf := hO.1
    have h7 := hf.2.1
    have h8 := hf.2.2.1
    have hP : P < 65536 := by rw [h2]; exact (LPi_lt hO (q := (0, gP B k Q)) ⟨fun k hk => absurd hk (by rw [Nat.zero_testBit]; decide), gP_i hO hQ k⟩).2
    refine ev_iload eX12_pairsOf_162 rfl ?_
    refine ev_bipush eX12_pairsOf_164 rfl ?_
    refine ev_icmp_ge 223 eX12_pairsOf_166 rfl (by omega) (by omega) (fun h166 => ?_) (fun h166 => ?_)
    · skip
      obtain rfl : k = 16 := by omega
      subst h2
      exact hk _
    · skip
      refine ev_iload_n eX12_pairsOf_169 rfl ?_
      refine ev_iload eX12_pairsOf_170 rfl ?_
      refine ev_cS2 eX12_pairsOf_172 ⟨lX12_85, kX12_has⟩ rfl (m_has (P := P) (k := k) (by omega) (by omega)) ?_
      rintro _ _ ⟨rfl, rfl⟩
      refine ev_ifb_eq 217 eX12_pairsOf_175 rfl (fun hb => ?_) (fun hb => ?_)
      · skip
        refine ev_iinc eX12_pairsOf_217 rfl (by decide) ?_
        refine ev_goto 162 eX12_pairsOf_220 rfl ?_
        exact ih (k := k + 1) (by omega) (by omega) (by rw [gP_f (h2 ▸ hb)]; exact h2)
      · skip
        have hq := gP_i hO hQ k k (h2 ▸ hb)
        have hi1 := hO.im1 hq.1
        have hi2 := hO.im1 hq.2
        have hl := lst_lt hO hq.1
        have hq0 := hO.il2 hq.2 (i := 0) (by omega)
        refine ev_aload_n eX12_pairsOf_178 rfl ?_
        refine ev_iload eX12_pairsOf_179 rfl ?_
        refine ev_iconst eX12_pairsOf_181 ?_
        refine ev_idiv eX12_pairsOf_182 (by omega) (by omega) ?_
        refine ev_aload_n eX12_pairsOf_183 rfl ?_
        refine ev_iload eX12_pairsOf_184 rfl ?_
        refine ev_iconst eX12_pairsOf_186 ?_
        refine ev_idiv eX12_pairsOf_187 (by omega) (by omega) ?_
        refine ev_cS2 eX12_pairsOf_188 ⟨lX12_100, kX12_imageSize⟩ rfl (m_imageSize hc hM hf (s := k / 4) (by omega)) ?_
        rintro _ _ ⟨rfl, rfl⟩
        refine ev_iconst eX12_pairsOf_191 ?_
        refine ev_isub eX12_pairsOf_192 ?_
        rw [show ((im B (k / 4) : Nat) : Int) - 1 = ((im B (k / 4) - 1 : Nat) : Int) by omega]
        refine ev_cS3 eX12_pairsOf_193 ⟨lX12_103, kX12_imageAt⟩ rfl (m_imageAt hc hM hf (s := k / 4) (i := im B (k / 4) - 1) (by omega) (by omega)) ?_
        rintro _ _ ⟨rfl, rfl⟩
        refine ev_istore eX12_pairsOf_196 (by decide) ?_
        refine ev_iload_n eX12_pairsOf_198 rfl ?_
        refine ev_iconst eX12_pairsOf_199 ?_
        refine ev_iconst eX12_pairsOf_200 ?_
        refine ev_iload eX12_pairsOf_201 rfl ?_
        refine ev_imul eX12_pairsOf_203 ?_
        refine ev_aload_n eX12_pairsOf_204 rfl ?_
        refine ev_iload eX12_pairsOf_205 rfl ?_
        refine ev_iconst eX12_pairsOf_207 ?_
        refine ev_irem eX12_pairsOf_208 (by omega) (by omega) ?_
        refine ev_iconst eX12_pairsOf_209 ?_
        refine ev_cS3 eX12_pairsOf_210 ⟨lX12_103, kX12_imageAt⟩ rfl (m_imageAt hc hM hf (s := k % 4) (i := 0) (by omega) (by omega)) ?_
        rintro _ _ ⟨rfl, rfl⟩
        refine ev_iadd eX12_pairsOf_213 ?_
        refine ev_ishl eX12_pairsOf_214 ?_
        refine ev_ior eX12_pairsOf_215 ?_
        refine ev_istore_n eX12_pairsOf_216 (by decide) ?_
        refine ev_iinc eX12_pairsOf_217 rfl (by decide) ?_
        refine ev_goto 162 eX12_pairsOf_220 rfl ?_
        rw [show (4 * ((il B (k / 4) (im B (k / 4) - 1) : Nat) : Int) + ((il B (k % 4) 0 : Nat) : Int)) = ((4 * lst B (k / 4) + il B (k % 4) 0 : Nat) : Int) by push_cast; rfl, ior_p (by omega) (by omega)]
        exact ih (k := k + 1) (P := P ||| 2 ^ (4 * lst B (k / 4) + il B (k % 4) 0)) (by omega) (by omega) (by rw [gP_t (h2 ▸ hb), h2])
set_option maxRecDepth 20000 in
theorem m_pr_r {d : Nat} {σ : St} {c : Nat} {B : Bok} (hc : Mq c) (hM : MBk σ c B) (hO : Ok B)  : ∀ (fu : Nat) {r L P : Nat} {u4 u5 : Value}, 21 - r < fu → r ≤ 21 → L = (itN (gR B) r (g0 B)).1 → P = (itN (gR B) r (g0 B)).2 → Ev (d + 2) mX12_pairsOf 59 [.ref c, vi L, vi P, vi r, u4, u5] [] σ (rt (vi (prC B)) σ) := by
  intro fu
  induction fu with
  | zero => intros; omega
  | succ fu ih =>
    intro r L P u4 u5 hm h1 h2 h3
    have hf := hO.1
    have h7 := hf.2.1
    have h8 := hf.2.2.1
    have hi : LPi B (itN (gR B) r (g0 B)) := itN_inv (I := LPi B) (fun q h => gR_i hO h) r _ (g0_i hO)
    have hi2 := gS_i hO hi (B 2) (Nat.le_refl _)
    have hlt := LPi_lt hO hi
    have hlt2 := LPi_lt hO hi2
    refine ev_iload_n eX12_pairsOf_59 rfl ?_
    refine ev_bipush eX12_pairsOf_60 rfl ?_
    refine ev_icmp_ge 229 eX12_pairsOf_62 rfl (by omega) (by omega) (fun h62 => ?_) (fun h62 => ?_)
    · skip
      refine ev_iload_n eX12_pairsOf_229 rfl ?_
      refine ev_iret eX12_pairsOf_230 rfl ?_
      exact ⟨congrArg (fun q => some (vi q)) (by rw [h3, show r = 21 by omega, ← gF_pr hO]; rfl), rfl⟩
    · skip
      refine ev_iconst eX12_pairsOf_65 ?_
      refine ev_istore eX12_pairsOf_66 (by decide) ?_
      refine m_pr_s hc hM hO (q := itN (gR B) r (g0 B)) hi (fun u => ?_) 5 (s := 0) (by omega) (by omega) h2 h3
      refine ev_iconst eX12_pairsOf_159 ?_
      refine ev_istore eX12_pairsOf_160 (by decide) ?_
      refine m_pr_p hc hM hO hlt2.1 hi2.2 (fun u => ?_) 17 (k := 0) (by omega) (by omega) rfl
      refine ev_iinc eX12_pairsOf_223 rfl (by decide) ?_
      refine ev_goto 59 eX12_pairsOf_226 rfl ?_
      exact ih (r := r + 1) (by omega) (by omega) (by rw [itN_s]; rfl) (by rw [itN_s]; rfl)
set_option maxRecDepth 20000 in
theorem m_pr_w {d : Nat} {σ : St} {c : Nat} {B : Bok} (hc : Mq c) (hM : MBk σ c B) (hO : Ok B)  : ∀ (fu : Nat) {k L P : Nat}, B 3 - k < fu → k ≤ B 3 → L = orF (rw_ B) k → P = rpF B 0 (k - 1) → Ev (d + 2) mX12_pairsOf 6 [.ref c, vi L, vi P, vi k, .null, .null] [] σ (rt (vi (prC B)) σ) := by
  intro fu
  induction fu with
  | zero => intros; omega
  | succ fu ih =>
    intro k L P hm h1 h2 h3
    have hf := hO.1
    have h7 := hf.2.1
    have h8 := hf.2.2.1
    have hb1 : L < 16 := by rw [h2]; exact orF_lt (m := 4) (fun q hq => by have := hO.2.2.2.1 q (by omega); omega)
    have hb2 : P < 65536 := by rw [h3]; exact rpF_lt hO (by decide) _ (by omega)
    refine ev_iload_n eX12_pairsOf_6 rfl ?_
    refine ev_aload_n eX12_pairsOf_7 rfl ?_
    refine ev_iconst eX12_pairsOf_8 ?_
    refine ev_ialdv (3) eX12_pairsOf_9 (akM hc) (by first | rfl | omega) (by omega) hM.N ?_
    refine ev_icmp_ge 57 eX12_pairsOf_10 rfl (by omega) (by omega) (fun h10 => ?_) (fun h10 => ?_)
    · skip
      refine ev_iconst eX12_pairsOf_57 ?_
      refine ev_istore_n eX12_pairsOf_58 (by decide) ?_
      exact m_pr_r hc hM hO 22 (r := 0) (by omega) (by omega) (by rw [h2, show k = B 3 by omega]; rfl) (by rw [h3, show k = B 3 by omega]; rfl)
    · skip
      refine ev_iload_n eX12_pairsOf_13 rfl ?_
      refine ev_iconst eX12_pairsOf_14 ?_
      refine ev_aload_n eX12_pairsOf_15 rfl ?_
      refine ev_iconst eX12_pairsOf_16 ?_
      refine ev_iload_n eX12_pairsOf_17 rfl ?_
      refine ev_iadd eX12_pairsOf_18 ?_
      have hr := hO.2.2.2.1 k (by omega)
      refine ev_ialdv ((4 + k)) eX12_pairsOf_19 (akM hc) (by first | rfl | omega) (by omega) (hM.R (i := k) (by omega)) ?_
      refine ev_ishl eX12_pairsOf_20 ?_
      refine ev_ior eX12_pairsOf_21 ?_
      rw [ior_p (by omega) (by omega)]
      refine ev_istore_n eX12_pairsOf_22 (by decide) ?_
      refine ev_iload_n eX12_pairsOf_23 rfl ?_
      refine ev_iload_n eX12_pairsOf_24 rfl ?_
      refine ev_if_le 48 eX12_pairsOf_25 rfl (by omega) (fun h25 => ?_) (fun h25 => ?_)
      · skip
        refine ev_iconst eX12_pairsOf_48 ?_
        refine ev_ior eX12_pairsOf_49 ?_
        refine ev_istore_n eX12_pairsOf_50 (by decide) ?_
        refine ev_iinc eX12_pairsOf_51 rfl (by decide) ?_
        refine ev_goto 6 eX12_pairsOf_54 rfl ?_
        rw [iOr_z (by omega)]
        exact ih (k := k + 1) (L := L ||| 2 ^ rw_ B k) (P := P) (by omega) (by omega) (by rw [h2, orF_s]) (by rw [h3, show k = 0 by omega])
      · skip
        refine ev_iconst eX12_pairsOf_28 ?_
        refine ev_iconst eX12_pairsOf_29 ?_
        refine ev_aload_n eX12_pairsOf_30 rfl ?_
        refine ev_iconst eX12_pairsOf_31 ?_
        refine ev_iload_n eX12_pairsOf_32 rfl ?_
        refine ev_iadd eX12_pairsOf_33 ?_
        refine ev_iconst eX12_pairsOf_34 ?_
        refine ev_isub eX12_pairsOf_35 ?_
        have hr2 := hO.2.2.2.1 (k - 1) (by omega)
        refine ev_ialdv (4 + (k - 1)) eX12_pairsOf_36 (akM hc) (by first | rfl | omega) (by omega) (hM.R (i := k - 1) (by omega)) ?_
        refine ev_imul eX12_pairsOf_37 ?_
        refine ev_aload_n eX12_pairsOf_38 rfl ?_
        refine ev_iconst eX12_pairsOf_39 ?_
        refine ev_iload_n eX12_pairsOf_40 rfl ?_
        refine ev_iadd eX12_pairsOf_41 ?_
        refine ev_ialdv ((4 + k)) eX12_pairsOf_42 (akM hc) (by first | rfl | omega) (by omega) (hM.R (i := k) (by omega)) ?_
        refine ev_iadd eX12_pairsOf_43 ?_
        refine ev_ishl eX12_pairsOf_44 ?_
        refine ev_goto 49 eX12_pairsOf_45 rfl ?_
        refine ev_ior eX12_pairsOf_49 ?_
        refine ev_istore_n eX12_pairsOf_50 (by decide) ?_
        refine ev_iinc eX12_pairsOf_51 rfl (by decide) ?_
        refine ev_goto 6 eX12_pairsOf_54 rfl ?_
        rw [show (4 * ((rw_ B (k - 1) : Nat) : Int) + ((rw_ B k : Nat) : Int)) = ((4 * rw_ B (k - 1) + rw_ B k : Nat) : Int) by push_cast; rfl, ior_p (by omega) (by omega)]
        refine ih (k := k + 1) (L := L ||| 2 ^ rw_ B k) (P := P ||| 2 ^ (4 * rw_ B (k - 1) + rw_ B k)) (by omega) (by omega) (by rw [h2, orF_s]) ?_
        obtain ⟨j, rfl⟩ : ∃ j, k = j + 1 := ⟨k - 1, by omega⟩
        rw [h3]
        rfl
set_option maxRecDepth 20000 in
theorem m_pairsOf {d : Nat} {σ : St} {c : Nat} {B : Bok} (hc : Mq c) (hM : MBk σ c B) (hO : Ok B)  : Ct (d + 2) mX12_pairsOf [.ref c] σ (rt (vi (prC B)) σ) := by
  refine ct_of hX12_pairsOf (Nat.le_of_ble_eq_true rfl) ?_
  refine ev_iconst eX12_pairsOf_0 ?_
  refine ev_istore_n eX12_pairsOf_1 (by decide) ?_
  refine ev_iconst eX12_pairsOf_2 ?_
  refine ev_istore_n eX12_pairsOf_3 (by decide) ?_
  refine ev_iconst eX12_pairsOf_4 ?_
  refine ev_istore_n eX12_pairsOf_5 (by decide) ?_
  exact m_pr_w hc hM hO 9 (k := 0) (by have := hO.1.2.2.1; omega) (by omega) rfl rfl
