/-! the reference: origin, place, inflate, who -/
theorem prnA_at (B : Bok) : ∀ (l : List Nat) (k a s q : Nat), l[a]? = some s → q < im B s → (prnA B l k)[(infl B (l.take a)).length + q]? = some (k + a)
  | [], _, _, _, _, h, _ => by simp at h
  | x :: r, k, 0, s, q, h, hq => by
    simp at h
    subst h
    show (List.replicate (im B x) k ++ prnA B r (k + 1))[(infl B []).length + q]? = _
    rw [show (infl B []).length + q = q from Nat.zero_add q, List.getElem?_append_left (by rw [List.length_replicate]; exact hq), List.getElem?_replicate, if_pos hq]
    rfl
  | x :: r, k, a + 1, s, q, h, hq => by
    have ih := prnA_at B r (k + 1) a s q (by simpa using h) hq
    have e : (infl B ((x :: r).take (a + 1))).length = im B x + (infl B (r.take a)).length := by
      rw [List.take_succ_cons, show x :: r.take a = [x] ++ r.take a from rfl, infl_app, List.length_append, infl_one, imgL_len]
    show (List.replicate (im B x) k ++ prnA B r (k + 1))[(infl B ((x :: r).take (a + 1))).length + q]? = _
    rw [e, List.getElem?_append_right (by rw [List.length_replicate]; omega), List.length_replicate, show im B x + (infl B (r.take a)).length + q - im B x = (infl B (r.take a)).length + q by omega, ih]
    congr 1
    omega
theorem prn_at {B : Bok} {l : List Nat} {a s q : Nat} (h : l[a]? = some s) (hq : q < im B s) : (prn B l).getD ((infl B (l.take a)).length + q) 0 = a := by
  rw [List.getD_eq_getElem?_getD, prn, prnA_at B l 0 a s q h hq]
  show 0 + a = a
  omega
set_option maxRecDepth 20000 in
theorem m_org_i {d : Nat} {σ ρ : St} {B : Bok} (hM : MBk σ 49 B) (hO : Ok B) {n i j st g L : Nat} (hst : st < 8) (q0 : ∀ k, k ≠ 53 → k ≠ 54 → ρ k = σ k) (hG : AtL ρ 53 (Gr B g)) (h300 : (Gr B g).length ≤ 300) (hL : L < (infl B (Gr B g)).length) {post : Option Value → St → Prop} (hk : ∀ u : Int, Ev (d + 2) mX12_origin 158 [.ref 45, vi n, vi i, vi j, vi (Gr B g).length, vi ((prn B (Gr B g)).getD L 0), vi st, vi u] [] ρ post) : ∀ (fu : Nat) {a q : Nat}, (Gr B g).length - a < fu → a ≤ (Gr B g).length → L = (infl B ((Gr B g).take a)).length + q → Ev (d + 2) mX12_origin 107 [.ref 45, vi n, vi i, vi j, vi (Gr B g).length, vi a, vi st, vi q] [] ρ (post) := by
  intro fu
  induction fu with
  | zero => intros; omega
  | succ fu ih =>
    intro a q hm h1 h2
    have hf := hO.1
    have h7 := hf.2.1
    have hb4 := infl_le4 hf (Gr B g) (fun x hx => by have := Gr_lt hO g x hx; omega)
    have hmo := infl_mono B (l := Gr B g) a
    refine ev_iload eX12_origin_107 rfl ?_
    refine ev_iload eX12_origin_109 rfl ?_
    refine ev_icmp_ge 158 eX12_origin_111 rfl (by omega) (by omega) (fun h111 => False.elim (by (obtain rfl : a = (Gr B g).length := by omega); rw [List.take_length] at h2; omega)) (fun h111 => ?_)
    refine ev_iload eX12_origin_114 rfl ?_
    refine ev_aload_n eX12_origin_116 rfl ?_
    refine ev_getr eX12_origin_117 fX12_19 rfl ?_
    refine ev_aload_n eX12_origin_120 rfl ?_
    refine ev_getr eX12_origin_121 fX12_31 rfl ?_
    refine ev_iload eX12_origin_124 rfl ?_
    obtain ⟨s, hs, hs4⟩ := lget (Gr_lt hO g) (k := a) (by omega)
    have him := im_le hf (s := s) (by omega)
    have hsl := infl_sl B hs
    refine ev_ialdv (a) eX12_origin_126 rfl (by first | rfl | omega) (by omega) (hG a s hs) ?_
    refine ev_cS2 eX12_origin_127 ⟨lX12_100, kX12_imageSize⟩ rfl (m_imageSize (Or.inl rfl) (hM.of (q0 49 (by decide) (by decide))) hf (s := s) (by omega)) ?_
    rintro _ _ ⟨rfl, rfl⟩
    refine ev_icmp_lt 158 eX12_origin_130 rfl (by omega) (by omega) (fun h130 => ?_) (fun h130 => ?_)
    · skip
      rw [show ((a : Nat) : Int) = (((prn B (Gr B g)).getD L 0 : Nat) : Int) by rw [h2, prn_at hs (by omega)]]
      exact hk _
    · skip
      refine ev_iload eX12_origin_133 rfl ?_
      refine ev_aload_n eX12_origin_135 rfl ?_
      refine ev_getr eX12_origin_136 fX12_19 rfl ?_
      refine ev_aload_n eX12_origin_139 rfl ?_
      refine ev_getr eX12_origin_140 fX12_31 rfl ?_
      refine ev_iload eX12_origin_143 rfl ?_
      refine ev_ialdv (a) eX12_origin_145 rfl (by first | rfl | omega) (by omega) (hG a s hs) ?_
      refine ev_cS2 eX12_origin_146 ⟨lX12_100, kX12_imageSize⟩ rfl (m_imageSize (Or.inl rfl) (hM.of (q0 49 (by decide) (by decide))) hf (s := s) (by omega)) ?_
      rintro _ _ ⟨rfl, rfl⟩
      refine ev_isub eX12_origin_149 ?_
      refine ev_istore eX12_origin_150 (by decide) ?_
      refine ev_iinc eX12_origin_152 rfl (by decide) ?_
      refine ev_goto 107 eX12_origin_155 rfl ?_
      rw [show (q : Int) - (im B s : Int) = ((q - im B s : Nat) : Int) by omega]
      exact ih (a := a + 1) (q := q - im B s) (by omega) (by omega) (by omega)
set_option maxRecDepth 20000 in
theorem m_org_o {d : Nat} {σ : St} {B : Bok} (hM : MBk σ 49 B) (hO : Ok B) {n i j : Nat} (hn : n ≤ 6) (h300 : (Gr B n).length ≤ 300) (hi : i < (Gr B n).length) (hj : j ≤ n) : ∀ (fu : Nat) {k : Nat} {u4 : Int} {u7 : Value} {τ : St}, j - k < fu → k ≤ j → (∀ k, k ≠ 53 → k ≠ 54 → τ k = σ k) → Ev (d + 4) mX12_origin 80 [.ref 45, vi n, vi i, vi j, vi u4, vi (anc B n i k), vi ((k : Int) + 1), u7] [] τ (fun r τ => some (vi (anc B n i j)) = r ∧ ∀ k, k ≠ 53 → k ≠ 54 → τ k = σ k) := by
  intro fu
  induction fu with
  | zero => intros; omega
  | succ fu ih =>
    intro k u4 u7 τ hm h1 h2
    have hlt := anc_lt hi k (by omega)
    have hgm := Gr_mono hO (m := n - k) (n := n) (by omega)
    refine ev_iload eX12_origin_80 rfl ?_
    refine ev_iload_n eX12_origin_82 rfl ?_
    refine ev_icmp_gt 164 eX12_origin_83 rfl (by omega) (by omega) (fun h83 => ?_) (fun h83 => ?_)
    · skip
      refine ev_iload eX12_origin_164 rfl ?_
      refine ev_iret eX12_origin_166 rfl ?_
      exact ⟨congrArg (fun q => some (vi q)) (by rw [show k = j by omega]), h2⟩
    · skip
      refine ev_aload_n eX12_origin_86 rfl ?_
      refine ev_aload_n eX12_origin_87 rfl ?_
      refine ev_getr eX12_origin_88 fX12_19 rfl ?_
      refine ev_iload_n eX12_origin_91 rfl ?_
      refine ev_iload eX12_origin_92 rfl ?_
      refine ev_isub eX12_origin_94 ?_
      rw [show (n : Int) - ((k : Int) + 1) = ((n - (k + 1) : Nat) : Int) by omega]
      refine ev_cV2 eX12_origin_95 ⟨lX12_205, kX12_layGrown⟩ rfl rfl (m_layGrown (Or.inl rfl) (hM.of (h2 49 (by decide) (by decide))) hO (n := n - (k + 1)) (by omega)) ?_
      rintro _ ξ ⟨q0, ⟨rfl, q1⟩ | ⟨rfl, q1, q2⟩⟩
      · exfalso
        have := Gr_mono hO (m := n - (k + 1)) (n := n) (by omega)
        omega
      refine ev_istore eX12_origin_98 (by decide) ?_
      refine ev_iload eX12_origin_100 rfl ?_
      refine ev_istore eX12_origin_102 (by decide) ?_
      refine ev_iconst eX12_origin_104 ?_
      refine ev_istore eX12_origin_105 (by decide) ?_
      have hlt := anc_lt hi k (by omega)
      have hanc : (prn B (Gr B (n - (k + 1)))).getD (anc B n i k) 0 = anc B n i (k + 1) := by rw [anc, show n - k - 1 = n - (k + 1) by omega]
      refine m_org_i (σ := τ) (hM.of (h2 49 (by decide) (by decide))) hO (st := k + 1) (g := n - (k + 1)) (L := anc B n i k) (by omega) q0 q2 q1 (by rw [show n - k = (n - (k + 1)) + 1 by omega] at hlt; exact hlt) (fun u => ?_) 301 (a := 0) (q := anc B n i k) (by omega) (by omega) (by simp [infl])
      refine ev_iinc eX12_origin_158 rfl (by decide) ?_
      refine ev_goto 80 eX12_origin_161 rfl ?_
      rw [hanc]
      exact ih (k := k + 1) (by omega) (by omega) (fun k a1 a2 => by rw [q0 k a1 a2]; exact h2 k a1 a2)
set_option maxRecDepth 20000 in
theorem m_origin {d : Nat} {σ : St} {B : Bok} (hM : MBk σ 49 B) (hZ : OkZ B) {n i j : Int} (hn : -2147483648 ≤ n ∧ n ≤ 2147483647) (hi : -2147483648 ≤ i ∧ i ≤ 2147483647) (hj : -2147483648 ≤ j ∧ j ≤ 2147483647) : Ct (d + 4) mX12_origin [.ref 45, vi n, vi i, vi j] σ (fun r τ => (B 2 = 0 → some (vi (-1000002)) = r ∧ σ = τ) ∧ (0 < B 2 ∧ ¬ (0 ≤ n ∧ n ≤ 6) → some (vi (-1000001)) = r ∧ σ = τ) ∧ ((0 < B 2 ∧ (0 ≤ n ∧ n ≤ 6)) ∧ 300 < ((Gr B n.toNat).length : Int) → some (vi (-1000003)) = r ∧ ∀ k, k ≠ 53 → k ≠ 54 → τ k = σ k) ∧ ((0 < B 2 ∧ (0 ≤ n ∧ n ≤ 6)) ∧ ((Gr B n.toNat).length : Int) ≤ 300 ∧ ¬ ((0 ≤ i ∧ i < ((Gr B n.toNat).length : Int)) ∧ 0 ≤ j ∧ j ≤ n) → some (vi (-1000001)) = r ∧ ∀ k, k ≠ 53 → k ≠ 54 → τ k = σ k) ∧ ((0 < B 2 ∧ (0 ≤ n ∧ n ≤ 6)) ∧ ((Gr B n.toNat).length : Int) ≤ 300 ∧ ((0 ≤ i ∧ i < ((Gr B n.toNat).length : Int)) ∧ 0 ≤ j ∧ j ≤ n) → some (vi (anc B n.toNat i.toNat j.toNat)) = r ∧ ∀ k, k ≠ 53 → k ≠ 54 → τ k = σ k)) := by
  refine ct_of hX12_origin (Nat.le_of_ble_eq_true rfl) ?_
  have hf := hZ.wf
  have h7 := hf.2.1
  have h8 := hf.2.2.1
  refine ev_aload_n eX12_origin_0 rfl ?_
  refine ev_cV0 eX12_origin_1 ⟨lX12_197, kX12_isThere⟩ rfl rfl (m_isThere hM hZ.wf) ?_
  rintro _ _ ⟨rfl, rfl⟩
  refine ev_ifb_ne 10 eX12_origin_4 rfl (fun h4 => ?_) (fun h4 => ?_)
  · skip
    refine ev_iload_n eX12_origin_10 rfl ?_
    refine ev_i2l eX12_origin_11 (by omega) ?_
    refine ev_lconst 0 eX12_origin_12 rfl ?_
    refine ev_ldc2 eX12_origin_13 qX12_216 ?_
    refine ev_cS3 eX12_origin_16 ⟨lX12_70, kX12_in⟩ rfl (m_in (a := n) (b := 0) (c := 6) (by omega) (by omega) (by omega)) ?_
    rintro _ _ ⟨rfl, rfl⟩
    refine ev_ifb_ne 25 eX12_origin_19 rfl (fun h19 => ?_) (fun h19 => ?_)
    · skip
      have hO := hZ.ok (by omega)
      obtain ⟨n, rfl⟩ : ∃ q : Nat, n = q := ⟨n.toNat, by omega⟩
      rw [Int.toNat_natCast]
      refine ev_aload_n eX12_origin_25 rfl ?_
      refine ev_aload_n eX12_origin_26 rfl ?_
      refine ev_getr eX12_origin_27 fX12_19 rfl ?_
      refine ev_iload_n eX12_origin_30 rfl ?_
      refine ev_cV2 eX12_origin_31 ⟨lX12_205, kX12_layGrown⟩ rfl rfl (m_layGrown (Or.inl rfl) hM hO (n := n) (by omega)) ?_
      rintro _ ξ ⟨q0, ⟨rfl, q1⟩ | ⟨rfl, q1, q2⟩⟩
      · skip
        refine ev_istore eX12_origin_34 (by decide) ?_
        refine ev_iload eX12_origin_36 rfl ?_
        refine ev_ldc eX12_origin_38 qX12_96 ?_
        refine ev_icmp_ne 46 eX12_origin_40 rfl (by omega) (by omega) (fun h40 => False.elim (by omega)) (fun h40 => ?_)
        refine ev_ldc eX12_origin_43 qX12_96 ?_
        refine ev_iret eX12_origin_45 rfl ?_
        refine ⟨fun hc => ?_, fun hc => ?_, fun hc => ?_, fun hc => ?_, fun hc => ?_⟩ <;> first | (exfalso; omega) | (exact ⟨rfl, q0⟩)
      · skip
        refine ev_istore eX12_origin_34 (by decide) ?_
        refine ev_iload eX12_origin_36 rfl ?_
        refine ev_ldc eX12_origin_38 qX12_96 ?_
        refine ev_icmp_ne 46 eX12_origin_40 rfl (by omega) (by omega) (fun h40 => ?_) (fun h40 => False.elim (by omega))
        refine ev_iload_n eX12_origin_46 rfl ?_
        refine ev_i2l eX12_origin_47 (by omega) ?_
        refine ev_lconst 0 eX12_origin_48 rfl ?_
        refine ev_iload eX12_origin_49 rfl ?_
        refine ev_iconst eX12_origin_51 ?_
        refine ev_isub eX12_origin_52 ?_
        refine ev_i2l eX12_origin_53 (by omega) ?_
        refine ev_cS3 eX12_origin_54 ⟨lX12_70, kX12_in⟩ rfl (m_in (a := i) (b := 0) (c := ((Gr B n).length : Int) - 1) (by omega) (by omega) (by omega)) ?_
        rintro _ _ ⟨rfl, rfl⟩
        refine ev_ifb_eq 71 eX12_origin_57 rfl (fun h57 => ?_) (fun h57 => ?_)
        · skip
          refine ev_ldc eX12_origin_71 qX12_80 ?_
          refine ev_iret eX12_origin_73 rfl ?_
          refine ⟨fun hc => ?_, fun hc => ?_, fun hc => ?_, fun hc => ?_, fun hc => ?_⟩ <;> first | (exfalso; omega) | (exact ⟨rfl, q0⟩)
        · skip
          refine ev_iload_n eX12_origin_60 rfl ?_
          refine ev_i2l eX12_origin_61 (by omega) ?_
          refine ev_lconst 0 eX12_origin_62 rfl ?_
          refine ev_iload_n eX12_origin_63 rfl ?_
          refine ev_i2l eX12_origin_64 (by omega) ?_
          refine ev_cS3 eX12_origin_65 ⟨lX12_70, kX12_in⟩ rfl (m_in (a := j) (b := 0) (c := (n : Int)) (by omega) (by omega) (by omega)) ?_
          rintro _ _ ⟨rfl, rfl⟩
          refine ev_ifb_ne 74 eX12_origin_68 rfl (fun h68 => ?_) (fun h68 => ?_)
          · skip
            obtain ⟨i, rfl⟩ : ∃ q : Nat, i = q := ⟨i.toNat, by omega⟩
            obtain ⟨j, rfl⟩ : ∃ q : Nat, j = q := ⟨j.toNat, by omega⟩
            refine ev_iload_n eX12_origin_74 rfl ?_
            refine ev_istore eX12_origin_75 (by decide) ?_
            refine ev_iconst eX12_origin_77 ?_
            refine ev_istore eX12_origin_78 (by decide) ?_
            refine ev_mono (fun r τ h => ?_) (m_org_o hM hO (n := n) (i := i) (j := j) (by omega) q1 (by omega) (by omega) (j + 1) (k := 0) (by omega) (by omega) q0)
            obtain ⟨rfl, g⟩ := h
            refine ⟨fun hc => ?_, fun hc => ?_, fun hc => ?_, fun hc => ?_, fun hc => ?_⟩ <;> first | (exfalso; omega) | (exact ⟨rfl, g⟩)
          · skip
            refine ev_ldc eX12_origin_71 qX12_80 ?_
            refine ev_iret eX12_origin_73 rfl ?_
            refine ⟨fun hc => ?_, fun hc => ?_, fun hc => ?_, fun hc => ?_, fun hc => ?_⟩ <;> first | (exfalso; omega) | (exact ⟨rfl, q0⟩)
    · skip
      refine ev_ldc eX12_origin_22 qX12_80 ?_
      refine ev_iret eX12_origin_24 rfl ?_
      refine ⟨fun hc => ?_, fun hc => ?_, fun hc => ?_, fun hc => ?_, fun hc => ?_⟩ <;> first | (exfalso; omega) | (exact ⟨rfl, rfl⟩)
  · skip
    refine ev_ldc eX12_origin_7 qX12_178 ?_
    refine ev_iret eX12_origin_9 rfl ?_
    refine ⟨fun hc => ?_, fun hc => ?_, fun hc => ?_, fun hc => ?_, fun hc => ?_⟩ <;> first | (exfalso; omega) | (exact ⟨rfl, rfl⟩)
set_option maxRecDepth 20000 in
theorem m_pl_l {d : Nat} {σ : St} {B : Bok} (hM : MBk σ 49 B) (hO : Ok B) {n i v : Nat} {u4 : Int} (hG : AtL σ 53 (Gr B n)) (h300 : (Gr B n).length ≤ 300) (hi : i < (Gr B n).length) (hv : v < 2) : ∀ (fu : Nat) {k : Nat}, i - k < fu → k ≤ i → Ev (d + 2) mX12_place 88 [.ref 45, vi n, vi i, vi v, vi u4, vl (pl B n v k), .null, vi k] [] σ (rt (vl (pl B n v i)) σ) := by
  intro fu
  induction fu with
  | zero => intros; omega
  | succ fu ih =>
    intro k hm h1
    have hf := hO.1
    have h7 := hf.2.1
    refine ev_iload eX12_place_88 rfl ?_
    refine ev_iload_n eX12_place_90 rfl ?_
    refine ev_icmp_ge 121 eX12_place_91 rfl (by omega) (by omega) (fun h91 => ?_) (fun h91 => ?_)
    · skip
      refine ev_lload eX12_place_121 rfl ?_
      refine ev_lret eX12_place_123 rfl ?_
      exact ⟨congrArg (fun q => some (vl q)) (by rw [show k = i by omega]), rfl⟩
    · skip
      refine ev_lload eX12_place_94 rfl ?_
      refine ev_aload_n eX12_place_96 rfl ?_
      refine ev_getr eX12_place_97 fX12_19 rfl ?_
      refine ev_aload_n eX12_place_100 rfl ?_
      refine ev_getr eX12_place_101 fX12_31 rfl ?_
      refine ev_iload eX12_place_104 rfl ?_
      refine ev_ialdv (k) eX12_place_106 rfl (by first | rfl | omega) (by omega) (gr_at hG (i := k) (by omega)) ?_
      refine ev_iload_n eX12_place_107 rfl ?_
      have hgl := gr_lt hO (n := n) (i := k) (by omega)
      refine ev_cS3 eX12_place_108 ⟨lX12_226, kX12_lengthOf⟩ rfl (m_lengthOf (Or.inl rfl) hM hf (s := (Gr B n).getD k 0) (v := v) (by omega) hv) ?_
      rintro _ _ ⟨rfl, rfl⟩
      have hll := ln_le hf (s := (Gr B n).getD k 0) (by omega) hv
      refine ev_i2l eX12_place_111 (by omega) ?_
      refine ev_ladd eX12_place_112 ?_
      refine ev_lstore eX12_place_113 (by decide) ?_
      refine ev_iinc eX12_place_115 rfl (by decide) ?_
      refine ev_goto 88 eX12_place_118 rfl ?_
      exact ih (k := k + 1) (by omega) (by omega)
set_option maxRecDepth 20000 in
theorem m_place {d : Nat} {σ : St} {B : Bok} (hM : MBk σ 49 B) (hZ : OkZ B) {n i e : Int} (hn : -2147483648 ≤ n ∧ n ≤ 2147483647) (hi : -2147483648 ≤ i ∧ i ≤ 2147483647) (he : -2147483648 ≤ e ∧ e ≤ 2147483647) : Ct (d + 4) mX12_place [.ref 45, vi n, vi i, vi e] σ (fun r τ => (B 2 = 0 → some (vl (-1000002)) = r ∧ σ = τ) ∧ (0 < B 2 ∧ ¬ ((0 ≤ n ∧ n ≤ 6) ∧ 0 ≤ i ∧ 0 ≤ e ∧ e ≤ 1) → some (vl (-1000001)) = r ∧ σ = τ) ∧ (0 < B 2 ∧ ((0 ≤ n ∧ n ≤ 6) ∧ 0 ≤ i ∧ 0 ≤ e ∧ e ≤ 1) ∧ 300 < ((Gr B n.toNat).length : Int) → some (vl (-1000003)) = r ∧ ∀ k, k ≠ 53 → k ≠ 54 → τ k = σ k) ∧ (0 < B 2 ∧ ((0 ≤ n ∧ n ≤ 6) ∧ 0 ≤ i ∧ 0 ≤ e ∧ e ≤ 1) ∧ ((Gr B n.toNat).length : Int) ≤ 300 ∧ ((Gr B n.toNat).length : Int) ≤ i → some (vl (-1000000)) = r ∧ ∀ k, k ≠ 53 → k ≠ 54 → τ k = σ k) ∧ (0 < B 2 ∧ ((0 ≤ n ∧ n ≤ 6) ∧ 0 ≤ i ∧ 0 ≤ e ∧ e ≤ 1) ∧ ((Gr B n.toNat).length : Int) ≤ 300 ∧ i < ((Gr B n.toNat).length : Int) → some (vl (pl B n.toNat e.toNat i.toNat)) = r ∧ ∀ k, k ≠ 53 → k ≠ 54 → τ k = σ k)) := by
  refine ct_of hX12_place (Nat.le_of_ble_eq_true rfl) ?_
  have hf := hZ.wf
  have h7 := hf.2.1
  have h8 := hf.2.2.1
  refine ev_aload_n eX12_place_0 rfl ?_
  refine ev_cV0 eX12_place_1 ⟨lX12_197, kX12_isThere⟩ rfl rfl (m_isThere hM hZ.wf) ?_
  rintro _ _ ⟨rfl, rfl⟩
  refine ev_ifb_ne 11 eX12_place_4 rfl (fun h4 => ?_) (fun h4 => ?_)
  · skip
    refine ev_iload_n eX12_place_11 rfl ?_
    refine ev_i2l eX12_place_12 (by omega) ?_
    refine ev_lconst 0 eX12_place_13 rfl ?_
    refine ev_ldc2 eX12_place_14 qX12_216 ?_
    refine ev_cS3 eX12_place_17 ⟨lX12_70, kX12_in⟩ rfl (m_in (a := n) (b := 0) (c := 6) (by omega) (by omega) (by omega)) ?_
    rintro _ _ ⟨rfl, rfl⟩
    refine ev_ifb_eq 37 eX12_place_20 rfl (fun h20 => ?_) (fun h20 => ?_)
    · skip
      refine ev_ldc2 eX12_place_37 qX12_220 ?_
      refine ev_lret eX12_place_40 rfl ?_
      refine ⟨fun hc => ?_, fun hc => ?_, fun hc => ?_, fun hc => ?_, fun hc => ?_⟩ <;> first | (exfalso; omega) | (exact ⟨rfl, rfl⟩)
    · skip
      refine ev_iload_n eX12_place_23 rfl ?_
      refine ev_if_lt 37 eX12_place_24 rfl (by omega) (fun h24 => ?_) (fun h24 => ?_)
      · skip
        refine ev_ldc2 eX12_place_37 qX12_220 ?_
        refine ev_lret eX12_place_40 rfl ?_
        refine ⟨fun hc => ?_, fun hc => ?_, fun hc => ?_, fun hc => ?_, fun hc => ?_⟩ <;> first | (exfalso; omega) | (exact ⟨rfl, rfl⟩)
      · skip
        refine ev_iload_n eX12_place_27 rfl ?_
        refine ev_i2l eX12_place_28 (by omega) ?_
        refine ev_lconst 0 eX12_place_29 rfl ?_
        refine ev_lconst 1 eX12_place_30 rfl ?_
        refine ev_cS3 eX12_place_31 ⟨lX12_70, kX12_in⟩ rfl (m_in (a := e) (b := 0) (c := 1) (by omega) (by omega) (by omega)) ?_
        rintro _ _ ⟨rfl, rfl⟩
        refine ev_ifb_ne 41 eX12_place_34 rfl (fun h34 => ?_) (fun h34 => ?_)
        · skip
          have hO := hZ.ok (by omega)
          obtain ⟨n, rfl⟩ : ∃ q : Nat, n = q := ⟨n.toNat, by omega⟩
          obtain ⟨i, rfl⟩ : ∃ q : Nat, i = q := ⟨i.toNat, by omega⟩
          obtain ⟨e, rfl⟩ : ∃ q : Nat, e = q := ⟨e.toNat, by omega⟩
          rw [Int.toNat_natCast, Int.toNat_natCast, Int.toNat_natCast]
          refine ev_aload_n eX12_place_41 rfl ?_
          refine ev_aload_n eX12_place_42 rfl ?_
          refine ev_getr eX12_place_43 fX12_19 rfl ?_
          refine ev_iload_n eX12_place_46 rfl ?_
          refine ev_cV2 eX12_place_47 ⟨lX12_205, kX12_layGrown⟩ rfl rfl (m_layGrown (Or.inl rfl) hM hO (n := n) (by omega)) ?_
          rintro _ ξ ⟨q0, ⟨rfl, q1⟩ | ⟨rfl, q1, q2⟩⟩
          · skip
            refine ev_istore eX12_place_50 (by decide) ?_
            refine ev_iload eX12_place_52 rfl ?_
            refine ev_ldc eX12_place_54 qX12_96 ?_
            refine ev_icmp_eq 65 eX12_place_56 rfl (by omega) (by omega) (fun h56 => ?_) (fun h56 => False.elim (by omega))
            refine ev_iload eX12_place_65 rfl ?_
            refine ev_ldc eX12_place_67 qX12_96 ?_
            refine ev_icmp_ne 78 eX12_place_69 rfl (by omega) (by omega) (fun h69 => False.elim (by omega)) (fun h69 => ?_)
            refine ev_ldc2 eX12_place_72 qX12_222 ?_
            refine ev_goto 81 eX12_place_75 rfl ?_
            refine ev_lret eX12_place_81 rfl ?_
            refine ⟨fun hc => ?_, fun hc => ?_, fun hc => ?_, fun hc => ?_, fun hc => ?_⟩ <;> first | (exfalso; omega) | (exact ⟨rfl, q0⟩)
          · skip
            refine ev_istore eX12_place_50 (by decide) ?_
            refine ev_iload eX12_place_52 rfl ?_
            refine ev_ldc eX12_place_54 qX12_96 ?_
            refine ev_icmp_eq 65 eX12_place_56 rfl (by omega) (by omega) (fun h56 => False.elim (by omega)) (fun h56 => ?_)
            refine ev_iload_n eX12_place_59 rfl ?_
            refine ev_iload eX12_place_60 rfl ?_
            refine ev_icmp_lt 82 eX12_place_62 rfl (by omega) (by omega) (fun h62 => ?_) (fun h62 => ?_)
            · skip
              refine ev_lconst 0 eX12_place_82 rfl ?_
              refine ev_lstore eX12_place_83 (by decide) ?_
              refine ev_iconst eX12_place_85 ?_
              refine ev_istore eX12_place_86 (by decide) ?_
              refine ev_mono (fun r τ h => ?_) (m_pl_l (hM.of (q0 49 (by decide) (by decide))) hO (n := n) (i := i) (v := e) q2 q1 (by omega) (by omega) (i + 1) (k := 0) (by omega) (by omega))
              obtain ⟨rfl, rfl⟩ := h
              refine ⟨fun hc => ?_, fun hc => ?_, fun hc => ?_, fun hc => ?_, fun hc => ?_⟩ <;> first | (exfalso; omega) | (exact ⟨rfl, q0⟩)
            · skip
              refine ev_iload eX12_place_65 rfl ?_
              refine ev_ldc eX12_place_67 qX12_96 ?_
              refine ev_icmp_ne 78 eX12_place_69 rfl (by omega) (by omega) (fun h69 => ?_) (fun h69 => False.elim (by omega))
              refine ev_ldc2 eX12_place_78 qX12_224 ?_
              refine ev_lret eX12_place_81 rfl ?_
              refine ⟨fun hc => ?_, fun hc => ?_, fun hc => ?_, fun hc => ?_, fun hc => ?_⟩ <;> first | (exfalso; omega) | (exact ⟨rfl, q0⟩)
        · skip
          refine ev_ldc2 eX12_place_37 qX12_220 ?_
          refine ev_lret eX12_place_40 rfl ?_
          refine ⟨fun hc => ?_, fun hc => ?_, fun hc => ?_, fun hc => ?_, fun hc => ?_⟩ <;> first | (exfalso; omega) | (exact ⟨rfl, rfl⟩)
  · skip
    refine ev_ldc2 eX12_place_7 qX12_218 ?_
    refine ev_lret eX12_place_10 rfl ?_
    refine ⟨fun hc => ?_, fun hc => ?_, fun hc => ?_, fun hc => ?_, fun hc => ?_⟩ <;> first | (exfalso; omega) | (exact ⟨rfl, rfl⟩)
theorem gr1_le {B : Bok} (hO : Ok B) : (Gr B 1).length ≤ 32 := by
  have h := infl_le4 hO.1 (rowL B) (fun x hx => by have := Gr_lt hO 0 x hx; have := hO.1.2.1; omega)
  rw [rowL_len] at h
  have := hO.1.2.2.1
  show (infl B (rowL B)).length ≤ 32
  omega
set_option maxRecDepth 20000 in
theorem m_inflate {d : Nat} {σ : St} {B : Bok} (hM : MBk σ 49 B) (hZ : OkZ B) {na : Nat} {Ac : Nat → Bok} (hA : MAc σ na Ac)  : Ct (d + 4) mX12_inflate [.ref 45] σ (fun r τ => (B 2 = 0 → some (vi (-1000002)) = r ∧ σ = τ) ∧ (0 < B 2 ∧ 8 < (Gr B 1).length → some (vi (-1000003)) = r ∧ ∀ k, k ≠ 53 → k ≠ 54 → τ k = σ k) ∧ (0 < B 2 ∧ (Gr B 1).length ≤ 8 → some (vi ((Gr B 1).length : Int)) = r ∧ MBk τ 49 (rwB B (Gr B 1).length (g1L B)) ∧ MAc τ (naN na + 1) (acN na Ac B) ∧ (∀ j, j ≠ 8 → τ 45 j = σ 45 j) ∧ ∀ c, c ≠ 45 → c ≠ 49 → c ≠ 52 → c ≠ 53 → c ≠ 54 → τ c = σ c)) := by
  refine ct_of hX12_inflate (Nat.le_of_ble_eq_true rfl) ?_
  have hf := hZ.wf
  have h7 := hf.2.1
  have h8 := hf.2.2.1
  refine ev_aload_n eX12_inflate_0 rfl ?_
  refine ev_cV0 eX12_inflate_1 ⟨lX12_197, kX12_isThere⟩ rfl rfl (m_isThere hM hZ.wf) ?_
  rintro _ _ ⟨rfl, rfl⟩
  refine ev_ifb_ne 10 eX12_inflate_4 rfl (fun h4 => ?_) (fun h4 => ?_)
  · skip
    refine ev_aload_n eX12_inflate_10 rfl ?_
    refine ev_aload_n eX12_inflate_11 rfl ?_
    refine ev_getr eX12_inflate_12 fX12_19 rfl ?_
    refine ev_iconst eX12_inflate_15 ?_
    have hO := hZ.ok (by omega)
    have hg1 := gr1_le hO
    refine ev_cV2 eX12_inflate_16 ⟨lX12_205, kX12_layGrown⟩ rfl rfl (m_layGrown (Or.inl rfl) hM hO (n := 1) (by omega)) ?_
    rintro _ ξ ⟨q0, ⟨rfl, q1⟩ | ⟨rfl, q1, q2⟩⟩
    · exfalso; omega
    refine ev_istore_n eX12_inflate_19 (by decide) ?_
    refine ev_iload_n eX12_inflate_20 rfl ?_
    refine ev_bipush eX12_inflate_21 rfl ?_
    refine ev_icmp_le 29 eX12_inflate_23 rfl (by omega) (by omega) (fun h23 => ?_) (fun h23 => ?_)
    · skip
      refine ev_aload_n eX12_inflate_29 rfl ?_
      refine ev_cV0 eX12_inflate_30 ⟨lX12_190, kX12_keeps⟩ rfl rfl (m_keeps (hM.of (q0 49 (by decide) (by decide))) (hA.of (by rw [q0 45 (by decide) (by decide)]) (q0 52 (by decide) (by decide)))) ?_
      rintro _ τ ⟨rfl, a1, a2, a3⟩
      have hM1 := (hM.of (q0 49 (by decide) (by decide))).ro a3
      refine ev_iconst eX12_inflate_33 ?_
      refine ev_istore_n eX12_inflate_34 (by decide) ?_
      refine ev_mono (fun r ν h => ?_) (m_infl_l (ρ := τ) (B := B) (na := na) (Ac := Ac) (l := g1L B) (n := (Gr B 1).length) (by omega) (fun k hk => by rw [a3 53 (by decide) (by decide)]; exact gr_at q2 hk) 9 (k := 0) (by omega) (by omega) (hM1.cg (fun j _ => by unfold rwP; rw [if_neg (by omega)])) (fun _ _ => rfl))
      obtain ⟨rfl, g1, g2⟩ := h
      refine ⟨fun hc => ?_, fun hc => ?_, fun hc => ?_⟩ <;> first | (exfalso; omega) | skip
      exact ⟨rfl, g1, a1.of (by rw [g2 45 (by decide)]) (by rw [g2 52 (by decide)]), fun j b1 => by rw [g2 45 (by decide), a2 j b1, q0 45 (by decide) (by decide)], fun c b1 b2 b3 b4 b5 => by rw [g2 c b2, a3 c b1 b3, q0 c b4 b5]⟩
    · skip
      refine ev_ldc eX12_inflate_26 qX12_96 ?_
      refine ev_iret eX12_inflate_28 rfl ?_
      refine ⟨fun hc => ?_, fun hc => ?_, fun hc => ?_⟩ <;> first | (exfalso; omega) | (exact ⟨rfl, q0⟩)
  · skip
    refine ev_ldc eX12_inflate_7 qX12_178 ?_
    refine ev_iret eX12_inflate_9 rfl ?_
    refine ⟨fun hc => ?_, fun hc => ?_, fun hc => ?_⟩ <;> first | (exfalso; omega) | (exact ⟨rfl, rfl⟩)
def Zt (B : Bok) (it : Nat → Int) (n q m k : Nat) : Prop := (Gr B n).length ≤ 300 ∧ m ≤ (Gr B n).length ∧ ∀ i, i < k → ((Gr B n).getD i 0 : Int) = it (q * 40 + i)
set_option maxRecDepth 20000 in
theorem m_so_l {d : Nat} {σ : St} {B : Bok} (hO : Ok B) {it : Nat → Int} {n q m : Nat} (hq : q < 8) (hm40 : m ≤ 40) (hit : ∀ i, i < m → σ 48 (40 * q + i) = it (q * 40 + i) ∧ R32 (it (q * 40 + i))) (hG : (Gr B n).length ≤ 300 → AtL σ 53 (Gr B n)) {u4 : Int} : ∀ (fu : Nat) {k : Nat} {a : Int}, m - k < fu → k ≤ m → a = bC (Zt B it n q m k) → Ev (d) mX12_isSo 27 [.ref 45, vi n, vi q, vi m, vi u4, vi a, vi k] [] σ (rt (vi (bC (tls B it n q m))) σ) := by
  intro fu
  induction fu with
  | zero => intros; omega
  | succ fu ih =>
    intro k a hm h1 ha
    subst ha
    have h7 := hO.1.2.1
    refine ev_iload eX12_isSo_27 rfl ?_
    refine ev_iload_n eX12_isSo_29 rfl ?_
    refine ev_icmp_ge 73 eX12_isSo_30 rfl (by omega) (by omega) (fun h30 => ?_) (fun h30 => ?_)
    · skip
      refine ev_iload eX12_isSo_73 rfl ?_
      refine ev_zret eX12_isSo_75 rfl (by first | exact Or.inl rfl | exact Or.inr rfl | exact bI01 _) ?_
      exact ⟨congrArg (fun q => some (vi q)) (by rw [show k = m by omega]; rfl), rfl⟩
    · skip
      refine ev_iload eX12_isSo_33 rfl ?_
      refine ev_ifb_eq 73 eX12_isSo_35 rfl (fun hz => ?_) (fun hz => ?_)
      · skip
        refine ev_iload eX12_isSo_73 rfl ?_
        refine ev_zret eX12_isSo_75 rfl (by first | exact Or.inl rfl | exact Or.inr rfl | exact bI01 _) ?_
        exact ⟨congrArg (fun q => some (vi q)) ((bI_f (fun z => hz ⟨z.1, z.2.1, fun i hi => z.2.2 i (by omega)⟩)).trans (bI_f hz).symm), rfl⟩
      · skip
        refine ev_aload_n eX12_isSo_38 rfl ?_
        refine ev_getr eX12_isSo_39 fX12_31 rfl ?_
        refine ev_iload eX12_isSo_42 rfl ?_
        have hgl := gr_lt hO (n := n) (i := k) (by have := hz.2.1; omega)
        refine ev_ialdv (k) eX12_isSo_44 rfl (by first | rfl | omega) (by omega) (gr_at (hG hz.1) (i := k) (by have := hz.2.1; omega)) ?_
        refine ev_aload_n eX12_isSo_45 rfl ?_
        refine ev_getr eX12_isSo_46 fX12_16 rfl ?_
        refine ev_bipush eX12_isSo_49 rfl ?_
        refine ev_iload_n eX12_isSo_51 rfl ?_
        refine ev_imul eX12_isSo_52 ?_
        refine ev_iload eX12_isSo_53 rfl ?_
        refine ev_iadd eX12_isSo_55 ?_
        have hrr := (hit k (by omega)).2
        unfold R32 at hrr
        refine ev_ialdv (((40 * q) + k)) eX12_isSo_56 rfl (by first | rfl | omega) (by omega) (hit k (by omega)).1 ?_
        refine ev_icmp_ne 64 eX12_isSo_57 rfl (by omega) (by omega) (fun h57 => ?_) (fun h57 => ?_)
        · skip
          refine ev_iconst eX12_isSo_64 ?_
          refine ev_istore eX12_isSo_65 (by decide) ?_
          refine ev_iinc eX12_isSo_67 rfl (by decide) ?_
          refine ev_goto 27 eX12_isSo_70 rfl ?_
          first | (exact ih (k := k + 1) (by omega) (by omega) (bI_t (show Zt B it n q m (k + 1) from ⟨hz.1, hz.2.1, fun i hi => by
            by_cases e : i = k
            · subst e; exact h57
            · exact hz.2.2 i (by omega)⟩)).symm) | (exact ih (k := k + 1) (by omega) (by omega) (bI_f (fun z => h57 (z.2.2 k (by omega)))).symm)
        · skip
          refine ev_iconst eX12_isSo_60 ?_
          refine ev_goto 65 eX12_isSo_61 rfl ?_
          refine ev_istore eX12_isSo_65 (by decide) ?_
          refine ev_iinc eX12_isSo_67 rfl (by decide) ?_
          refine ev_goto 27 eX12_isSo_70 rfl ?_
          first | (exact ih (k := k + 1) (by omega) (by omega) (bI_t (show Zt B it n q m (k + 1) from ⟨hz.1, hz.2.1, fun i hi => by
            by_cases e : i = k
            · subst e; exact h57
            · exact hz.2.2 i (by omega)⟩)).symm) | (exact ih (k := k + 1) (by omega) (by omega) (bI_f (fun z => h57 (z.2.2 k (by omega)))).symm)
set_option maxRecDepth 20000 in
theorem m_isSo {d : Nat} {σ : St} {B : Bok} (hM : MBk σ 51 B) (hO : Ok B) {it : Nat → Int} {n q m : Nat} (hq : q < 8) (hm40 : m ≤ 40) (hit : ∀ i, i < m → σ 48 (40 * q + i) = it (q * 40 + i) ∧ R32 (it (q * 40 + i))) (hn : n ≤ 6) (hm1 : 1 ≤ m) : Ct (d + 4) mX12_isSo [.ref 45, vi n, vi q, vi m] σ (fun r τ => some (vi (bC (tls B it n q m))) = r ∧ ∀ k, k ≠ 53 → k ≠ 54 → τ k = σ k) := by
  refine ct_of hX12_isSo (Nat.le_of_ble_eq_true rfl) ?_
  refine ev_aload_n eX12_isSo_0 rfl ?_
  refine ev_aload_n eX12_isSo_1 rfl ?_
  refine ev_getr eX12_isSo_2 fX12_25 rfl ?_
  refine ev_iload_n eX12_isSo_5 rfl ?_
  refine ev_cV2 eX12_isSo_6 ⟨lX12_205, kX12_layGrown⟩ rfl rfl (m_layGrown (Or.inr rfl) hM hO (n := n) (by omega)) ?_
  rintro _ ξ ⟨q0, ⟨rfl, q1⟩ | ⟨rfl, q1, q2⟩⟩
  · skip
    refine ev_istore eX12_isSo_9 (by decide) ?_
    refine ev_iload eX12_isSo_11 rfl ?_
    refine ev_iload_n eX12_isSo_13 rfl ?_
    refine ev_icmp_lt 21 eX12_isSo_14 rfl (by omega) (by omega) (fun h14 => ?_) (fun h14 => False.elim (by omega))
    refine ev_iconst eX12_isSo_21 ?_
    refine ev_istore eX12_isSo_22 (by decide) ?_
    refine ev_iconst eX12_isSo_24 ?_
    refine ev_istore eX12_isSo_25 (by decide) ?_
    refine ev_mono (fun r τ h => ?_) (m_so_l hO hq hm40 (fun i hi => by rw [q0 48 (by decide) (by decide)]; exact hit i hi) (fun z => by omega) (m + 1) (k := 0) (by omega) (by omega) (bI_f (fun z => by have := z.1; omega)).symm)
    obtain ⟨rfl, rfl⟩ := h
    exact ⟨rfl, q0⟩
  · skip
    refine ev_istore eX12_isSo_9 (by decide) ?_
    refine ev_iload eX12_isSo_11 rfl ?_
    refine ev_iload_n eX12_isSo_13 rfl ?_
    refine ev_icmp_lt 21 eX12_isSo_14 rfl (by omega) (by omega) (fun h14 => ?_) (fun h14 => ?_)
    · skip
      refine ev_iconst eX12_isSo_21 ?_
      refine ev_istore eX12_isSo_22 (by decide) ?_
      refine ev_iconst eX12_isSo_24 ?_
      refine ev_istore eX12_isSo_25 (by decide) ?_
      refine ev_mono (fun r τ h => ?_) (m_so_l hO hq hm40 (fun i hi => by rw [q0 48 (by decide) (by decide)]; exact hit i hi) (fun _ => q2) (m + 1) (k := 0) (by omega) (by omega) (bI_f (fun z => by have := z.2.1; omega)).symm)
      obtain ⟨rfl, rfl⟩ := h
      exact ⟨rfl, q0⟩
    · skip
      refine ev_iconst eX12_isSo_17 ?_
      refine ev_goto 22 eX12_isSo_18 rfl ?_
      refine ev_istore eX12_isSo_22 (by decide) ?_
      refine ev_iconst eX12_isSo_24 ?_
      refine ev_istore eX12_isSo_25 (by decide) ?_
      refine ev_mono (fun r τ h => ?_) (m_so_l hO hq hm40 (fun i hi => by rw [q0 48 (by decide) (by decide)]; exact hit i hi) (fun _ => q2) (m + 1) (k := 0) (by omega) (by omega) (bI_t (show Zt B it n q m 0 from ⟨q1, by omega, fun i hi => by omega⟩)).symm)
      obtain ⟨rfl, rfl⟩ := h
      exact ⟨rfl, q0⟩
