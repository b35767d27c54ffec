/-! the reference: rows grown -/
theorem mqn {c : Nat} (h : Mq c) : c ≠ 53 ∧ c ≠ 54 := by unfold Mq at h; omega
theorem lget {l : List Nat} {m : Nat} (hl : ∀ x ∈ l, x < m) {k : Nat} (hk : k < l.length) : ∃ s, l[k]? = some s ∧ s < m := ⟨l[k], List.getElem?_eq_getElem hk, hl _ (List.getElem_mem hk)⟩
theorem infl_s (B : Bok) {l : List Nat} {k s : Nat} (h : l[k]? = some s) : infl B (l.take (k + 1)) = infl B (l.take k) ++ imgL B s := by rw [take_s h, infl_app, infl_one]
theorem infl_sl (B : Bok) {l : List Nat} {k s : Nat} (h : l[k]? = some s) : (infl B (l.take (k + 1))).length = (infl B (l.take k)).length + im B s := by rw [infl_s B h, List.length_append, imgL_len]
theorem infl_le4 {B : Bok} (hf : Wf B) : ∀ (l : List Nat), (∀ x ∈ l, x < 4) → (infl B l).length ≤ 4 * l.length
  | [], _ => Nat.le_refl _
  | s :: r, hl => by
    have h1 := infl_le4 hf r (fun x hx => hl x (List.mem_cons_of_mem _ hx))
    have h2 := im_le hf (hl s List.mem_cons_self)
    rw [show s :: r = [s] ++ r from rfl, infl_app, List.length_append, List.length_append, infl_one, imgL_len]
    simp
    omega
theorem take_lt {l : List Nat} {m : Nat} (hl : ∀ x ∈ l, x < m) (k : Nat) : ∀ x ∈ l.take k, x < m := fun x hx => hl x (List.mem_of_mem_take hx)
set_option maxRecDepth 20000 in
theorem m_inf_c {d : Nat} {σ : St} {c : Nat} {B : Bok} {l : List Nat} {u4 : Int} {u6 : Value} (h300 : (infl B l).length ≤ 300) {ρ : St} (hA : AtL ρ 54 (infl B l)) (hρ : ∀ k, k ≠ 54 → ρ k = σ k) : ∀ (fu : Nat) {k : Nat} {τ : St}, (infl B l).length - k < fu → k ≤ (infl B l).length → (∀ i, i < k → τ 53 i = ρ 54 i) → (∀ c, c ≠ 53 → τ c = ρ c) → Ev (d) mX12_inflated 110 [.ref 45, .ref c, vi l.length, vi (infl B l).length, vi u4, vi k, u6] [] τ (fun r τ => (300 < (infl B l).length → some (vi (-1000003)) = r ∧ σ = τ) ∧ ((infl B l).length ≤ 300 → some (vi ((infl B l).length : Int)) = r ∧ AtL τ 53 (infl B l) ∧ (∀ k, k ≠ 53 → k ≠ 54 → τ k = σ k))) := by
  intro fu
  induction fu with
  | zero => intros; omega
  | succ fu ih =>
    intro k τ hm h1 h2 h3
    refine ev_iload eX12_inflated_110 rfl ?_
    refine ev_iload_n eX12_inflated_112 rfl ?_
    refine ev_icmp_ge 136 eX12_inflated_113 rfl (by omega) (by omega) (fun h113 => ?_) (fun h113 => ?_)
    · skip
      refine ev_iload_n eX12_inflated_136 rfl ?_
      refine ev_iret eX12_inflated_137 rfl ?_
      refine ⟨fun hc => by omega, fun _ => ⟨rfl, fun i x hi => ?_, fun k a1 a2 => by rw [h3 k a1]; exact hρ k a2⟩⟩
      have hl : i < (infl B l).length := (List.getElem?_eq_some_iff.mp hi).1
      rw [h2 i (by omega)]
      exact hA i x hi
    · skip
      refine ev_aload_n eX12_inflated_116 rfl ?_
      refine ev_getr eX12_inflated_117 fX12_31 rfl ?_
      refine ev_iload eX12_inflated_120 rfl ?_
      refine ev_aload_n eX12_inflated_122 rfl ?_
      refine ev_getr eX12_inflated_123 fX12_34 rfl ?_
      refine ev_iload eX12_inflated_126 rfl ?_
      refine ev_ialdv (k) eX12_inflated_128 rfl (by first | rfl | omega) (by omega) (show τ 54 k = ρ 54 k by rw [h3 54 (by decide)]) ?_
      refine ev_iast (k) eX12_inflated_129 rfl (by first | rfl | omega) (by omega) ?_
      refine ev_iinc eX12_inflated_130 rfl (by decide) ?_
      refine ev_goto 110 eX12_inflated_133 rfl ?_
      refine ih (k := k + 1) (by omega) (by omega) (fun i hi => ?_) (fun c hc => by rw [up_o _ _ _ hc]; exact h3 c hc)
      by_cases e : i = k
      · subst e; exact up_s _ _ _ _
      · rw [up_n _ _ e]; exact h2 i (by omega)
set_option maxRecDepth 20000 in
theorem m_inf_i {d : Nat} {σ : St} {c : Nat} {B : Bok} (hc : Mq c) (hM : MBk σ c B) (hO : Ok B) {l : List Nat} (hl : AtL σ 53 l) (hl3 : l.length ≤ 300) (hlt : ∀ x ∈ l, x < B 2) {k s : Nat} (hk : l[k]? = some s) (hs : s < B 2) (hk3 : k < 300) (h300 : (infl B (l.take k)).length + im B s ≤ 300) {post : Option Value → St → Prop} (hq : ∀ (τ : St) (a : Nat), AtL τ 54 (infl B (l.take k) ++ imgL B s) → (∀ k, k ≠ 54 → τ k = σ k) → a = (infl B (l.take k)).length + im B s → Ev (d + 2) mX12_inflated 101 [.ref 45, .ref c, vi l.length, vi (infl B l).length, vi a, vi k, vi (im B s)] [] τ post) : ∀ (fu : Nat) {i a : Nat} {τ : St}, im B s - i < fu → i ≤ im B s → a = (infl B (l.take k)).length + i → AtL τ 54 (infl B (l.take k) ++ (imgL B s).take i) → (∀ k, k ≠ 54 → τ k = σ k) → Ev (d + 2) mX12_inflated 56 [.ref 45, .ref c, vi l.length, vi (infl B l).length, vi a, vi k, vi i] [] τ (post) := by
  intro fu
  induction fu with
  | zero => intros; omega
  | succ fu ih =>
    intro i a τ hm h1 ha h2 h3
    have hf := hO.1
    have h7 := hf.2.1
    have him4 := im_le hf (s := s) (by omega)
    refine ev_iload eX12_inflated_56 rfl ?_
    refine ev_aload_n eX12_inflated_58 rfl ?_
    refine ev_aload_n eX12_inflated_59 rfl ?_
    refine ev_getr eX12_inflated_60 fX12_31 rfl ?_
    refine ev_iload eX12_inflated_63 rfl ?_
    refine ev_ialdv (k) eX12_inflated_65 rfl (by first | rfl | omega) (by omega) (show τ 53 k = (s : Int) by rw [h3 53 (by decide)]; exact hl k s hk) ?_
    refine ev_cS2 eX12_inflated_66 ⟨lX12_100, kX12_imageSize⟩ rfl (m_imageSize hc (fun j hj => by rw [h3 c (mqn hc).2]; exact hM j hj) hf (s := s) (by omega)) ?_
    rintro _ _ ⟨rfl, rfl⟩
    refine ev_icmp_ge 101 eX12_inflated_69 rfl (by omega) (by omega) (fun h69 => ?_) (fun h69 => ?_)
    · skip
      obtain rfl : i = im B s := by omega
      have et : (imgL B s).take (im B s) = imgL B s := List.take_of_length_le (by rw [imgL_len]; exact Nat.le_refl _)
      rw [et] at h2
      exact hq τ a h2 h3 ha
    · skip
      refine ev_aload_n eX12_inflated_72 rfl ?_
      refine ev_getr eX12_inflated_73 fX12_34 rfl ?_
      refine ev_iload eX12_inflated_76 rfl ?_
      refine ev_aload_n eX12_inflated_78 rfl ?_
      refine ev_aload_n eX12_inflated_79 rfl ?_
      refine ev_getr eX12_inflated_80 fX12_31 rfl ?_
      refine ev_iload eX12_inflated_83 rfl ?_
      refine ev_ialdv (k) eX12_inflated_85 rfl (by first | rfl | omega) (by omega) (show τ 53 k = (s : Int) by rw [h3 53 (by decide)]; exact hl k s hk) ?_
      refine ev_iload eX12_inflated_86 rfl ?_
      refine ev_cS3 eX12_inflated_88 ⟨lX12_103, kX12_imageAt⟩ rfl (m_imageAt hc (fun j hj => by rw [h3 c (mqn hc).2]; exact hM j hj) hf (s := s) (i := i) (by omega) (by omega)) ?_
      rintro _ _ ⟨rfl, rfl⟩
      refine ev_iast (a) eX12_inflated_91 rfl (by first | rfl | omega) (by omega) ?_
      refine ev_iinc eX12_inflated_92 rfl (by decide) ?_
      refine ev_iinc eX12_inflated_95 rfl (by decide) ?_
      refine ev_goto 56 eX12_inflated_98 rfl ?_
      have e1 : (infl B (l.take k) ++ (imgL B s).take i).length = a := by rw [List.length_append, List.length_take, imgL_len]; omega
      refine ih (i := i + 1) (a := a + 1) (by omega) (by omega) (by omega) ?_ (fun c hc => by rw [up_o _ _ _ hc]; exact h3 c hc)
      have h := AtL_push (x := il B s i) h2
      rw [e1, List.append_assoc, ← take_s (imgL_at B (by omega))] at h
      exact h
set_option maxRecDepth 20000 in
theorem m_inf_b {d : Nat} {σ : St} {c : Nat} {B : Bok} (hc : Mq c) (hM : MBk σ c B) (hO : Ok B) {l : List Nat} (hl : AtL σ 53 l) (hl3 : l.length ≤ 300) (hlt : ∀ x ∈ l, x < B 2) (h300 : (infl B l).length ≤ 300) : ∀ (fu : Nat) {k a : Nat} {u6 : Value} {τ : St}, l.length - k < fu → k ≤ l.length → a = (infl B (l.take k)).length → AtL τ 54 (infl B (l.take k)) → (∀ k, k ≠ 54 → τ k = σ k) → Ev (d + 2) mX12_inflated 47 [.ref 45, .ref c, vi l.length, vi (infl B l).length, vi a, vi k, u6] [] τ (fun r τ => (300 < (infl B l).length → some (vi (-1000003)) = r ∧ σ = τ) ∧ ((infl B l).length ≤ 300 → some (vi ((infl B l).length : Int)) = r ∧ AtL τ 53 (infl B l) ∧ (∀ k, k ≠ 53 → k ≠ 54 → τ k = σ k))) := by
  intro fu
  induction fu with
  | zero => intros; omega
  | succ fu ih =>
    intro k a u6 τ hm h1 h2 h3 h4
    have hf := hO.1
    have h7 := hf.2.1
    refine ev_iload eX12_inflated_47 rfl ?_
    refine ev_iload_n eX12_inflated_49 rfl ?_
    refine ev_icmp_ge 107 eX12_inflated_50 rfl (by omega) (by omega) (fun h50 => ?_) (fun h50 => ?_)
    · skip
      refine ev_iconst eX12_inflated_107 ?_
      refine ev_istore eX12_inflated_108 (by decide) ?_
      obtain rfl : k = l.length := by omega
      rw [List.take_length] at h3
      exact m_inf_c h300 h3 h4 ((infl B l).length + 1) (k := 0) (by omega) (by omega) (fun i hi => by omega) (fun _ _ => rfl)
    · skip
      obtain ⟨s, hk, hs⟩ := lget hlt (k := k) (by omega)
      have e3 := infl_sl B hk
      have e4 := infl_mono B (l := l) (k + 1)
      refine ev_iconst eX12_inflated_53 ?_
      refine ev_istore eX12_inflated_54 (by decide) ?_
      refine m_inf_i hc hM hO hl hl3 hlt hk hs (by omega) (by omega) (fun τ a2 g1 g2 g3 => ?_) 5 (i := 0) (a := a) (by have := im_le hf (s := s) (by omega); omega) (by omega) (by omega) (by simpa using h3) h4
      refine ev_iinc eX12_inflated_101 rfl (by decide) ?_
      refine ev_goto 47 eX12_inflated_104 rfl ?_
      refine ih (k := k + 1) (a := a2) (by omega) (by omega) (by omega) ?_ g2
      rw [infl_s B hk]; exact g1
set_option maxRecDepth 20000 in
theorem m_inf_a {d : Nat} {σ : St} {c : Nat} {B : Bok} (hc : Mq c) (hM : MBk σ c B) (hO : Ok B) {l : List Nat} (hl : AtL σ 53 l) (hl3 : l.length ≤ 300) (hlt : ∀ x ∈ l, x < B 2)  : ∀ (fu : Nat) {k a : Nat}, l.length - k < fu → k ≤ l.length → a = (infl B (l.take k)).length → Ev (d + 2) mX12_inflated 5 [.ref 45, .ref c, vi l.length, vi a, vi k, .null, .null] [] σ (fun r τ => (300 < (infl B l).length → some (vi (-1000003)) = r ∧ σ = τ) ∧ ((infl B l).length ≤ 300 → some (vi ((infl B l).length : Int)) = r ∧ AtL τ 53 (infl B l) ∧ (∀ k, k ≠ 53 → k ≠ 54 → τ k = σ k))) := by
  intro fu
  induction fu with
  | zero => intros; omega
  | succ fu ih =>
    intro k a hm h1 h2
    have hf := hO.1
    have h7 := hf.2.1
    have hb4 := infl_le4 hf (l.take k) (fun x hx => by have := take_lt hlt k x hx; omega)
    rw [List.length_take] at hb4
    refine ev_iload eX12_inflated_5 rfl ?_
    refine ev_iload_n eX12_inflated_7 rfl ?_
    refine ev_icmp_ge 31 eX12_inflated_8 rfl (by omega) (by omega) (fun h8 => ?_) (fun h8 => ?_)
    · skip
      obtain rfl : k = l.length := by omega
      rw [List.take_length] at h2 hb4
      refine ev_iload_n eX12_inflated_31 rfl ?_
      refine ev_sipush eX12_inflated_32 rfl ?_
      refine ev_icmp_le 41 eX12_inflated_35 rfl (by omega) (by omega) (fun h35 => ?_) (fun h35 => ?_)
      · skip
        refine ev_iconst eX12_inflated_41 ?_
        refine ev_istore eX12_inflated_42 (by decide) ?_
        refine ev_iconst eX12_inflated_44 ?_
        refine ev_istore eX12_inflated_45 (by decide) ?_
        subst h2
        exact m_inf_b hc hM hO hl hl3 hlt (by omega) (l.length + 1) (k := 0) (a := 0) (by omega) (by omega) rfl (fun i x h => by simp [infl] at h) (fun _ _ => rfl)
      · skip
        refine ev_ldc eX12_inflated_38 qX12_96 ?_
        refine ev_iret eX12_inflated_40 rfl ?_
        exact ⟨fun _ => ⟨rfl, rfl⟩, fun z => by omega⟩
    · skip
      obtain ⟨s, hk, hs⟩ := lget hlt (k := k) (by omega)
      have e3 := infl_sl B hk
      refine ev_iload_n eX12_inflated_11 rfl ?_
      refine ev_aload_n eX12_inflated_12 rfl ?_
      refine ev_aload_n eX12_inflated_13 rfl ?_
      refine ev_getr eX12_inflated_14 fX12_31 rfl ?_
      refine ev_iload eX12_inflated_17 rfl ?_
      refine ev_ialdv (k) eX12_inflated_19 rfl (by first | rfl | omega) (by omega) (hl k s hk) ?_
      refine ev_cS2 eX12_inflated_20 ⟨lX12_100, kX12_imageSize⟩ rfl (m_imageSize hc hM hf (s := s) (by omega)) ?_
      rintro _ _ ⟨rfl, rfl⟩
      refine ev_iadd eX12_inflated_23 ?_
      refine ev_istore_n eX12_inflated_24 (by decide) ?_
      refine ev_iinc eX12_inflated_25 rfl (by decide) ?_
      refine ev_goto 5 eX12_inflated_28 rfl ?_
      exact ih (k := k + 1) (a := a + im B s) (by omega) (by omega) (by omega)
set_option maxRecDepth 20000 in
theorem m_inflated {d : Nat} {σ : St} {c : Nat} {B : Bok} (hc : Mq c) (hM : MBk σ c B) (hO : Ok B) {l : List Nat} (hl : AtL σ 53 l) (hl3 : l.length ≤ 300) (hlt : ∀ x ∈ l, x < B 2)  : Ct (d + 2) mX12_inflated [.ref 45, .ref c, vi l.length] σ (fun r τ => (300 < (infl B l).length → some (vi (-1000003)) = r ∧ σ = τ) ∧ ((infl B l).length ≤ 300 → some (vi ((infl B l).length : Int)) = r ∧ AtL τ 53 (infl B l) ∧ (∀ k, k ≠ 53 → k ≠ 54 → τ k = σ k))) := by
  refine ct_of hX12_inflated (Nat.le_of_ble_eq_true rfl) ?_
  refine ev_iconst eX12_inflated_0 ?_
  refine ev_istore_n eX12_inflated_1 (by decide) ?_
  refine ev_iconst eX12_inflated_2 ?_
  refine ev_istore eX12_inflated_3 (by decide) ?_
  exact m_inf_a hc hM hO hl hl3 hlt (l.length + 1) (k := 0) (a := 0) (by omega) (by omega) rfl
def Lg (σ τ : St) (B : Bok) (s n : Nat) (m : Int) : Prop := (∀ k, k ≠ 53 → k ≠ 54 → τ k = σ k) ∧ ((m = -1000003 ∧ 300 < (Gr B n).length) ∨ (m = ((Gr B s).length : Int) ∧ (Gr B s).length ≤ 300 ∧ AtL τ 53 (Gr B s)))
theorem Gr_n {B : Bok} (hO : Ok B) {s n : Nat} (h : s ≤ n) (h2 : 300 < (Gr B s).length) : 300 < (Gr B n).length := Nat.lt_of_lt_of_le h2 (Gr_mono hO h)
set_option maxRecDepth 20000 in
theorem m_lay_b {d : Nat} {σ : St} {c : Nat} {B : Bok} (hc : Mq c) (hM : MBk σ c B) (hO : Ok B) {n : Nat} (hn : n ≤ 6) : ∀ (fu : Nat) {s : Nat} {m : Int} {τ : St}, n - s < fu → s ≤ n → Lg σ τ B s n m → Ev (d + 3) mX12_layGrown 35 [.ref 45, .ref c, vi n, vi m, vi s] [] τ (fun r τ => (∀ k, k ≠ 53 → k ≠ 54 → τ k = σ k) ∧ ((some (vi (-1000003)) = r ∧ 300 < (Gr B n).length) ∨ (some (vi ((Gr B n).length : Int)) = r ∧ (Gr B n).length ≤ 300 ∧ AtL τ 53 (Gr B n)))) := by
  intro fu
  induction fu with
  | zero => intros; omega
  | succ fu ih =>
    intro s m τ hm h1 h2
    have hrm : -1000003 ≤ m ∧ m ≤ 300 := by rcases h2.2 with ⟨g0, g1⟩ | ⟨g0, g1, g2⟩ <;> omega
    refine ev_iload eX12_layGrown_35 rfl ?_
    refine ev_iload_n eX12_layGrown_37 rfl ?_
    refine ev_icmp_ge 60 eX12_layGrown_38 rfl (by omega) (by omega) (fun h38 => ?_) (fun h38 => ?_)
    · skip
      refine ev_iload_n eX12_layGrown_60 rfl ?_
      refine ev_iret eX12_layGrown_61 rfl ?_
      refine ⟨h2.1, ?_⟩
      obtain rfl : s = n := by omega
      rcases h2.2 with ⟨rfl, g1⟩ | ⟨rfl, g1, g2⟩
      · exact Or.inl ⟨rfl, g1⟩
      · exact Or.inr ⟨rfl, g1, g2⟩
    · skip
      refine ev_iload_n eX12_layGrown_41 rfl ?_
      refine ev_ldc eX12_layGrown_42 qX12_96 ?_
      refine ev_icmp_eq 60 eX12_layGrown_44 rfl (by omega) (by omega) (fun h44 => ?_) (fun h44 => ?_)
      · skip
        refine ev_iload_n eX12_layGrown_60 rfl ?_
        refine ev_iret eX12_layGrown_61 rfl ?_
        refine ⟨h2.1, ?_⟩
        rcases h2.2 with ⟨rfl, g1⟩ | ⟨g0, g1, g2⟩
        · exact Or.inl ⟨rfl, g1⟩
        · exfalso; omega
      · skip
        refine ev_aload_n eX12_layGrown_47 rfl ?_
        refine ev_aload_n eX12_layGrown_48 rfl ?_
        refine ev_iload_n eX12_layGrown_49 rfl ?_
        obtain ⟨rfl, g2, g3⟩ := (h2.2.resolve_left (fun z => h44 z.1))
        have hc0 := h2.1 c (mqn hc).1 (mqn hc).2
        refine ev_cV2 eX12_layGrown_50 ⟨lX12_97, kX12_inflated⟩ rfl rfl (m_inflated hc (hM.of hc0) hO g3 g2 (Gr_lt hO s)) ?_
        rintro r τ2 ⟨g4, g5⟩
        obtain ⟨x, rfl, hL⟩ : ∃ x : Int, some (vi x) = r ∧ Lg σ τ2 B (s + 1) n x := by
          by_cases e : 300 < (infl B (Gr B s)).length
          · obtain ⟨rfl, rfl⟩ := g4 e
            exact ⟨_, rfl, h2.1, Or.inl ⟨rfl, Gr_n (s := s + 1) hO (by omega) e⟩⟩
          · obtain ⟨rfl, g6, g7⟩ := g5 (by omega)
            exact ⟨_, rfl, fun k a1 a2 => by rw [g7 k a1 a2]; exact h2.1 k a1 a2, Or.inr ⟨rfl, by show (infl B (Gr B s)).length ≤ 300; omega, g6⟩⟩
        refine ev_istore_n eX12_layGrown_53 (by decide) ?_
        refine ev_iinc eX12_layGrown_54 rfl (by decide) ?_
        refine ev_goto 35 eX12_layGrown_57 rfl ?_
        exact ih (s := s + 1) (by omega) (by omega) hL
set_option maxRecDepth 20000 in
theorem m_lay_a {d : Nat} {σ : St} {c : Nat} {B : Bok} (hc : Mq c) (hM : MBk σ c B) (hO : Ok B) {n : Nat} (hn : n ≤ 6) : ∀ (fu : Nat) {k : Nat} {τ : St}, B 3 - k < fu → k ≤ B 3 → (∀ i, i < k → τ 53 i = (rw_ B i : Int)) → (∀ c, c ≠ 53 → τ c = σ c) → Ev (d + 3) mX12_layGrown 7 [.ref 45, .ref c, vi n, vi (B 3), vi k] [] τ (fun r τ => (∀ k, k ≠ 53 → k ≠ 54 → τ k = σ k) ∧ ((some (vi (-1000003)) = r ∧ 300 < (Gr B n).length) ∨ (some (vi ((Gr B n).length : Int)) = r ∧ (Gr B n).length ≤ 300 ∧ AtL τ 53 (Gr B n)))) := by
  intro fu
  induction fu with
  | zero => intros; omega
  | succ fu ih =>
    intro k τ hm h1 h2 h3
    have h8 := hO.1.2.2.1
    refine ev_iload eX12_layGrown_7 rfl ?_
    refine ev_iload_n eX12_layGrown_9 rfl ?_
    refine ev_icmp_ge 32 eX12_layGrown_10 rfl (by omega) (by omega) (fun h10 => ?_) (fun h10 => ?_)
    · skip
      refine ev_iconst eX12_layGrown_32 ?_
      refine ev_istore eX12_layGrown_33 (by decide) ?_
      refine m_lay_b hc hM hO hn 7 (s := 0) (by omega) (by omega) ⟨fun k a1 a2 => h3 k a1, Or.inr ⟨?_, ?_, fun q x hq => ?_⟩⟩
      · show _ = ((rowL B).length : Int)
        rw [rowL_len]
      · show (rowL B).length ≤ 300
        rw [rowL_len]; omega
      · have hq2 : (rowL B)[q]? = some x := hq
        have hl : q < (rowL B).length := (List.getElem?_eq_some_iff.mp hq2).1
        rw [rowL_len] at hl
        rw [rowL_at B hl] at hq2
        cases hq2
        exact h2 q (by omega)
    · skip
      refine ev_aload_n eX12_layGrown_13 rfl ?_
      refine ev_getr eX12_layGrown_14 fX12_31 rfl ?_
      refine ev_iload eX12_layGrown_17 rfl ?_
      refine ev_aload_n eX12_layGrown_19 rfl ?_
      refine ev_iconst eX12_layGrown_20 ?_
      refine ev_iload eX12_layGrown_21 rfl ?_
      refine ev_iadd eX12_layGrown_23 ?_
      refine ev_ialdv ((4 + k)) eX12_layGrown_24 (akM hc) (by first | rfl | omega) (by omega) (show τ c (4 + k) = (rw_ B k : Int) by rw [h3 c (mqn hc).1]; exact hM.R (by omega)) ?_
      refine ev_iast (k) eX12_layGrown_25 rfl (by first | rfl | omega) (by omega) ?_
      refine ev_iinc eX12_layGrown_26 rfl (by decide) ?_
      refine ev_goto 7 eX12_layGrown_29 rfl ?_
      refine ih (k := k + 1) (by omega) (by omega) (fun i hi => ?_) (fun c hc => by rw [up_o _ _ _ hc]; exact h3 c hc)
      by_cases e : i = k
      · subst e; exact up_s _ _ _ _
      · rw [up_n _ _ e]; exact h2 i (by omega)
set_option maxRecDepth 20000 in
theorem m_layGrown {d : Nat} {σ : St} {c : Nat} {B : Bok} (hc : Mq c) (hM : MBk σ c B) (hO : Ok B) {n : Nat} (hn : n ≤ 6) : Ct (d + 3) mX12_layGrown [.ref 45, .ref c, vi n] σ (fun r τ => (∀ k, k ≠ 53 → k ≠ 54 → τ k = σ k) ∧ ((some (vi (-1000003)) = r ∧ 300 < (Gr B n).length) ∨ (some (vi ((Gr B n).length : Int)) = r ∧ (Gr B n).length ≤ 300 ∧ AtL τ 53 (Gr B n)))) := by
  refine ct_of hX12_layGrown (Nat.le_of_ble_eq_true rfl) ?_
  refine ev_aload_n eX12_layGrown_0 rfl ?_
  refine ev_iconst eX12_layGrown_1 ?_
  refine ev_ialdv (3) eX12_layGrown_2 (akM hc) (by first | rfl | omega) (by omega) hM.N ?_
  refine ev_istore_n eX12_layGrown_3 (by decide) ?_
  refine ev_iconst eX12_layGrown_4 ?_
  refine ev_istore eX12_layGrown_5 (by decide) ?_
  exact m_lay_a hc hM hO hn 9 (k := 0) (by have := hO.1.2.2.1; omega) (by omega) (fun i hi => by omega) (fun _ _ => rfl)
theorem gr_at {τ : St} {B : Bok} {n i : Nat} (h : AtL τ 53 (Gr B n)) (hi : i < (Gr B n).length) : τ 53 i = ((Gr B n).getD i 0 : Int) := h i _ (by rw [List.getD_eq_getElem?_getD, List.getElem?_eq_getElem hi]; rfl)
theorem gr_lt {B : Bok} (hO : Ok B) {n i : Nat} (hi : i < (Gr B n).length) : (Gr B n).getD i 0 < B 2 := Gr_lt hO n _ (List.mem_of_getElem? (i := i) (by rw [List.getD_eq_getElem?_getD, List.getElem?_eq_getElem hi]; rfl))
set_option maxRecDepth 20000 in
theorem m_grown {d : Nat} {σ : St} {B : Bok} (hM : MBk σ 49 B) (hZ : OkZ B) {n i : Int} (hn : -2147483648 ≤ n ∧ n ≤ 2147483647) (hi : -2147483648 ≤ i ∧ i ≤ 2147483647) : Ct (d + 4) mX12_grown [.ref 45, vi n, vi i] σ (fun r τ => (B 2 = 0 → some (vi (-1000002)) = r ∧ σ = τ) ∧ (0 < B 2 ∧ ¬ ((0 ≤ n ∧ n ≤ 6) ∧ -1 ≤ i) → some (vi (-1000001)) = r ∧ σ = τ) ∧ (0 < B 2 ∧ ((0 ≤ n ∧ n ≤ 6) ∧ -1 ≤ i) ∧ 300 < ((Gr B n.toNat).length : Int) → some (vi (-1000003)) = r ∧ ∀ k, k ≠ 53 → k ≠ 54 → τ k = σ k) ∧ (0 < B 2 ∧ ((0 ≤ n ∧ n ≤ 6) ∧ -1 ≤ i) ∧ ((Gr B n.toNat).length : Int) ≤ 300 → some (vi (if i = -1 then ((Gr B n.toNat).length : Int) else if i < ((Gr B n.toNat).length : Int) then ((Gr B n.toNat).getD i.toNat 0 : Int) else -1000000)) = r ∧ ∀ k, k ≠ 53 → k ≠ 54 → τ k = σ k)) := by
  refine ct_of hX12_grown (Nat.le_of_ble_eq_true rfl) ?_
  have hf := hZ.wf
  have h7 := hf.2.1
  have h8 := hf.2.2.1
  refine ev_aload_n eX12_grown_0 rfl ?_
  refine ev_cV0 eX12_grown_1 ⟨lX12_197, kX12_isThere⟩ rfl rfl (m_isThere hM hZ.wf) ?_
  rintro _ _ ⟨rfl, rfl⟩
  refine ev_ifb_ne 10 eX12_grown_4 rfl (fun h4 => ?_) (fun h4 => ?_)
  · skip
    refine ev_iload_n eX12_grown_10 rfl ?_
    refine ev_i2l eX12_grown_11 (by omega) ?_
    refine ev_lconst 0 eX12_grown_12 rfl ?_
    refine ev_ldc2 eX12_grown_13 qX12_216 ?_
    refine ev_cS3 eX12_grown_16 ⟨lX12_70, kX12_in⟩ rfl (m_in (a := n) (b := 0) (c := 6) (by omega) (by omega) (by omega)) ?_
    rintro _ _ ⟨rfl, rfl⟩
    refine ev_ifb_eq 27 eX12_grown_19 rfl (fun h19 => ?_) (fun h19 => ?_)
    · skip
      refine ev_ldc eX12_grown_27 qX12_80 ?_
      refine ev_iret eX12_grown_29 rfl ?_
      refine ⟨fun hc => ?_, fun hc => ?_, fun hc => ?_, fun hc => ?_⟩ <;> first | (exfalso; omega) | (exact ⟨rfl, rfl⟩)
    · skip
      refine ev_iload_n eX12_grown_22 rfl ?_
      refine ev_iconst eX12_grown_23 ?_
      refine ev_icmp_ge 30 eX12_grown_24 rfl (by omega) (by omega) (fun h24 => ?_) (fun h24 => ?_)
      · skip
        have hO := hZ.ok (by omega)
        obtain ⟨q, rfl⟩ : ∃ q : Nat, n = q := ⟨n.toNat, by omega⟩
        rw [Int.toNat_natCast]
        refine ev_aload_n eX12_grown_30 rfl ?_
        refine ev_aload_n eX12_grown_31 rfl ?_
        refine ev_getr eX12_grown_32 fX12_19 rfl ?_
        refine ev_iload_n eX12_grown_35 rfl ?_
        refine ev_cV2 eX12_grown_36 ⟨lX12_205, kX12_layGrown⟩ rfl rfl (m_layGrown (Or.inl rfl) hM hO (n := q) (by omega)) ?_
        rintro _ ξ ⟨q0, ⟨rfl, q1⟩ | ⟨rfl, q1, q2⟩⟩
        · skip
          refine ev_istore_n eX12_grown_39 (by decide) ?_
          refine ev_iload_n eX12_grown_40 rfl ?_
          refine ev_ldc eX12_grown_41 qX12_96 ?_
          refine ev_icmp_eq 51 eX12_grown_43 rfl (by omega) (by omega) (fun h43 => ?_) (fun h43 => False.elim (by omega))
          refine ev_iload_n eX12_grown_51 rfl ?_
          refine ev_goto 71 eX12_grown_52 rfl ?_
          refine ev_iret eX12_grown_71 rfl ?_
          refine ⟨fun hc => ?_, fun hc => ?_, fun hc => ?_, fun hc => ?_⟩ <;> first | (exfalso; omega) | (exact ⟨rfl, q0⟩)
        · skip
          refine ev_istore_n eX12_grown_39 (by decide) ?_
          refine ev_iload_n eX12_grown_40 rfl ?_
          refine ev_ldc eX12_grown_41 qX12_96 ?_
          refine ev_icmp_eq 51 eX12_grown_43 rfl (by omega) (by omega) (fun h43 => False.elim (by omega)) (fun h43 => ?_)
          refine ev_iload_n eX12_grown_46 rfl ?_
          refine ev_iconst eX12_grown_47 ?_
          refine ev_icmp_ne 55 eX12_grown_48 rfl (by omega) (by omega) (fun h48 => ?_) (fun h48 => ?_)
          · skip
            refine ev_iload_n eX12_grown_55 rfl ?_
            refine ev_iload_n eX12_grown_56 rfl ?_
            refine ev_icmp_ge 69 eX12_grown_57 rfl (by omega) (by omega) (fun h57 => ?_) (fun h57 => ?_)
            · skip
              refine ev_ldc eX12_grown_69 qX12_124 ?_
              refine ev_iret eX12_grown_71 rfl ?_
              refine ⟨fun hc => ?_, fun hc => ?_, fun hc => ?_, fun hc => ?_⟩ <;> first | (exfalso; omega) | (exact ⟨congrArg (fun q => some (vi q)) (by rw [if_neg (by omega), if_neg (by omega)]), q0⟩)
            · skip
              refine ev_aload_n eX12_grown_60 rfl ?_
              refine ev_getr eX12_grown_61 fX12_31 rfl ?_
              refine ev_iload_n eX12_grown_64 rfl ?_
              obtain ⟨j, rfl⟩ : ∃ q : Nat, i = q := ⟨i.toNat, by omega⟩
              refine ev_ialdv (j) eX12_grown_65 rfl (by first | rfl | omega) (by omega) (gr_at q2 (by omega)) ?_
              refine ev_goto 71 eX12_grown_66 rfl ?_
              refine ev_iret eX12_grown_71 rfl ?_
              refine ⟨fun hc => ?_, fun hc => ?_, fun hc => ?_, fun hc => ?_⟩ <;> first | (exfalso; omega) | (exact ⟨congrArg (fun q => some (vi q)) (by rw [if_neg (by omega), if_pos (by omega), Int.toNat_natCast]), q0⟩)
          · skip
            refine ev_iload_n eX12_grown_51 rfl ?_
            refine ev_goto 71 eX12_grown_52 rfl ?_
            refine ev_iret eX12_grown_71 rfl ?_
            refine ⟨fun hc => ?_, fun hc => ?_, fun hc => ?_, fun hc => ?_⟩ <;> first | (exfalso; omega) | (exact ⟨congrArg (fun q => some (vi q)) (by rw [if_pos (by omega)]), q0⟩)
      · skip
        refine ev_ldc eX12_grown_27 qX12_80 ?_
        refine ev_iret eX12_grown_29 rfl ?_
        refine ⟨fun hc => ?_, fun hc => ?_, fun hc => ?_, fun hc => ?_⟩ <;> first | (exfalso; omega) | (exact ⟨rfl, rfl⟩)
  · skip
    refine ev_ldc eX12_grown_7 qX12_178 ?_
    refine ev_iret eX12_grown_9 rfl ?_
    refine ⟨fun hc => ?_, fun hc => ?_, fun hc => ?_, fun hc => ?_⟩ <;> first | (exfalso; omega) | (exact ⟨rfl, rfl⟩)
