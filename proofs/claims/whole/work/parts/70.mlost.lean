/-! the reference: what is lost, sets -/
def sx1 : List Value → Nat → Value → List Value
  | [], _, _ => []
  | _ :: l, 0, v => v :: l
  | a :: l, 1, v => (if a.category = 2 then .null else a) :: sx1 l 0 v
  | a :: l, n + 2, v => a :: sx1 l (n + 1) v
def sx2 : List Value → Nat → Value → List Value
  | [], _, _ => []
  | [_], 0, v => [v]
  | _ :: _ :: l, 0, v => v :: .null :: l
  | a :: l, 1, v => (if a.category = 2 then .null else a) :: sx2 l 0 v
  | a :: l, n + 2, v => a :: sx2 l (n + 1) v
theorem mi_id (l : List Value) (f : Nat → Value → Value) (h : ∀ j w, f j w = w) : l.mapIdx f = l := by
  apply List.ext_getElem?
  intro i
  rw [List.getElem?_mapIdx]
  cases l[i]? with
  | none => rfl
  | some v => show some (f i v) = some v; rw [h]
theorem st1_sx : ∀ (l : List Value) (i : Nat) (v : Value), st1 l i v = sx1 l i v
  | [], _, _ => rfl
  | a :: l, 0, v => by
    unfold st1
    rw [List.mapIdx_cons]
    show v :: _ = v :: l
    congr 1
    exact mi_id _ _ (fun j w => by rw [if_neg (by omega), if_neg (by omega)])
  | a :: l, 1, v => by
    have e := st1_sx l 0 v
    unfold st1 at e ⊢
    rw [List.mapIdx_cons]
    show _ :: _ = (if a.category = 2 then .null else a) :: sx1 l 0 v
    rw [← e]
    congr 1
    · rw [if_neg (by omega)]
      by_cases h : a.category = 2
      · rw [if_pos ⟨rfl, h⟩, if_pos h]
      · rw [if_neg (fun z => h z.2), if_neg h]
    · congr 1
      funext j w
      by_cases h : j = 0
      · rw [if_pos (by omega), if_pos h]
      · rw [if_neg (by omega), if_neg h, if_neg (by omega), if_neg (by omega)]
  | a :: l, n + 2, v => by
    have e := st1_sx l (n + 1) v
    unfold st1 at e ⊢
    rw [List.mapIdx_cons]
    show _ :: _ = a :: sx1 l (n + 1) v
    rw [← e]
    congr 1
    · congr 1
      funext j w
      by_cases h : j = n + 1
      · rw [if_pos (by omega), if_pos h]
      · rw [if_neg (by omega), if_neg h]
        by_cases h2 : j + 1 = n + 1 ∧ w.category = 2
        · rw [if_pos ⟨by omega, h2.2⟩, if_pos h2]
        · rw [if_neg (fun z => h2 ⟨by omega, z.2⟩), if_neg h2]
theorem st2_sx : ∀ (l : List Value) (i : Nat) (v : Value), st2 l i v = sx2 l i v
  | [], _, _ => by unfold st2 sx2; rfl
  | [a], 0, v => rfl
  | a :: b :: l, 0, v => by
    unfold st2
    rw [List.mapIdx_cons, List.mapIdx_cons]
    show v :: .null :: _ = v :: .null :: l
    congr 2
    exact mi_id _ _ (fun j w => by rw [if_neg (by omega), if_neg (by omega), if_neg (by omega)])
  | a :: l, 1, v => by
    have e := st2_sx l 0 v
    have e0 : sx2 (a :: l) 1 v = (if a.category = 2 then .null else a) :: sx2 l 0 v := by cases l <;> rfl
    rw [e0, ← e]
    unfold st2
    rw [List.mapIdx_cons]
    congr 1
    · rw [if_neg (by omega), if_neg (by omega)]
      by_cases h : a.category = 2
      · rw [if_pos ⟨rfl, h⟩, if_pos h]
      · rw [if_neg (fun z => h z.2), if_neg h]
    · congr 1
      funext j w
      by_cases h : j = 0
      · rw [if_pos (by omega), if_pos h]
      · rw [if_neg (by omega), if_neg h]
        by_cases h2 : j = 1
        · rw [if_pos (by omega), if_pos (by omega)]
        · rw [if_neg (by omega), if_neg (by omega), if_neg (by omega), if_neg (by omega)]
  | a :: l, n + 2, v => by
    have e := st2_sx l (n + 1) v
    have e0 : sx2 (a :: l) (n + 2) v = a :: sx2 l (n + 1) v := by cases l <;> rfl
    rw [e0, ← e]
    unfold st2
    rw [List.mapIdx_cons]
    congr 1
    · congr 1
      funext j w
      by_cases h : j = n + 1
      · rw [if_pos (by omega), if_pos h]
      · rw [if_neg (by omega), if_neg h]
        by_cases h3 : j = n + 1 + 1
        · rw [if_pos (by omega), if_pos h3]
        · rw [if_neg (by omega), if_neg h3]
          by_cases h2 : j + 1 = n + 1 ∧ w.category = 2
          · rw [if_pos ⟨by omega, h2.2⟩, if_pos h2]
          · rw [if_neg (fun z => h2 ⟨by omega, z.2⟩), if_neg h2]
theorem ev_n1 {w : Scr} {d : Nat} {y : Mth} {pc i : Nat} {v : Value} {lv lv2 st : List Value} {σ : St} {post : Option Value → St → Prop} (h : sx1 lv i v = lv2) (k : EvG w d y pc lv2 st σ post) : EvG w d y pc (st1 lv i v) st σ post := by rw [st1_sx, h]; exact k
theorem ev_n2 {w : Scr} {d : Nat} {y : Mth} {pc i : Nat} {v : Value} {lv lv2 st : List Value} {σ : St} {post : Option Value → St → Prop} (h : sx2 lv i v = lv2) (k : EvG w d y pc lv2 st σ post) : EvG w d y pc (st2 lv i v) st σ post := by rw [st2_sx, h]; exact k
def od (q P : Nat) : Nat → Nat
  | 0 => 1
  | k + 1 => od q P k * (if P.testBit k = true then 10 - q else q)
def ofn (br : Nat → Nat) (P : Nat) : Nat → Nat
  | 0 => 0
  | k + 1 => ofn br P k + (if P.testBit k = true then br k else 0)
theorem od_t {q P k : Nat} (h : P.testBit k = true) : od q P (k + 1) = od q P k * (10 - q) := by show od q P k * (if P.testBit k = true then 10 - q else q) = _; rw [if_pos h]
theorem od_f {q P k : Nat} (h : ¬ P.testBit k = true) : od q P (k + 1) = od q P k * q := by show od q P k * (if P.testBit k = true then 10 - q else q) = _; rw [if_neg h]
theorem ofn_t {br : Nat → Nat} {P k : Nat} (h : P.testBit k = true) : ofn br P (k + 1) = ofn br P k + br k := by show ofn br P k + (if P.testBit k = true then br k else 0) = _; rw [if_pos h]
theorem ofn_f {br : Nat → Nat} {P k : Nat} (h : ¬ P.testBit k = true) : ofn br P (k + 1) = ofn br P k := by show ofn br P k + (if P.testBit k = true then br k else 0) = _; rw [if_neg h]; rfl
theorem od_le {q : Nat} (hq : q ≤ 10) (P : Nat) : ∀ k, od q P k ≤ 10 ^ k
  | 0 => Nat.le_refl _
  | k + 1 => by
    have h := od_le hq P k
    rw [Nat.pow_succ]
    by_cases e : P.testBit k = true
    · rw [od_t e]; exact Nat.mul_le_mul h (by omega)
    · rw [od_f e]; exact Nat.mul_le_mul h hq
theorem ofn_le {br : Nat → Nat} (hb : ∀ k, br k ≤ 4) (P : Nat) : ∀ k, ofn br P k ≤ 4 * k
  | 0 => Nat.le_refl _
  | k + 1 => by
    have h := ofn_le hb P k
    have := hb k
    by_cases e : P.testBit k = true
    · rw [ofn_t e]; omega
    · rw [ofn_f e]; omega
theorem od_hi (q n P : Nat) : ∀ k, k ≤ n → od q (2 ^ n + P) k = od q P k
  | 0, _ => rfl
  | k + 1, h => by
    show od q (2 ^ n + P) k * (if (2 ^ n + P).testBit k = true then 10 - q else q) = od q P k * (if P.testBit k = true then 10 - q else q)
    rw [od_hi q n P k (by omega), Nat.testBit_two_pow_add_gt (by omega)]
theorem ofn_hi (br : Nat → Nat) (n P : Nat) : ∀ k, k ≤ n → ofn br (2 ^ n + P) k = ofn br P k
  | 0, _ => rfl
  | k + 1, h => by
    show ofn br (2 ^ n + P) k + (if (2 ^ n + P).testBit k = true then br k else 0) = ofn br P k + (if P.testBit k = true then br k else 0)
    rw [ofn_hi br n P k (by omega), Nat.testBit_two_pow_add_gt (by omega)]
theorem sumF_add (f : Nat → Nat) (a : Nat) : ∀ b, sumF f (a + b) = sumF f a + sumF (fun i => f (a + i)) b
  | 0 => rfl
  | b + 1 => by rw [← Nat.add_assoc, sumF_s, sumF_s, sumF_add f a b, Nat.add_assoc]
theorem sumF_cg {f g : Nat → Nat} {n : Nat} (h : ∀ i, i < n → f i = g i) : sumF f n = sumF g n := by
  induction n with
  | zero => rfl
  | succ n ih => rw [sumF_s, sumF_s, ih (fun i hi => h i (by omega)), h n (by omega)]
theorem sumF_mulr (f : Nat → Nat) (a : Nat) : ∀ n, sumF (fun i => f i * a) n = sumF f n * a
  | 0 => (Nat.zero_mul a).symm
  | n + 1 => by rw [sumF_s, sumF_s, sumF_mulr f a n, Nat.add_mul]
def abv (br : Nat → Nat) (q n N : Nat) (P : Nat) : Nat := if ofn br P n < N then od q P n else 0
theorem lo_b {n P : Nat} (h : P < 2 ^ n) : ¬ P.testBit n = true := by rw [Nat.testBit_lt_two_pow h]; decide
theorem hi_b {n P : Nat} (h : P < 2 ^ n) : (2 ^ n + P).testBit n = true := by rw [Nat.testBit_two_pow_add_eq, Nat.testBit_lt_two_pow h]; rfl
theorem abv_s (br : Nat → Nat) {q : Nat} : ∀ n N, sumF (abv br q n N) (2 ^ n) = sumF (Dl br q n) N
  | 0, N => by
    show sumF (abv br q 0 N) 1 = _
    rw [show sumF (abv br q 0 N) 1 = 0 + abv br q 0 N 0 from rfl]
    cases N with
    | zero => rfl
    | succ N =>
      have e : ∀ N, sumF (Dl br q 0) (N + 1) = 1 := by
        intro N
        induction N with
        | zero => rfl
        | succ N ih => rw [sumF_s, ih]; unfold Dl; rw [if_neg (by omega)]
      rw [e]
      unfold abv
      rw [if_pos (by show 0 < N + 1; omega)]
      rfl
  | n + 1, N => by
    have e : sumF (Dl br q (n + 1)) N = q * sumF (Dl br q n) N + (10 - q) * sumF (fun m => if br n ≤ m then Dl br q n (m - br n) else 0) N := sumF_lin _ _ _ _ _
    rw [e, shF, ← abv_s br n N, ← abv_s br n (N - br n), Nat.pow_succ, Nat.mul_two, sumF_add]
    congr 1
    · rw [Nat.mul_comm, ← sumF_mulr]
      refine sumF_cg (fun P hP => ?_)
      unfold abv
      rw [ofn_f (lo_b hP), od_f (lo_b hP)]
      split
      · rfl
      · rw [Nat.zero_mul]
    · rw [Nat.mul_comm, ← sumF_mulr]
      refine sumF_cg (fun P hP => ?_)
      show abv br q (n + 1) N (2 ^ n + P) = abv br q n (N - br n) P * (10 - q)
      unfold abv
      rw [ofn_t (hi_b hP), od_t (hi_b hP), od_hi q n P n (Nat.le_refl _), ofn_hi br n P n (Nat.le_refl _)]
      by_cases h : ofn br P n < N - br n
      · rw [if_pos h, if_pos (by omega)]
      · rw [if_neg h, if_neg (by omega), Nat.zero_mul]
theorem od_sum {q : Nat} (hq : q ≤ 10) : ∀ n, sumF (fun P => od q P n) (2 ^ n) = 10 ^ n
  | 0 => rfl
  | n + 1 => by
    rw [Nat.pow_succ, Nat.mul_two, sumF_add]
    have e1 : sumF (fun P => od q P (n + 1)) (2 ^ n) = 10 ^ n * q := by
      rw [← od_sum hq n, ← sumF_mulr]
      exact sumF_cg (fun P hP => od_f (lo_b hP))
    have e2 : sumF (fun P => od q (2 ^ n + P) (n + 1)) (2 ^ n) = 10 ^ n * (10 - q) := by
      rw [← od_sum hq n, ← sumF_mulr]
      refine sumF_cg (fun P hP => ?_)
      rw [od_t (hi_b hP), od_hi q n P n (Nat.le_refl _)]
    rw [e1, e2, ← Nat.mul_add, show q + (10 - q) = 10 by omega, Nat.pow_succ]
theorem ofn_le4 {B : Bok} (hO : Ok B) (s P : Nat) : ∀ k, k ≤ B 3 → ofn (fun i => cn B (rw_ B i) s) P k ≤ 4 * k
  | 0, _ => Nat.le_refl _
  | k + 1, hk => by
    have h := ofn_le4 hO s P k (by omega)
    have h2 := hO.2.2.2.1 k (by omega)
    have h3 := im_le hO.1 (s := rw_ B k) (by have := hO.1.2.1; omega)
    have h4 := cntF_le (il B (rw_ B k)) s (im B (rw_ B k))
    by_cases e : P.testBit k = true
    · rw [ofn_t e]
      show _ + cntF (il B (rw_ B k)) s (im B (rw_ B k)) ≤ _
      omega
    · rw [ofn_f e]; omega
set_option maxRecDepth 20000 in
theorem m_oft_l {d : Nat} {σ : St} {B : Bok} (hM : MBk σ 49 B) (hf : Wf B) {s x : Nat} (hs : s < 4) (hx : x < 4) : ∀ (fu : Nat) {i : Nat}, im B x - i < fu → i ≤ im B x → Ev (d + 2) mX12_oftenIn 5 [.ref 45, vi s, vi x, vi (cntF (il B x) s i), vi i] [] σ (rt (vi (cn B x s)) σ) := by
  intro fu
  induction fu with
  | zero => intros; omega
  | succ fu ih =>
    intro i hm h1
    have him := im_le hf hx
    refine ev_iload eX12_oftenIn_5 rfl ?_
    refine ev_aload_n eX12_oftenIn_7 rfl ?_
    refine ev_getr eX12_oftenIn_8 fX12_19 rfl ?_
    refine ev_iload_n eX12_oftenIn_11 rfl ?_
    refine ev_cS2 eX12_oftenIn_12 ⟨lX12_100, kX12_imageSize⟩ rfl (m_imageSize (Or.inl rfl) hM hf (s := x) hx) ?_
    rintro _ _ ⟨rfl, rfl⟩
    refine ev_icmp_ge 46 eX12_oftenIn_15 rfl (by omega) (by omega) (fun h15 => ?_) (fun h15 => ?_)
    · skip
      refine ev_iload_n eX12_oftenIn_46 rfl ?_
      refine ev_iret eX12_oftenIn_47 rfl ?_
      exact ⟨congrArg (fun q => some (vi q)) (by rw [show i = im B x by omega]; rfl), rfl⟩
    · skip
      refine ev_iload_n eX12_oftenIn_18 rfl ?_
      refine ev_aload_n eX12_oftenIn_19 rfl ?_
      refine ev_getr eX12_oftenIn_20 fX12_19 rfl ?_
      refine ev_iload_n eX12_oftenIn_23 rfl ?_
      refine ev_iload eX12_oftenIn_24 rfl ?_
      refine ev_cS3 eX12_oftenIn_26 ⟨lX12_103, kX12_imageAt⟩ rfl (m_imageAt (Or.inl rfl) hM hf (s := x) (i := i) hx (by omega)) ?_
      rintro _ _ ⟨rfl, rfl⟩
      have hil := il_lt hf hx (i := i) (by omega)
      refine ev_iload_n eX12_oftenIn_29 rfl ?_
      refine ev_icmp_ne 37 eX12_oftenIn_30 rfl (by omega) (by omega) (fun h30 => ?_) (fun h30 => ?_)
      · skip
        refine ev_iconst eX12_oftenIn_37 ?_
        refine ev_iadd eX12_oftenIn_38 ?_
        refine ev_istore_n eX12_oftenIn_39 (by decide) ?_
        refine ev_iinc eX12_oftenIn_40 rfl (by decide) ?_
        refine ev_goto 5 eX12_oftenIn_43 rfl ?_
        first | (rw [show ((cntF (il B x) s i : Nat) : Int) + 1 = ((cntF (il B x) s (i + 1) : Nat) : Int) by rw [cntF_s, if_pos (by omega)]; rfl]; exact ih (i := i + 1) (by omega) (by omega)) | (rw [show ((cntF (il B x) s i : Nat) : Int) + 0 = ((cntF (il B x) s (i + 1) : Nat) : Int) by rw [cntF_s, if_neg (by omega)]; rfl]; exact ih (i := i + 1) (by omega) (by omega))
      · skip
        refine ev_iconst eX12_oftenIn_33 ?_
        refine ev_goto 38 eX12_oftenIn_34 rfl ?_
        refine ev_iadd eX12_oftenIn_38 ?_
        refine ev_istore_n eX12_oftenIn_39 (by decide) ?_
        refine ev_iinc eX12_oftenIn_40 rfl (by decide) ?_
        refine ev_goto 5 eX12_oftenIn_43 rfl ?_
        first | (rw [show ((cntF (il B x) s i : Nat) : Int) + 1 = ((cntF (il B x) s (i + 1) : Nat) : Int) by rw [cntF_s, if_pos (by omega)]; rfl]; exact ih (i := i + 1) (by omega) (by omega)) | (rw [show ((cntF (il B x) s i : Nat) : Int) + 0 = ((cntF (il B x) s (i + 1) : Nat) : Int) by rw [cntF_s, if_neg (by omega)]; rfl]; exact ih (i := i + 1) (by omega) (by omega))
set_option maxRecDepth 20000 in
theorem m_oftenIn {d : Nat} {σ : St} {B : Bok} (hM : MBk σ 49 B) (hf : Wf B) {s x : Nat} (hs : s < 4) (hx : x < 4) : Ct (d + 2) mX12_oftenIn [.ref 45, vi s, vi x] σ (rt (vi (cn B x s)) σ) := by
  refine ct_of hX12_oftenIn (Nat.le_of_ble_eq_true rfl) ?_
  refine ev_iconst eX12_oftenIn_0 ?_
  refine ev_istore_n eX12_oftenIn_1 (by decide) ?_
  refine ev_iconst eX12_oftenIn_2 ?_
  refine ev_istore eX12_oftenIn_3 (by decide) ?_
  exact m_oft_l hM hf hs hx 5 (i := 0) (by have := im_le hf hx; omega) (by omega)
set_option maxRecDepth 20000 in
theorem m_lost_i {d : Nat} {σ : St} {B : Bok} (hM : MBk σ 49 B) (hO : Ok B) {s v q e a b P : Nat} (hs : s < B 2) (hq : q ≤ 10) (hP : P < 256) {post : Option Value → St → Prop} (hk : Ev (d + 3) mX12_lost 153 [.ref 45, vi s, vi v, vi q, vi e, vl a, .null, vl b, .null, vi P, vl (od q P (B 3)), .null, vi (ofn (fun i => cn B (rw_ B i) s) P (B 3)), vi (B 3)] [] σ post) : ∀ (fu : Nat) {k o f : Nat}, B 3 - k < fu → k ≤ B 3 → o = od q P k → f = ofn (fun i => cn B (rw_ B i) s) P k → Ev (d + 3) mX12_lost 78 [.ref 45, vi s, vi v, vi q, vi e, vl a, .null, vl b, .null, vi P, vl o, .null, vi f, vi k] [] σ (post) := by
  intro fu
  induction fu with
  | zero => intros; omega
  | succ fu ih =>
    intro k o f hm h1 h2 h3
    have hf := hO.1
    have h7 := hf.2.1
    have h8 := hf.2.2.1
    refine ev_iload eX12_lost_78 rfl ?_
    refine ev_aload_n eX12_lost_80 rfl ?_
    refine ev_getr eX12_lost_81 fX12_19 rfl ?_
    refine ev_iconst eX12_lost_84 ?_
    refine ev_ialdv (3) eX12_lost_85 rfl (by first | rfl | omega) (by omega) hM.N ?_
    refine ev_icmp_ge 153 eX12_lost_86 rfl (by omega) (by omega) (fun h86 => ?_) (fun h86 => ?_)
    · skip
      obtain rfl : k = B 3 := by omega
      subst h2 h3
      exact hk
    · skip
      refine ev_lload eX12_lost_89 rfl ?_
      refine ev_iload eX12_lost_91 rfl ?_
      refine ev_iload eX12_lost_93 rfl ?_
      refine ev_cS2 eX12_lost_95 ⟨lX12_85, kX12_has⟩ rfl (m_has (P := P) (k := k) (by omega) (by omega)) ?_
      rintro _ _ ⟨rfl, rfl⟩
      refine ev_ifb_eq 109 eX12_lost_98 rfl (fun hb => ?_) (fun hb => ?_)
      · skip
        refine ev_iload_n eX12_lost_109 rfl ?_
        refine ev_i2l eX12_lost_110 (by omega) ?_
        refine ev_lmul eX12_lost_111 ?_
        refine ev_lstore eX12_lost_112 (by decide) ?_
        refine ev_n2 (lv2 := [.ref 45, vi s, vi v, vi q, vi e, vl a, .null, vl b, .null, vi P, vl ((o : Int) * (q : Int)), .null, vi f, vi k]) rfl ?_
        refine ev_iload eX12_lost_114 rfl ?_
        refine ev_iload eX12_lost_116 rfl ?_
        refine ev_iload eX12_lost_118 rfl ?_
        refine ev_cS2 eX12_lost_120 ⟨lX12_85, kX12_has⟩ rfl (m_has (P := P) (k := k) (by omega) (by omega)) ?_
        rintro _ _ ⟨rfl, rfl⟩
        refine ev_ifb_eq 143 eX12_lost_123 rfl (fun hb2 => ?_) (fun hb2 => False.elim (by exact absurd hb2 hb))
        refine ev_iconst eX12_lost_143 ?_
        refine ev_iadd eX12_lost_144 ?_
        refine ev_istore eX12_lost_145 (by decide) ?_
        refine ev_n1 (lv2 := [.ref 45, vi s, vi v, vi q, vi e, vl a, .null, vl b, .null, vi P, vl ((o : Int) * (q : Int)), .null, vi ((f : Int) + 0), vi k]) rfl ?_
        refine ev_iinc eX12_lost_147 rfl (by decide) ?_
        refine ev_n1 (lv2 := [.ref 45, vi s, vi v, vi q, vi e, vl a, .null, vl b, .null, vi P, vl ((o : Int) * (q : Int)), .null, vi ((f : Int) + 0), vi ((k : Int) + 1)]) rfl ?_
        refine ev_goto 78 eX12_lost_150 rfl ?_
        first | (rw [show (10 : Int) - (q : Int) = ((10 - q : Nat) : Int) by omega, ← Int.natCast_mul]; exact ih (k := k + 1) (o := o * (10 - q)) (f := f + cn B (rw_ B k) s) (by omega) (by omega) (by rw [od_t hb, h2]) (by rw [ofn_t hb, h3])) | (rw [← Int.natCast_mul, Int.add_zero]; exact ih (k := k + 1) (o := o * q) (f := f) (by omega) (by omega) (by rw [od_f hb, h2]) (by rw [ofn_f hb, h3]))
      · skip
        refine ev_bipush eX12_lost_101 rfl ?_
        refine ev_iload_n eX12_lost_103 rfl ?_
        refine ev_isub eX12_lost_104 ?_
        refine ev_i2l eX12_lost_105 (by omega) ?_
        refine ev_goto 111 eX12_lost_106 rfl ?_
        refine ev_lmul eX12_lost_111 ?_
        refine ev_lstore eX12_lost_112 (by decide) ?_
        refine ev_n2 (lv2 := [.ref 45, vi s, vi v, vi q, vi e, vl a, .null, vl b, .null, vi P, vl ((o : Int) * (10 - (q : Int))), .null, vi f, vi k]) rfl ?_
        refine ev_iload eX12_lost_114 rfl ?_
        refine ev_iload eX12_lost_116 rfl ?_
        refine ev_iload eX12_lost_118 rfl ?_
        refine ev_cS2 eX12_lost_120 ⟨lX12_85, kX12_has⟩ rfl (m_has (P := P) (k := k) (by omega) (by omega)) ?_
        rintro _ _ ⟨rfl, rfl⟩
        refine ev_ifb_eq 143 eX12_lost_123 rfl (fun hb2 => False.elim (by exact absurd hb hb2)) (fun hb2 => ?_)
        refine ev_aload_n eX12_lost_126 rfl ?_
        refine ev_iload_n eX12_lost_127 rfl ?_
        refine ev_aload_n eX12_lost_128 rfl ?_
        refine ev_getr eX12_lost_129 fX12_19 rfl ?_
        refine ev_iconst eX12_lost_132 ?_
        refine ev_iload eX12_lost_133 rfl ?_
        refine ev_iadd eX12_lost_135 ?_
        have hr4 := hO.2.2.2.1 k (by omega)
        refine ev_ialdv ((4 + k)) eX12_lost_136 rfl (by first | rfl | omega) (by omega) (hM.R (i := k) (by omega)) ?_
        refine ev_cV2 eX12_lost_137 ⟨lX12_286, kX12_oftenIn⟩ rfl rfl (m_oftenIn hM hf (s := s) (x := rw_ B k) (by omega) (by omega)) ?_
        rintro _ _ ⟨rfl, rfl⟩
        refine ev_goto 144 eX12_lost_140 rfl ?_
        refine ev_iadd eX12_lost_144 ?_
        refine ev_istore eX12_lost_145 (by decide) ?_
        refine ev_n1 (lv2 := [.ref 45, vi s, vi v, vi q, vi e, vl a, .null, vl b, .null, vi P, vl ((o : Int) * (10 - (q : Int))), .null, vi ((f : Int) + (cn B (rw_ B k) s : Int)), vi k]) rfl ?_
        refine ev_iinc eX12_lost_147 rfl (by decide) ?_
        refine ev_n1 (lv2 := [.ref 45, vi s, vi v, vi q, vi e, vl a, .null, vl b, .null, vi P, vl ((o : Int) * (10 - (q : Int))), .null, vi ((f : Int) + (cn B (rw_ B k) s : Int)), vi ((k : Int) + 1)]) rfl ?_
        refine ev_goto 78 eX12_lost_150 rfl ?_
        first | (rw [show (10 : Int) - (q : Int) = ((10 - q : Nat) : Int) by omega, ← Int.natCast_mul]; exact ih (k := k + 1) (o := o * (10 - q)) (f := f + cn B (rw_ B k) s) (by omega) (by omega) (by rw [od_t hb, h2]) (by rw [ofn_t hb, h3])) | (rw [← Int.natCast_mul, Int.add_zero]; exact ih (k := k + 1) (o := o * q) (f := f) (by omega) (by omega) (by rw [od_f hb, h2]) (by rw [ofn_f hb, h3]))
set_option maxRecDepth 20000 in
theorem m_lost_o {d : Nat} {σ : St} {B : Bok} (hM : MBk σ 49 B) (hO : Ok B) {s v q e : Nat} (hs : s < B 2) (hv : v ≤ 40) (hq : q ≤ 10) (he : e < 2) : ∀ (fu : Nat) {P a b : Nat} {u10 u11 u12 u13 : Value}, 2 ^ B 3 - P < fu → P ≤ 2 ^ B 3 → a = sumF (abv (fun i => cn B (rw_ B i) s) q (B 3) (v + 1))  P → b = sumF (fun P => od q P (B 3))  P → Ev (d + 3) mX12_lost 56 [.ref 45, vi s, vi v, vi q, vi e, vl a, .null, vl b, .null, vi P, u10, u11, u12, u13] [] σ (rt (vl (lowT (sumF (lsD B s q) (v + 1)) (10 ^ B 3) e)) σ) := by
  intro fu
  induction fu with
  | zero => intros; omega
  | succ fu ih =>
    intro P a b u10 u11 u12 u13 hm h1 h2 h3
    have hf := hO.1
    have h7 := hf.2.1
    have h8 := hf.2.2.1
    have h256 : 2 ^ B 3 ≤ 256 := Nat.pow_le_pow_right (n := 2) (i := B 3) (j := 8) (by omega) h8
    have hMX := MXe
    have hp := p10_le (k := B 3) h8
    have hp0 : 0 < 10 ^ B 3 := Nat.pow_pos (by omega)
    have hds := Dl_sum (fun i => cn B (rw_ B i) s) (q := q) hq (B 3) (v + 1)
    have ha1 : a ≤ 10 ^ B 3 := by rw [h2]; exact Nat.le_trans (sumF_mono _ h1) (by rw [abv_s]; exact hds)
    have hb1 : b ≤ 10 ^ B 3 := by rw [h3]; exact Nat.le_trans (sumF_mono _ h1) (by rw [od_sum hq]; exact Nat.le_refl _)
    have hodl := od_le hq P (B 3)
    have hofl := ofn_le4 hO s P (B 3) (Nat.le_refl _)
    refine ev_iload eX12_lost_56 rfl ?_
    refine ev_iconst eX12_lost_58 ?_
    refine ev_aload_n eX12_lost_59 rfl ?_
    refine ev_getr eX12_lost_60 fX12_19 rfl ?_
    refine ev_iconst eX12_lost_63 ?_
    refine ev_ialdv (3) eX12_lost_64 rfl (by first | rfl | omega) (by omega) hM.N ?_
    refine ev_ishl eX12_lost_65 ?_
    rw [sh1 (by omega)]
    refine ev_icmp_ge 183 eX12_lost_66 rfl (by omega) (by omega) (fun h66 => ?_) (fun h66 => ?_)
    · skip
      refine ev_lload eX12_lost_183 rfl ?_
      refine ev_lload eX12_lost_185 rfl ?_
      refine ev_iload eX12_lost_187 rfl ?_
      obtain rfl : P = 2 ^ B 3 := by omega
      rw [abv_s] at h2
      rw [od_sum hq] at h3
      refine ev_cS3 eX12_lost_189 ⟨lX12_244, kX12_lowest⟩ rfl (m_lowest (a := a) (b := b) (e := e) (by omega) (by omega) (by omega) he) ?_
      rintro _ _ ⟨rfl, rfl⟩
      refine ev_lret eX12_lost_192 rfl ?_
      rw [h2, h3]
      exact ⟨rfl, rfl⟩
    · skip
      refine ev_lconst 1 eX12_lost_69 rfl ?_
      refine ev_lstore eX12_lost_70 (by decide) ?_
      refine ev_n2 (lv2 := [.ref 45, vi s, vi v, vi q, vi e, vl a, .null, vl b, .null, vi P, vl 1, .null, u12, u13]) rfl ?_
      refine ev_iconst eX12_lost_72 ?_
      refine ev_istore eX12_lost_73 (by decide) ?_
      refine ev_n1 (lv2 := [.ref 45, vi s, vi v, vi q, vi e, vl a, .null, vl b, .null, vi P, vl 1, .null, vi 0, u13]) rfl ?_
      refine ev_iconst eX12_lost_75 ?_
      refine ev_istore eX12_lost_76 (by decide) ?_
      refine ev_n1 (lv2 := [.ref 45, vi s, vi v, vi q, vi e, vl a, .null, vl b, .null, vi P, vl 1, .null, vi 0, vi 0]) rfl ?_
      refine m_lost_i hM hO hs hq (by omega) ?_ 9 (k := 0) (o := 1) (f := 0) (by omega) (by omega) rfl rfl
      refine ev_lload eX12_lost_153 rfl ?_
      refine ev_lload eX12_lost_155 rfl ?_
      refine ev_ladd eX12_lost_157 ?_
      refine ev_lstore eX12_lost_158 (by decide) ?_
      refine ev_n2 (lv2 := [.ref 45, vi s, vi v, vi q, vi e, vl a, .null, vl ((b : Int) + (od q P (B 3) : Int)), .null, vi P, vl (od q P (B 3)), .null, vi (ofn (fun i => cn B (rw_ B i) s) P (B 3)), vi (B 3)]) rfl ?_
      refine ev_lload eX12_lost_160 rfl ?_
      refine ev_iload eX12_lost_162 rfl ?_
      refine ev_iload_n eX12_lost_164 rfl ?_
      refine ev_icmp_gt 173 eX12_lost_165 rfl (by omega) (by omega) (fun h165 => ?_) (fun h165 => ?_)
      · skip
        refine ev_lconst 0 eX12_lost_173 rfl ?_
        refine ev_ladd eX12_lost_174 ?_
        refine ev_lstore eX12_lost_175 (by decide) ?_
        refine ev_n2 (lv2 := [.ref 45, vi s, vi v, vi q, vi e, vl ((a : Int) + 0), .null, vl ((b : Int) + (od q P (B 3) : Int)), .null, vi P, vl (od q P (B 3)), .null, vi (ofn (fun i => cn B (rw_ B i) s) P (B 3)), vi (B 3)]) rfl ?_
        refine ev_iinc eX12_lost_177 rfl (by decide) ?_
        refine ev_n1 (lv2 := [.ref 45, vi s, vi v, vi q, vi e, vl ((a : Int) + 0), .null, vl ((b : Int) + (od q P (B 3) : Int)), .null, vi ((P : Int) + 1), vl (od q P (B 3)), .null, vi (ofn (fun i => cn B (rw_ B i) s) P (B 3)), vi (B 3)]) rfl ?_
        refine ev_goto 56 eX12_lost_180 rfl ?_
        rw [Int.add_zero]
        exact ih (P := P + 1) (a := a) (b := b + od q P (B 3)) (by omega) (by omega) (by rw [sumF_s, h2]; unfold abv; rw [if_neg (by omega)]; rfl) (by rw [sumF_s, h3])
      · skip
        refine ev_lload eX12_lost_168 rfl ?_
        refine ev_goto 174 eX12_lost_170 rfl ?_
        refine ev_ladd eX12_lost_174 ?_
        refine ev_lstore eX12_lost_175 (by decide) ?_
        refine ev_n2 (lv2 := [.ref 45, vi s, vi v, vi q, vi e, vl ((a : Int) + (od q P (B 3) : Int)), .null, vl ((b : Int) + (od q P (B 3) : Int)), .null, vi P, vl (od q P (B 3)), .null, vi (ofn (fun i => cn B (rw_ B i) s) P (B 3)), vi (B 3)]) rfl ?_
        refine ev_iinc eX12_lost_177 rfl (by decide) ?_
        refine ev_n1 (lv2 := [.ref 45, vi s, vi v, vi q, vi e, vl ((a : Int) + (od q P (B 3) : Int)), .null, vl ((b : Int) + (od q P (B 3) : Int)), .null, vi ((P : Int) + 1), vl (od q P (B 3)), .null, vi (ofn (fun i => cn B (rw_ B i) s) P (B 3)), vi (B 3)]) rfl ?_
        refine ev_goto 56 eX12_lost_180 rfl ?_
        exact ih (P := P + 1) (a := a + od q P (B 3)) (b := b + od q P (B 3)) (by omega) (by omega) (by rw [sumF_s, h2]; unfold abv; rw [if_pos (by omega)]) (by rw [sumF_s, h3])
set_option maxRecDepth 20000 in
theorem m_lost {d : Nat} {σ : St} {B : Bok} (hM : MBk σ 49 B) (hZ : OkZ B) {x v y e : Int} (hx : -2147483648 ≤ x ∧ x ≤ 2147483647) (hv : -2147483648 ≤ v ∧ v ≤ 2147483647) (hy : -2147483648 ≤ y ∧ y ≤ 2147483647) (he : -2147483648 ≤ e ∧ e ≤ 2147483647) : Ct (d + 3) mX12_lost [.ref 45, vi x, vi v, vi y, vi e] σ (fun r τ => (¬ ((0 ≤ x ∧ x < B 2) ∧ (0 ≤ v ∧ v ≤ 40) ∧ (0 ≤ y ∧ y ≤ 10) ∧ 0 ≤ e ∧ e ≤ 1) → some (vl (-1000001)) = r ∧ σ = τ) ∧ (((0 ≤ x ∧ x < B 2) ∧ (0 ≤ v ∧ v ≤ 40) ∧ (0 ≤ y ∧ y ≤ 10) ∧ 0 ≤ e ∧ e ≤ 1) → some (vl (lowT (sumF (lsD B x.toNat y.toNat) (v.toNat + 1)) (10 ^ B 3) e.toNat)) = r ∧ σ = τ)) := by
  refine ct_of hX12_lost (Nat.le_of_ble_eq_true rfl) ?_
  have hf := hZ.wf
  have h7 := hf.2.1
  have h8 := hf.2.2.1
  have hMX := MXe
  refine ev_aload_n eX12_lost_0 rfl ?_
  refine ev_iload_n eX12_lost_1 rfl ?_
  refine ev_cV1 eX12_lost_2 ⟨lX12_182, kX12_isSort⟩ rfl rfl (m_isSort hM hZ.wf (x := x) (by omega)) ?_
  rintro _ _ ⟨rfl, rfl⟩
  refine ev_ifb_eq 43 eX12_lost_5 rfl (fun h5 => ?_) (fun h5 => ?_)
  · skip
    refine ev_ldc2 eX12_lost_43 qX12_220 ?_
    refine ev_lret eX12_lost_46 rfl ?_
    refine ⟨fun hc => ?_, fun hc => ?_⟩ <;> first | (exfalso; omega) | (exact ⟨rfl, rfl⟩)
  · skip
    refine ev_iload_n eX12_lost_8 rfl ?_
    refine ev_i2l eX12_lost_9 (by omega) ?_
    refine ev_lconst 0 eX12_lost_10 rfl ?_
    refine ev_ldc2 eX12_lost_11 qX12_267 ?_
    refine ev_cS3 eX12_lost_14 ⟨lX12_70, kX12_in⟩ rfl (m_in (a := v) (b := 0) (c := 40) (by omega) (by omega) (by omega)) ?_
    rintro _ _ ⟨rfl, rfl⟩
    refine ev_ifb_eq 43 eX12_lost_17 rfl (fun h17 => ?_) (fun h17 => ?_)
    · skip
      refine ev_ldc2 eX12_lost_43 qX12_220 ?_
      refine ev_lret eX12_lost_46 rfl ?_
      refine ⟨fun hc => ?_, fun hc => ?_⟩ <;> first | (exfalso; omega) | (exact ⟨rfl, rfl⟩)
    · skip
      refine ev_iload_n eX12_lost_20 rfl ?_
      refine ev_i2l eX12_lost_21 (by omega) ?_
      refine ev_lconst 0 eX12_lost_22 rfl ?_
      refine ev_ldc2 eX12_lost_23 qX12_208 ?_
      refine ev_cS3 eX12_lost_26 ⟨lX12_70, kX12_in⟩ rfl (m_in (a := y) (b := 0) (c := 10) (by omega) (by omega) (by omega)) ?_
      rintro _ _ ⟨rfl, rfl⟩
      refine ev_ifb_eq 43 eX12_lost_29 rfl (fun h29 => ?_) (fun h29 => ?_)
      · skip
        refine ev_ldc2 eX12_lost_43 qX12_220 ?_
        refine ev_lret eX12_lost_46 rfl ?_
        refine ⟨fun hc => ?_, fun hc => ?_⟩ <;> first | (exfalso; omega) | (exact ⟨rfl, rfl⟩)
      · skip
        refine ev_iload eX12_lost_32 rfl ?_
        refine ev_i2l eX12_lost_34 (by omega) ?_
        refine ev_lconst 0 eX12_lost_35 rfl ?_
        refine ev_lconst 1 eX12_lost_36 rfl ?_
        refine ev_cS3 eX12_lost_37 ⟨lX12_70, kX12_in⟩ rfl (m_in (a := e) (b := 0) (c := 1) (by omega) (by omega) (by omega)) ?_
        rintro _ _ ⟨rfl, rfl⟩
        refine ev_ifb_ne 47 eX12_lost_40 rfl (fun h40 => ?_) (fun h40 => ?_)
        · skip
          have hO := hZ.ok (by omega)
          obtain ⟨x, rfl⟩ : ∃ q : Nat, x = q := ⟨x.toNat, by omega⟩
          obtain ⟨v, rfl⟩ : ∃ q : Nat, v = q := ⟨v.toNat, by omega⟩
          obtain ⟨y, rfl⟩ : ∃ q : Nat, y = q := ⟨y.toNat, by omega⟩
          obtain ⟨e, rfl⟩ : ∃ q : Nat, e = q := ⟨e.toNat, by omega⟩
          rw [Int.toNat_natCast, Int.toNat_natCast, Int.toNat_natCast, Int.toNat_natCast]
          refine ev_lconst 0 eX12_lost_47 rfl ?_
          refine ev_lstore eX12_lost_48 (by decide) ?_
          refine ev_lconst 0 eX12_lost_50 rfl ?_
          refine ev_lstore eX12_lost_51 (by decide) ?_
          refine ev_iconst eX12_lost_53 ?_
          refine ev_istore eX12_lost_54 (by decide) ?_
          refine ev_mono (fun r τ h => ?_) (m_lost_o hM hO (s := x) (v := v) (q := y) (e := e) (by omega) (by omega) (by omega) (by omega) (2 ^ B 3 + 1) (P := 0) (a := 0) (b := 0) (Nat.lt_succ_of_le (Nat.sub_le _ _)) (Nat.zero_le _) rfl rfl)
          refine ⟨fun hc => ?_, fun hc => ?_⟩ <;> first | (exfalso; omega) | (exact h)
        · skip
          refine ev_ldc2 eX12_lost_43 qX12_220 ?_
          refine ev_lret eX12_lost_46 rfl ?_
          refine ⟨fun hc => ?_, fun hc => ?_⟩ <;> first | (exfalso; omega) | (exact ⟨rfl, rfl⟩)
