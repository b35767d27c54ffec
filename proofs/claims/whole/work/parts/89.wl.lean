/-- the numbers behind both constructors -/
def s0 : St := fun k j => if k = 14 ∨ k = 46 then (if j < 8 then -1 else 0) else if k = 10 ∧ j = 1 then 1 else 0
theorem el_r7 (g : Gw) (k b : Nat) (h : skl[k]? = some (4, 7, [b, b + 1, b + 2, b + 3, b + 4, b + 5, b + 6])) : el g s0 k = .inl (g.2.1 4, 7, .inr (.inr (.inr (.inr (out7 (fun i => g.2.2 (b + i))))))) := by
  rw [el_4 h]
  have e : (fun j => (([b, b + 1, b + 2, b + 3, b + 4, b + 5, b + 6] : List Nat)[j]?).map g.2.2) = out7 (fun i => g.2.2 (b + i)) := by
    funext j
    unfold out7
    match j with
    | 0 => rfl
    | 1 => rfl
    | 2 => rfl
    | 3 => rfl
    | 4 => rfl
    | 5 => rfl
    | 6 => rfl
    | j + 7 => rfl
  rw [e]
theorem cg_c {a : Nat} {e f : va_E} {L M : va_W} (h : e = f) (k : L = M) : (a, e) :: L = (a, f) :: M := by rw [h, k]
theorem e0_0 (g : Gw) : el g s0 0 = .inr (9, [.ref (g.2.2 1), .ref (g.2.2 2), .ref (g.2.2 3), .ref (g.2.2 4), .ref (g.2.2 5), .ref (g.2.2 6), .ref (g.2.2 7), .ref (g.2.2 8), .ref (g.2.2 9), .ref (g.2.2 10), .ref (g.2.2 11), vi 0, vi 0]) := rfl
theorem e0_1 (g : Gw) : el g s0 1 = .inr (6, [.ref (g.2.2 12), .ref (g.2.2 13), .ref (g.2.2 14)]) := rfl
theorem e0_2 (g : Gw) : el g s0 2 = .inr (8, [.ref (g.2.2 15), vi 0, vi 0, vi 0, vi 0]) := rfl
theorem e0_3 (g : Gw) : el g s0 3 = .inr (0, [.ref (g.2.2 16)]) := rfl
theorem e0_4 (g : Gw) : el g s0 4 = .inr (0, [.ref (g.2.2 17)]) := rfl
theorem e0_5 (g : Gw) : el g s0 5 = .inr (0, [.ref (g.2.2 18)]) := rfl
theorem e0_6 (g : Gw) : el g s0 6 = .inr (5, [.ref (g.2.2 19), .ref (g.2.2 20), vi 0, vi 0, vi 0]) := rfl
theorem e0_7 (g : Gw) : el g s0 7 = .inr (2, [.ref (g.2.2 21), .ref (g.2.2 22), .ref (g.2.2 23)]) := rfl
theorem e0_8 (g : Gw) : el g s0 8 = .inr (7, [.ref (g.2.2 38), .ref (g.2.2 39), .ref (g.2.2 40), vi 0]) := rfl
theorem e0_9 (g : Gw) : el g s0 9 = .inr (1, [.ref (g.2.2 41), .ref (g.2.2 42), vi 0]) := rfl
theorem e0_10 (g : Gw) : el g s0 10 = .inr (4, [.ref (g.2.2 43), vl 1]) := rfl
theorem e0_11 (g : Gw) : el g s0 11 = .inr (3, [.ref (g.2.2 44), vi 0]) := rfl
theorem e0_12 (g : Gw) : el g s0 12 = .inl (g.2.1 1, 320, .inl (fun _ => Int32.ofInt 0)) := rfl
theorem e0_13 (g : Gw) : el g s0 13 = .inl (g.2.1 1, 8, .inl (fun _ => Int32.ofInt 0)) := rfl
theorem e0_14 (g : Gw) : el g s0 14 = .inl (g.2.1 1, 8, .inl ln8) := rfl
theorem e0_15 (g : Gw) : el g s0 15 = .inl (g.2.1 1, 120, .inl (fun _ => Int32.ofInt 0)) := rfl
theorem e0_16 (g : Gw) : el g s0 16 = .inl (g.2.1 1, 44, .inl (fun _ => Int32.ofInt 0)) := rfl
theorem e0_17 (g : Gw) : el g s0 17 = .inl (g.2.1 1, 44, .inl (fun _ => Int32.ofInt 0)) := rfl
theorem e0_18 (g : Gw) : el g s0 18 = .inl (g.2.1 1, 44, .inl (fun _ => Int32.ofInt 0)) := rfl
theorem e0_19 (g : Gw) : el g s0 19 = .inl (g.2.1 1, 1056, .inl (fun _ => Int32.ofInt 0)) := rfl
theorem e0_20 (g : Gw) : el g s0 20 = .inl (g.2.1 1, 88, .inl (fun _ => Int32.ofInt 0)) := rfl
theorem e0_21 (g : Gw) : el g s0 21 = .inl (g.2.1 4, 7, .inr (.inr (.inr (.inr (out7 (fun i => g.2.2 (24 + i))))))) := el_r7 g 21 24 rfl
theorem e0_22 (g : Gw) : el g s0 22 = .inl (g.2.1 4, 7, .inr (.inr (.inr (.inr (out7 (fun i => g.2.2 (31 + i))))))) := el_r7 g 22 31 rfl
theorem e0_23 (g : Gw) : el g s0 23 = .inl (g.2.1 1, 7, .inl (fun _ => Int32.ofInt 0)) := rfl
theorem e0_24 (g : Gw) : el g s0 24 = .inl (g.2.1 1, 300, .inl (fun _ => Int32.ofInt 0)) := rfl
theorem e0_25 (g : Gw) : el g s0 25 = .inl (g.2.1 1, 300, .inl (fun _ => Int32.ofInt 0)) := rfl
theorem e0_26 (g : Gw) : el g s0 26 = .inl (g.2.1 1, 300, .inl (fun _ => Int32.ofInt 0)) := rfl
theorem e0_27 (g : Gw) : el g s0 27 = .inl (g.2.1 1, 300, .inl (fun _ => Int32.ofInt 0)) := rfl
theorem e0_28 (g : Gw) : el g s0 28 = .inl (g.2.1 1, 300, .inl (fun _ => Int32.ofInt 0)) := rfl
theorem e0_29 (g : Gw) : el g s0 29 = .inl (g.2.1 1, 300, .inl (fun _ => Int32.ofInt 0)) := rfl
theorem e0_30 (g : Gw) : el g s0 30 = .inl (g.2.1 1, 300, .inl (fun _ => Int32.ofInt 0)) := rfl
theorem e0_31 (g : Gw) : el g s0 31 = .inl (g.2.1 1, 300, .inl (fun _ => Int32.ofInt 0)) := rfl
theorem e0_32 (g : Gw) : el g s0 32 = .inl (g.2.1 1, 300, .inl (fun _ => Int32.ofInt 0)) := rfl
theorem e0_33 (g : Gw) : el g s0 33 = .inl (g.2.1 1, 300, .inl (fun _ => Int32.ofInt 0)) := rfl
theorem e0_34 (g : Gw) : el g s0 34 = .inl (g.2.1 1, 300, .inl (fun _ => Int32.ofInt 0)) := rfl
theorem e0_35 (g : Gw) : el g s0 35 = .inl (g.2.1 1, 300, .inl (fun _ => Int32.ofInt 0)) := rfl
theorem e0_36 (g : Gw) : el g s0 36 = .inl (g.2.1 1, 300, .inl (fun _ => Int32.ofInt 0)) := rfl
theorem e0_37 (g : Gw) : el g s0 37 = .inl (g.2.1 1, 300, .inl (fun _ => Int32.ofInt 0)) := rfl
theorem e0_38 (g : Gw) : el g s0 38 = .inl (g.2.1 2, 4, .inr (.inl (fun _ => Int64.ofInt 0))) := rfl
theorem e0_39 (g : Gw) : el g s0 39 = .inl (g.2.1 2, 4, .inr (.inl (fun _ => Int64.ofInt 0))) := rfl
theorem e0_40 (g : Gw) : el g s0 40 = .inl (g.2.1 1, 16, .inl (fun _ => Int32.ofInt 0)) := rfl
theorem e0_41 (g : Gw) : el g s0 41 = .inl (g.2.1 1, 40, .inl (fun _ => Int32.ofInt 0)) := rfl
theorem e0_42 (g : Gw) : el g s0 42 = .inl (g.2.1 1, 41, .inl (fun _ => Int32.ofInt 0)) := rfl
theorem e0_43 (g : Gw) : el g s0 43 = .inl (g.2.1 2, 41, .inr (.inl (fun _ => Int64.ofInt 0))) := rfl
theorem e0_44 (g : Gw) : el g s0 44 = .inl (g.2.1 1, 16, .inl (fun _ => Int32.ofInt 0)) := rfl
theorem e0_45 (g : Gw) : el g s0 45 = .inr (10, [vi 0, .ref (g.2.2 46), .ref (g.2.2 47), .ref (g.2.2 48), .ref (g.2.2 49), .ref (g.2.2 50), .ref (g.2.2 51), .ref (g.2.2 52), vi 0, .ref (g.2.2 53), .ref (g.2.2 54), .ref (g.2.2 55), vi 0, vi 0, vi 0, vi 0, vi 0, vi 0, vi 0, vi 0, vi 0, .ref (g.2.2 56), .ref (g.2.2 57), vi 0, .ref (g.2.2 58), .ref (g.2.2 59), .ref (g.2.2 60), .ref (g.2.2 61), .ref (g.2.2 62), vi 0]) := rfl
theorem e0_46 (g : Gw) : el g s0 46 = .inl (g.2.1 1, 8, .inl ln8) := rfl
theorem e0_47 (g : Gw) : el g s0 47 = .inl (g.2.1 1, 8, .inl (fun _ => Int32.ofInt 0)) := rfl
theorem e0_48 (g : Gw) : el g s0 48 = .inl (g.2.1 1, 320, .inl (fun _ => Int32.ofInt 0)) := rfl
theorem e0_49 (g : Gw) : el g s0 49 = .inl (g.2.1 1, 44, .inl (fun _ => Int32.ofInt 0)) := rfl
theorem e0_50 (g : Gw) : el g s0 50 = .inl (g.2.1 1, 44, .inl (fun _ => Int32.ofInt 0)) := rfl
theorem e0_51 (g : Gw) : el g s0 51 = .inl (g.2.1 1, 44, .inl (fun _ => Int32.ofInt 0)) := rfl
theorem e0_52 (g : Gw) : el g s0 52 = .inl (g.2.1 1, 1056, .inl (fun _ => Int32.ofInt 0)) := rfl
theorem e0_53 (g : Gw) : el g s0 53 = .inl (g.2.1 1, 300, .inl (fun _ => Int32.ofInt 0)) := rfl
theorem e0_54 (g : Gw) : el g s0 54 = .inl (g.2.1 1, 300, .inl (fun _ => Int32.ofInt 0)) := rfl
theorem e0_55 (g : Gw) : el g s0 55 = .inl (g.2.1 1, 120, .inl (fun _ => Int32.ofInt 0)) := rfl
theorem e0_56 (g : Gw) : el g s0 56 = .inl (g.2.1 2, 4, .inr (.inl (fun _ => Int64.ofInt 0))) := rfl
theorem e0_57 (g : Gw) : el g s0 57 = .inl (g.2.1 2, 4, .inr (.inl (fun _ => Int64.ofInt 0))) := rfl
theorem e0_58 (g : Gw) : el g s0 58 = .inl (g.2.1 1, 41, .inl (fun _ => Int32.ofInt 0)) := rfl
theorem e0_59 (g : Gw) : el g s0 59 = .inl (g.2.1 3, 41, .inl (fun _ => Int32.ofInt 0)) := rfl
theorem e0_60 (g : Gw) : el g s0 60 = .inl (g.2.1 3, 2, .inl (fun _ => Int32.ofInt 0)) := rfl
theorem e0_61 (g : Gw) : el g s0 61 = .inl (g.2.1 1, 88, .inl (fun _ => Int32.ofInt 0)) := rfl
theorem e0_62 (g : Gw) : el g s0 62 = .inl (g.2.1 1, 16, .inl (fun _ => Int32.ofInt 0)) := rfl
theorem wl_45 (g : Gw) : (List.range 45).map (fun k => (g.2.2 (0 + k), el g s0 (0 + k))) = [(g.2.2 0, .inr (9, [.ref (g.2.2 1), .ref (g.2.2 2), .ref (g.2.2 3), .ref (g.2.2 4), .ref (g.2.2 5), .ref (g.2.2 6), .ref (g.2.2 7), .ref (g.2.2 8), .ref (g.2.2 9), .ref (g.2.2 10), .ref (g.2.2 11), vi 0, vi 0])), (g.2.2 1, .inr (6, [.ref (g.2.2 12), .ref (g.2.2 13), .ref (g.2.2 14)])), (g.2.2 2, .inr (8, [.ref (g.2.2 15), vi 0, vi 0, vi 0, vi 0])), (g.2.2 3, .inr (0, [.ref (g.2.2 16)])), (g.2.2 4, .inr (0, [.ref (g.2.2 17)])), (g.2.2 5, .inr (0, [.ref (g.2.2 18)])), (g.2.2 6, .inr (5, [.ref (g.2.2 19), .ref (g.2.2 20), vi 0, vi 0, vi 0])), (g.2.2 7, .inr (2, [.ref (g.2.2 21), .ref (g.2.2 22), .ref (g.2.2 23)])), (g.2.2 8, .inr (7, [.ref (g.2.2 38), .ref (g.2.2 39), .ref (g.2.2 40), vi 0])), (g.2.2 9, .inr (1, [.ref (g.2.2 41), .ref (g.2.2 42), vi 0])), (g.2.2 10, .inr (4, [.ref (g.2.2 43), vl 1])), (g.2.2 11, .inr (3, [.ref (g.2.2 44), vi 0])), (g.2.2 12, .inl (g.2.1 1, 320, .inl (fun _ => Int32.ofInt 0))), (g.2.2 13, .inl (g.2.1 1, 8, .inl (fun _ => Int32.ofInt 0))), (g.2.2 14, .inl (g.2.1 1, 8, .inl ln8)), (g.2.2 15, .inl (g.2.1 1, 120, .inl (fun _ => Int32.ofInt 0))), (g.2.2 16, .inl (g.2.1 1, 44, .inl (fun _ => Int32.ofInt 0))), (g.2.2 17, .inl (g.2.1 1, 44, .inl (fun _ => Int32.ofInt 0))), (g.2.2 18, .inl (g.2.1 1, 44, .inl (fun _ => Int32.ofInt 0))), (g.2.2 19, .inl (g.2.1 1, 1056, .inl (fun _ => Int32.ofInt 0))), (g.2.2 20, .inl (g.2.1 1, 88, .inl (fun _ => Int32.ofInt 0))), (g.2.2 21, .inl (g.2.1 4, 7, .inr (.inr (.inr (.inr (out7 (fun i => g.2.2 (24 + i)))))))), (g.2.2 22, .inl (g.2.1 4, 7, .inr (.inr (.inr (.inr (out7 (fun i => g.2.2 (31 + i)))))))), (g.2.2 23, .inl (g.2.1 1, 7, .inl (fun _ => Int32.ofInt 0))), (g.2.2 24, .inl (g.2.1 1, 300, .inl (fun _ => Int32.ofInt 0))), (g.2.2 25, .inl (g.2.1 1, 300, .inl (fun _ => Int32.ofInt 0))), (g.2.2 26, .inl (g.2.1 1, 300, .inl (fun _ => Int32.ofInt 0))), (g.2.2 27, .inl (g.2.1 1, 300, .inl (fun _ => Int32.ofInt 0))), (g.2.2 28, .inl (g.2.1 1, 300, .inl (fun _ => Int32.ofInt 0))), (g.2.2 29, .inl (g.2.1 1, 300, .inl (fun _ => Int32.ofInt 0))), (g.2.2 30, .inl (g.2.1 1, 300, .inl (fun _ => Int32.ofInt 0))), (g.2.2 31, .inl (g.2.1 1, 300, .inl (fun _ => Int32.ofInt 0))), (g.2.2 32, .inl (g.2.1 1, 300, .inl (fun _ => Int32.ofInt 0))), (g.2.2 33, .inl (g.2.1 1, 300, .inl (fun _ => Int32.ofInt 0))), (g.2.2 34, .inl (g.2.1 1, 300, .inl (fun _ => Int32.ofInt 0))), (g.2.2 35, .inl (g.2.1 1, 300, .inl (fun _ => Int32.ofInt 0))), (g.2.2 36, .inl (g.2.1 1, 300, .inl (fun _ => Int32.ofInt 0))), (g.2.2 37, .inl (g.2.1 1, 300, .inl (fun _ => Int32.ofInt 0))), (g.2.2 38, .inl (g.2.1 2, 4, .inr (.inl (fun _ => Int64.ofInt 0)))), (g.2.2 39, .inl (g.2.1 2, 4, .inr (.inl (fun _ => Int64.ofInt 0)))), (g.2.2 40, .inl (g.2.1 1, 16, .inl (fun _ => Int32.ofInt 0))), (g.2.2 41, .inl (g.2.1 1, 40, .inl (fun _ => Int32.ofInt 0))), (g.2.2 42, .inl (g.2.1 1, 41, .inl (fun _ => Int32.ofInt 0))), (g.2.2 43, .inl (g.2.1 2, 41, .inr (.inl (fun _ => Int64.ofInt 0)))), (g.2.2 44, .inl (g.2.1 1, 16, .inl (fun _ => Int32.ofInt 0)))] := by
  show [(g.2.2 0, el g s0 0), (g.2.2 1, el g s0 1), (g.2.2 2, el g s0 2), (g.2.2 3, el g s0 3), (g.2.2 4, el g s0 4), (g.2.2 5, el g s0 5), (g.2.2 6, el g s0 6), (g.2.2 7, el g s0 7), (g.2.2 8, el g s0 8), (g.2.2 9, el g s0 9), (g.2.2 10, el g s0 10), (g.2.2 11, el g s0 11), (g.2.2 12, el g s0 12), (g.2.2 13, el g s0 13), (g.2.2 14, el g s0 14), (g.2.2 15, el g s0 15), (g.2.2 16, el g s0 16), (g.2.2 17, el g s0 17), (g.2.2 18, el g s0 18), (g.2.2 19, el g s0 19), (g.2.2 20, el g s0 20), (g.2.2 21, el g s0 21), (g.2.2 22, el g s0 22), (g.2.2 23, el g s0 23), (g.2.2 24, el g s0 24), (g.2.2 25, el g s0 25), (g.2.2 26, el g s0 26), (g.2.2 27, el g s0 27), (g.2.2 28, el g s0 28), (g.2.2 29, el g s0 29), (g.2.2 30, el g s0 30), (g.2.2 31, el g s0 31), (g.2.2 32, el g s0 32), (g.2.2 33, el g s0 33), (g.2.2 34, el g s0 34), (g.2.2 35, el g s0 35), (g.2.2 36, el g s0 36), (g.2.2 37, el g s0 37), (g.2.2 38, el g s0 38), (g.2.2 39, el g s0 39), (g.2.2 40, el g s0 40), (g.2.2 41, el g s0 41), (g.2.2 42, el g s0 42), (g.2.2 43, el g s0 43), (g.2.2 44, el g s0 44)] = _
  exact cg_c (e0_0 g) (cg_c (e0_1 g) (cg_c (e0_2 g) (cg_c (e0_3 g) (cg_c (e0_4 g) (cg_c (e0_5 g) (cg_c (e0_6 g) (cg_c (e0_7 g) (cg_c (e0_8 g) (cg_c (e0_9 g) (cg_c (e0_10 g) (cg_c (e0_11 g) (cg_c (e0_12 g) (cg_c (e0_13 g) (cg_c (e0_14 g) (cg_c (e0_15 g) (cg_c (e0_16 g) (cg_c (e0_17 g) (cg_c (e0_18 g) (cg_c (e0_19 g) (cg_c (e0_20 g) (cg_c (e0_21 g) (cg_c (e0_22 g) (cg_c (e0_23 g) (cg_c (e0_24 g) (cg_c (e0_25 g) (cg_c (e0_26 g) (cg_c (e0_27 g) (cg_c (e0_28 g) (cg_c (e0_29 g) (cg_c (e0_30 g) (cg_c (e0_31 g) (cg_c (e0_32 g) (cg_c (e0_33 g) (cg_c (e0_34 g) (cg_c (e0_35 g) (cg_c (e0_36 g) (cg_c (e0_37 g) (cg_c (e0_38 g) (cg_c (e0_39 g) (cg_c (e0_40 g) (cg_c (e0_41 g) (cg_c (e0_42 g) (cg_c (e0_43 g) (cg_c (e0_44 g) (rfl)))))))))))))))))))))))))))))))))))))))))))))
theorem wl_18 (g : Gw) : (List.range 18).map (fun k => (g.2.2 (45 + k), el g s0 (45 + k))) = [(g.2.2 45, .inr (10, [vi 0, .ref (g.2.2 46), .ref (g.2.2 47), .ref (g.2.2 48), .ref (g.2.2 49), .ref (g.2.2 50), .ref (g.2.2 51), .ref (g.2.2 52), vi 0, .ref (g.2.2 53), .ref (g.2.2 54), .ref (g.2.2 55), vi 0, vi 0, vi 0, vi 0, vi 0, vi 0, vi 0, vi 0, vi 0, .ref (g.2.2 56), .ref (g.2.2 57), vi 0, .ref (g.2.2 58), .ref (g.2.2 59), .ref (g.2.2 60), .ref (g.2.2 61), .ref (g.2.2 62), vi 0])), (g.2.2 46, .inl (g.2.1 1, 8, .inl ln8)), (g.2.2 47, .inl (g.2.1 1, 8, .inl (fun _ => Int32.ofInt 0))), (g.2.2 48, .inl (g.2.1 1, 320, .inl (fun _ => Int32.ofInt 0))), (g.2.2 49, .inl (g.2.1 1, 44, .inl (fun _ => Int32.ofInt 0))), (g.2.2 50, .inl (g.2.1 1, 44, .inl (fun _ => Int32.ofInt 0))), (g.2.2 51, .inl (g.2.1 1, 44, .inl (fun _ => Int32.ofInt 0))), (g.2.2 52, .inl (g.2.1 1, 1056, .inl (fun _ => Int32.ofInt 0))), (g.2.2 53, .inl (g.2.1 1, 300, .inl (fun _ => Int32.ofInt 0))), (g.2.2 54, .inl (g.2.1 1, 300, .inl (fun _ => Int32.ofInt 0))), (g.2.2 55, .inl (g.2.1 1, 120, .inl (fun _ => Int32.ofInt 0))), (g.2.2 56, .inl (g.2.1 2, 4, .inr (.inl (fun _ => Int64.ofInt 0)))), (g.2.2 57, .inl (g.2.1 2, 4, .inr (.inl (fun _ => Int64.ofInt 0)))), (g.2.2 58, .inl (g.2.1 1, 41, .inl (fun _ => Int32.ofInt 0))), (g.2.2 59, .inl (g.2.1 3, 41, .inl (fun _ => Int32.ofInt 0))), (g.2.2 60, .inl (g.2.1 3, 2, .inl (fun _ => Int32.ofInt 0))), (g.2.2 61, .inl (g.2.1 1, 88, .inl (fun _ => Int32.ofInt 0))), (g.2.2 62, .inl (g.2.1 1, 16, .inl (fun _ => Int32.ofInt 0)))] := by
  show [(g.2.2 45, el g s0 45), (g.2.2 46, el g s0 46), (g.2.2 47, el g s0 47), (g.2.2 48, el g s0 48), (g.2.2 49, el g s0 49), (g.2.2 50, el g s0 50), (g.2.2 51, el g s0 51), (g.2.2 52, el g s0 52), (g.2.2 53, el g s0 53), (g.2.2 54, el g s0 54), (g.2.2 55, el g s0 55), (g.2.2 56, el g s0 56), (g.2.2 57, el g s0 57), (g.2.2 58, el g s0 58), (g.2.2 59, el g s0 59), (g.2.2 60, el g s0 60), (g.2.2 61, el g s0 61), (g.2.2 62, el g s0 62)] = _
  exact cg_c (e0_45 g) (cg_c (e0_46 g) (cg_c (e0_47 g) (cg_c (e0_48 g) (cg_c (e0_49 g) (cg_c (e0_50 g) (cg_c (e0_51 g) (cg_c (e0_52 g) (cg_c (e0_53 g) (cg_c (e0_54 g) (cg_c (e0_55 g) (cg_c (e0_56 g) (cg_c (e0_57 g) (cg_c (e0_58 g) (cg_c (e0_59 g) (cg_c (e0_60 g) (cg_c (e0_61 g) (cg_c (e0_62 g) (rfl))))))))))))))))))
