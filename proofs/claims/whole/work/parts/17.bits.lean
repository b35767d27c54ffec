/-! counting bits -/
def cb (n : Nat) : Nat → Nat
  | 0 => 0
  | k + 1 => cb n k + n / 2 ^ k % 2
def bc1 (n : Nat) : Nat := n - (n / 2 &&& 1431655765)
def bc2 (m : Nat) : Nat := (m &&& 858993459) + (m / 4 &&& 858993459)
def bc3 (m : Nat) : Nat := (m + m / 16) &&& 252645135
def bc4 (m : Nat) : Nat := m + m / 256
def bc5 (m : Nat) : Nat := m + m / 65536
def bcN (n : Nat) : Nat := bc5 (bc4 (bc3 (bc2 (bc1 n)))) &&& 63
def bcT (k : Nat) : Bool := (List.range 16).all (fun a => (List.range 256).all (fun b => Nat.beq (bcN (256 * (16 * k + a) + b)) (cb (256 * (16 * k + a) + b) 16)))
theorem bcT_0 : bcT 0 = true := by decide +kernel
theorem bcT_1 : bcT 1 = true := by decide +kernel
theorem bcT_2 : bcT 2 = true := by decide +kernel
theorem bcT_3 : bcT 3 = true := by decide +kernel
theorem bcT_4 : bcT 4 = true := by decide +kernel
theorem bcT_5 : bcT 5 = true := by decide +kernel
theorem bcT_6 : bcT 6 = true := by decide +kernel
theorem bcT_7 : bcT 7 = true := by decide +kernel
theorem bcT_8 : bcT 8 = true := by decide +kernel
theorem bcT_9 : bcT 9 = true := by decide +kernel
theorem bcT_10 : bcT 10 = true := by decide +kernel
theorem bcT_11 : bcT 11 = true := by decide +kernel
theorem bcT_12 : bcT 12 = true := by decide +kernel
theorem bcT_13 : bcT 13 = true := by decide +kernel
theorem bcT_14 : bcT 14 = true := by decide +kernel
theorem bcT_15 : bcT 15 = true := by decide +kernel
theorem bcT_all {k : Nat} (h : k < 16) : bcT k = true := by
  match k, h with
  | 0, _ => exact bcT_0
  | 1, _ => exact bcT_1
  | 2, _ => exact bcT_2
  | 3, _ => exact bcT_3
  | 4, _ => exact bcT_4
  | 5, _ => exact bcT_5
  | 6, _ => exact bcT_6
  | 7, _ => exact bcT_7
  | 8, _ => exact bcT_8
  | 9, _ => exact bcT_9
  | 10, _ => exact bcT_10
  | 11, _ => exact bcT_11
  | 12, _ => exact bcT_12
  | 13, _ => exact bcT_13
  | 14, _ => exact bcT_14
  | 15, _ => exact bcT_15
  | k + 16, h => exact absurd h (by omega)
theorem bcN_eq {n : Nat} (h : n < 65536) : bcN n = cb n 16 := by
  have h1 := List.all_eq_true.mp (bcT_all (k := n / 4096) (by omega)) (n / 256 % 16) (List.mem_range.mpr (by omega))
  have h2 := List.all_eq_true.mp h1 (n % 256) (List.mem_range.mpr (by omega))
  rw [show 256 * (16 * (n / 4096) + n / 256 % 16) + n % 256 = n by omega] at h2
  exact Nat.eq_of_beq_eq_true h2
