def bcN (n : Nat) : Nat :=
  let t := n - (n / 2 &&& 1431655765)
  let a := (t &&& 858993459) + (t / 4 &&& 858993459)
  let a2 := a + a / 16 &&& 252645135
  let b := a2 + a2 / 256
  b + b / 65536 &&& 63
def bcNc (c : Nat) : Bool := (List.range 64).all (fun hi => (List.range 64).all (fun lo => Nat.beq (bcN (4096 * c + 64 * hi + lo)) (pc 16 (4096 * c + 64 * hi + lo))))
theorem bcN_o0 : bcNc 0 = true := by decide +kernel
theorem bcN_o1 : bcNc 1 = true := by decide +kernel
theorem bcN_o2 : bcNc 2 = true := by decide +kernel
theorem bcN_o3 : bcNc 3 = true := by decide +kernel
theorem bcN_o4 : bcNc 4 = true := by decide +kernel
theorem bcN_o5 : bcNc 5 = true := by decide +kernel
theorem bcN_o6 : bcNc 6 = true := by decide +kernel
theorem bcN_o7 : bcNc 7 = true := by decide +kernel
theorem bcN_o8 : bcNc 8 = true := by decide +kernel
theorem bcN_o9 : bcNc 9 = true := by decide +kernel
theorem bcN_o10 : bcNc 10 = true := by decide +kernel
theorem bcN_o11 : bcNc 11 = true := by decide +kernel
theorem bcN_o12 : bcNc 12 = true := by decide +kernel
theorem bcN_o13 : bcNc 13 = true := by decide +kernel
theorem bcN_o14 : bcNc 14 = true := by decide +kernel
theorem bcN_o15 : bcNc 15 = true := by decide +kernel
theorem bcN_ones {n : Nat} (h : n < 65536) : bcN n = ones n := by
  have hc : bcNc (n / 4096) = true := by
    have hl : n / 4096 < 16 := by omega
    generalize n / 4096 = c at hl
    match c, hl with
    | 0, _ => exact bcN_o0
    | 1, _ => exact bcN_o1
    | 2, _ => exact bcN_o2
    | 3, _ => exact bcN_o3
    | 4, _ => exact bcN_o4
    | 5, _ => exact bcN_o5
    | 6, _ => exact bcN_o6
    | 7, _ => exact bcN_o7
    | 8, _ => exact bcN_o8
    | 9, _ => exact bcN_o9
    | 10, _ => exact bcN_o10
    | 11, _ => exact bcN_o11
    | 12, _ => exact bcN_o12
    | 13, _ => exact bcN_o13
    | 14, _ => exact bcN_o14
    | 15, _ => exact bcN_o15
    | c + 16, h => exact absurd h (by omega)
  have h1 := List.all_eq_true.mp (List.all_eq_true.mp hc (n % 4096 / 64) (List.mem_range.mpr (by omega))) (n % 64) (List.mem_range.mpr (by omega))
  rw [show 4096 * (n / 4096) + 64 * (n % 4096 / 64) + n % 64 = n by omega] at h1
  exact Nat.eq_of_beq_eq_true h1
theorem us1 : (((1 : Int32).toUInt32 &&& Int32.toUInt32 31).toBitVec % 32).toNat = 1 := by decide +kernel
theorem us2 : (((2 : Int32).toUInt32 &&& Int32.toUInt32 31).toBitVec % 32).toNat = 2 := by decide +kernel
theorem us4 : (((4 : Int32).toUInt32 &&& Int32.toUInt32 31).toBitVec % 32).toNat = 4 := by decide +kernel
theorem us8 : (((8 : Int32).toUInt32 &&& Int32.toUInt32 31).toBitVec % 32).toNat = 8 := by decide +kernel
theorem us16 : (((16 : Int32).toUInt32 &&& Int32.toUInt32 31).toBitVec % 32).toNat = 16 := by decide +kernel
theorem e_bitCount (L : Nat → Nat) (E : Nat → Nat → Nat) (fu : Nat) {n : Nat} (h : n < 65536) (D : ev_D) : fJ6_bitCount L E fu (nI n) D = some (nI (ones n), D) := by
  have ha : n / 2 &&& 1431655765 ≤ n := Nat.le_trans Nat.and_le_left (Nat.div_le_self _ _)
  simp only [fJ6_bitCount, fJ6_bitCount_24, fJ6_bitCount_41]
  rw [pk_ushrN (by omega) _ 1 us1, show (2 : Nat) ^ 1 = 2 from rfl, i_1431655765, nI_and, pk_sub ha]
  generalize ht : n - (n / 2 &&& 1431655765) = t
  have htl : t ≤ 65535 := by omega
  rw [pk_ushrN (by omega) _ 2 us2, show (2 : Nat) ^ 2 = 4 from rfl, i_858993459, nI_and, nI_and, nI_add]
  generalize haa : (t &&& 858993459) + (t / 4 &&& 858993459) = a
  have h1 : t &&& 858993459 ≤ t := Nat.and_le_left
  have h2 : t / 4 &&& 858993459 ≤ t / 4 := Nat.and_le_left
  rw [pk_ushrN (by omega) _ 4 us4, show (2 : Nat) ^ 4 = 16 from rfl, i_252645135, nI_add, nI_and]
  generalize hb : a + a / 16 &&& 252645135 = a2
  have h3 : a + a / 16 &&& 252645135 ≤ a + a / 16 := Nat.and_le_left
  rw [pk_ushrN (by omega) _ 8 us8, show (2 : Nat) ^ 8 = 256 from rfl, nI_add]
  rw [pk_ushrN (by omega) _ 16 us16, show (2 : Nat) ^ 16 = 65536 from rfl, nI_add, i_63, nI_and]
  rw [← bcN_ones h, bcN]
  simp only [ht, haa, hb]
