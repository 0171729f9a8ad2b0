/-! ===== what holds between the class's cells and the reference's ===== -/
/-- a tower at b: bounds -/
def tw_B (c : ev_D) (b : Nat) : Prop :=
  bI 10 (c b 5) ∧ bI 99 (c b 1) ∧ bI 9 (c b 2) ∧ bI 9999 (c b 3) ∧ bI 1023 (c b 6) ∧ (∀ r, nv (c b 5) ≤ r → (nv (c b 6)).testBit r = false) ∧
  (∀ i, i < 8 → ∃ j, j < 99 ∧ c (b + 1) i = nI (j + 1)) ∧ (∀ r, r < 10 → bI 7 (c (b + 3) r)) ∧ (∀ r, r < 10 → bI 9 (c (b + 4) r)) ∧ (∀ r, r < 10 → bI 9 (c (b + 5) r)) ∧ (∀ r, r < 10 → bI 99 (c (b + 6) r)) ∧ (∀ r, r < 10 → bI 99 (c (b + 7) r))
/-- a tower at b, with its book's lines, and a row of the reference -/
def tw_R (c : ev_D) (b : Nat) (ln : Int32) (n : Nat → Int32) : Prop :=
  n 0 = c b 4 ∧ n 1 = c b 0 ∧ n 2 = ln ∧ n 3 = c b 1 ∧ n 4 = c b 2 ∧ n 5 = c b 3 ∧ (∀ i, i < 8 → n (6 + i) = c (b + 2) i) ∧ (∀ r, r < 10 → n (14 + r) = c (b + 6) r) ∧ (∀ r, r < 10 → n (24 + r) = c (b + 7) r) ∧ (∀ r, r < nv (c b 5) → n (34 + r) = nI (if (nv (c b 6)).testBit r then 0 else 1))
def g_T (c m : ev_D) : Prop := tw_B c 3 ∧ bI 9999 (c 3 4) ∧ bI 150 (c 11 0) ∧ tw_R c 3 (c 11 0) (m 133)
/-- what no hour changes -/
def g_F (c m : ev_D) : Prop := m 132 7 = c 3 5 ∧ (∀ i, i < 8 → m 136 i + nI 1 = c 4 i) ∧ (∀ r, r < 10 → m 137 r = c 6 r) ∧ (∀ r, r < 10 → m 138 r = c 7 r) ∧ (∀ r, r < 10 → m 139 r = c 8 r)
def g_B (c m : ev_D) : Prop := ∀ i, i < 600 → m 140 i = c 12 i
def felt (c : ev_D) (r : Nat) : Nat := up (fun i s => if nv (c 22 (3 * i)) = r then s ||| 2 ^ nv (c 22 (3 * i + 1)) else s) 0 (nv (c 21 0)) 0
def g_R (c m : ev_D) : Prop := bI 16 (c 21 0) ∧ m 132 35 = c 21 0 ∧ (∀ i, i < nv (c 21 0) → bI 9 (c 22 (3 * i)) ∧ bI 9 (c 22 (3 * i + 1))) ∧ ∀ r, r < 10 → m 151 r = nI (felt c r)
def g_D (c m : ev_D) : Prop := bI 16 (c 23 0) ∧ m 132 37 = c 23 0 ∧ ∀ i, i < nv (c 23 0) → m 152 (3 * i) = c 24 (3 * i) ∧ m 152 (3 * i + 1) = c 24 (3 * i + 1) ∧ m 152 (3 * i + 2) = c 24 (3 * i + 2) ∧ bI 23 (c 24 (3 * i)) ∧ ∃ e, e ≤ 5 ∧ c 24 (3 * i + 1) = nI e ∧ bI (if e = 5 then 9 else 99) (c 24 (3 * i + 2))
def g_C (c m : ev_D) : Prop := bI 16 (c 25 0) ∧ m 132 39 = c 25 0 ∧ ∀ i, i < nv (c 25 0) → m 153 i = c 26 (3 * i) ∧ bI 127 (c 26 (3 * i)) ∧ ∀ p, ((nv (c 26 (3 * i))).testBit p && (nv (c 26 (3 * i))).testBit (p + 1)) = false
def g_S (c m : ev_D) : Prop := bI 10 (c 28 0) ∧ m 132 45 = c 28 0 ∧ ∀ i, i < nv (c 28 0) → m 157 i = c 29 (3 * i) ∧ m 158 i = c 29 (3 * i + 1) ∧ bI 65535 (c 29 (3 * i)) ∧ bI 99 (c 29 (3 * i + 1))
def g_O (c m : ev_D) : Prop := bI 6 (c 30 0) ∧ m 132 48 = c 30 0 ∧ ∀ i, i < nv (c 30 0) → m 159 i = c 31 (3 * i) ∧ m 160 i = c 31 (3 * i + 1) ∧ ∃ h f, h ≤ 12 ∧ f < h ∧ c 31 (3 * i) = nI h ∧ c 31 (3 * i + 1) = nI f
def seen (c : ev_D) (r : Nat) : Nat := up (fun i s => if nv (c 33 (3 * i)) = r then s ||| 2 ^ nv (c 33 (3 * i + 1)) else s) 0 (nv (c 32 0)) 0
def g_E (c m : ev_D) : Prop := bI 16 (c 32 0) ∧ m 132 53 = c 32 0 ∧ (∀ i, i < nv (c 32 0) → bI 11 (c 33 (3 * i)) ∧ bI 11 (c 33 (3 * i + 1)) ∧ nv (c 33 (3 * i)) ≠ nv (c 33 (3 * i + 1))) ∧ ∀ r, r < 12 → m 163 r = nI (seen c r)
def g_G (c m : ev_D) : Prop := bI 24 (c 34 0) ∧ m 132 57 = c 34 0 ∧ ∀ i, i < nv (c 34 0) → m 166 i = c 35 (3 * i) ∧ bI 99 (c 35 (3 * i))
def tells (c : ev_D) (r : Nat) : Nat := up (fun i s => (fun s => if nv (c 37 (3 * i + 1)) = r then s ||| 2 ^ nv (c 37 (3 * i)) else s) (if nv (c 37 (3 * i)) = r then s ||| 2 ^ nv (c 37 (3 * i + 1)) else s)) 0 (nv (c 36 0)) 0
def g_U (c m : ev_D) : Prop := bI 20 (c 36 0) ∧ m 132 59 = c 36 0 ∧ (∀ i, i < nv (c 36 0) → bI 9 (c 37 (3 * i)) ∧ bI 9 (c 37 (3 * i + 1)) ∧ nv (c 37 (3 * i)) ≠ nv (c 37 (3 * i + 1))) ∧ ∀ r, r < 10 → m 167 r = nI (tells c r)
def g_H (c m : ev_D) : Prop := ∀ i, i < 80 → m 161 i = c 38 i ∧ bI 99 (c 38 i)
def g_N (c m : ev_D) : Prop := ∀ i, i < 10 → m 168 i = c 39 i ∧ bI 18 (c 39 i + nI 9)
/-! ===== the law's codes: a stretch of the class's and one of the reference's that come to one value ===== -/
def lw_two (md : Bool) (k : Nat) (a b : Int32) : Option Int32 := if k = 1 then some (a + b) else if k = 2 then some (a - b) else if k = 3 then some (a * b) else if k = 4 then (if b = nI 0 then (if md then none else some (nI 0)) else some (a / b)) else if k = 5 then some (if a < b then nI 1 else nI 0) else if k = 6 then some (if a = b then nI 1 else nI 0) else if k = 7 then some (if b < a then nI 1 else nI 0) else if k = 8 then some (if md then a * b else a &&& b) else some (if md then (if nI 0 < a + b then nI 1 else nI 0) else a ||| b)
/-- a code: 0 v: the number v; 1 k: the value k; 2 0: not; 2 k: two into one -/
abbrev lw_C : Type := Nat × Nat
def lw_st (md : Bool) (vals : Nat → Int32) (x : lw_C) (st : List Int32) : Option (List Int32) := if x.1 = 0 then some (nI x.2 :: st) else if x.1 = 1 then some (vals x.2 :: st) else if x.2 = 0 then (match st with
  | a :: r => some ((nI 1 - a) :: r)
  | [] => none) else match st with
  | b :: a :: r => (lw_two md x.2 a b).map (fun v => v :: r)
  | _ => none
def lw_ev (md : Bool) (vals : Nat → Int32) : List lw_C → List Int32 → Option (List Int32)
  | [], st => some st
  | x :: l, st => (lw_st md vals x st).bind (lw_ev md vals l)
/-- goes through from height n, never above lim -/
def lw_ok (lim : Nat) : List lw_C → Nat → Bool
  | [], _ => true
  | x :: l, n => if x.1 ≤ 1 then decide (n < lim) && lw_ok lim l (n + 1) else if x.2 = 0 then decide (1 ≤ n) && lw_ok lim l n else decide (2 ≤ n) && lw_ok lim l (n - 1)
/-- one value on top, of height d at most -/
def lw_sg (md : Bool) (d : Nat) (l : List lw_C) (f : (Nat → Int32) → Int32) : Prop := (∀ vals st, lw_ev md vals l st = some (f vals :: st)) ∧ ∀ lim n r, n + d ≤ lim → lw_ok lim (l ++ r) n = lw_ok lim r (n + 1)
def lw_cC (x : lw_C) : Int32 := if x.1 = 0 then nI x.2 else if x.1 = 1 then nI (10000 + x.2) else nI (10100 + x.2)
def lw_cO (x : lw_C) : Int32 := if x.1 = 0 then nI 0 else if x.1 = 1 then nI 1 else if x.2 = 0 then nI 9 else if x.2 = 8 then nI 10 else if x.2 = 9 then nI 11 else nI (1 + x.2)
def lw_gd (x : lw_C) : Prop := (x.1 = 0 ∧ x.2 < 10000) ∨ (x.1 = 1 ∧ x.2 < 11) ∨ (x.1 = 2 ∧ x.2 ≤ 9)
/-- a value of the class's codes from a to b, and of the reference's from a2 to b2, the same -/
def lw_pr (c m : ev_D) (a b a2 b2 : Nat) (bool : Prop) : Prop := ∃ (l l2 : List lw_C) (f : (Nat → Int32) → Int32), a + l.length = b ∧ a2 + l2.length = b2 ∧ lw_sg false 40 l f ∧ lw_sg true 40 l2 f ∧ (bool → ∀ v, f v = nI 0 ∨ f v = nI 1) ∧ (∀ i (h : i < l.length), lw_gd l[i] ∧ c 19 (a + i) = lw_cC l[i]) ∧ ∀ i (h : i < l2.length), lw_gd l2[i] ∧ m 148 (a2 + i) = lw_cO l2[i] ∧ (l2[i].1 ≤ 1 → m 149 (a2 + i) = nI l2[i].2)
def lw_ln (c m : ev_D) (l : Nat) : Prop := ∃ b w e f h t : Nat, c 16 l = nI b ∧ c 17 l = nI w ∧ c 18 l = nI e ∧ m 145 l = nI f ∧ m 146 l = nI h ∧ m 147 l = nI t ∧ e ≤ 400 ∧ t ≤ 400 ∧ (w = e ↔ h = t) ∧ lw_pr c m b w f h False ∧ (w ≠ e → lw_pr c m w e h t True) ∧ w ≤ e ∧ h ≤ t
def g_L (c m : ev_D) : Prop := bI 16 (c 14 0) ∧ m 143 0 = c 14 0 ∧ ∀ l, l < nv (c 14 0) → m 144 l = c 15 l ∧ bI 2 (c 15 l) ∧ lw_ln c m l
/-- how many rows may be -/
def g_M (c : ev_D) : Prop := c 11 1 = nI 150 ∧ c 21 1 = nI 16 ∧ c 23 1 = nI 16 ∧ c 25 1 = nI 16 ∧ c 28 1 = nI 10 ∧ c 30 1 = nI 6 ∧ c 32 1 = nI 16 ∧ c 34 1 = nI 24 ∧ c 36 1 = nI 20
/-- all that an image keeps -/
def g_W (c m : ev_D) : Prop := g_T c m ∧ g_F c m ∧ g_B c m ∧ g_R c m ∧ g_D c m ∧ g_C c m ∧ g_S c m ∧ g_O c m ∧ g_E c m ∧ g_G c m ∧ g_U c m ∧ g_H c m ∧ g_N c m ∧ g_L c m
/-! ===== beside the world ===== -/
def g_P1 (D : ev_D) (j x : Nat) : Prop := tw_B D (43 + 8 * x) ∧ bI 9999 (D (43 + 8 * x) 4) ∧ bI 150 (D 42 x) ∧ tw_R D (43 + 8 * x) (D 42 x) (fun q => D 134 (44 * j + q)) ∧ D (43 + 8 * x) 5 = D 3 5 ∧ (∀ i, i < 8 → D (43 + 8 * x + 1) i = D 4 i) ∧ (∀ i, i < 10 → D (43 + 8 * x + 3) i = D 6 i) ∧ (∀ i, i < 10 → D (43 + 8 * x + 4) i = D 7 i) ∧ (∀ i, i < 10 → D (43 + 8 * x + 5) i = D 8 i)
def g_P (D : ev_D) : Prop := bI 6 (D 40 0) ∧ bI 5 (D 40 1) ∧ D 132 3 = D 40 0 ∧ ∀ j, j < nv (D 40 0) → g_P1 D j ((nv (D 40 1) + 6 - nv (D 40 0) + j) % 6)
def g_Q (D : ev_D) : Prop := bI 400 (D 91 1) ∧ D 132 13 = D 91 1 ∧ (∀ i, i < 400 → D 141 i = D 106 i ∧ bI 255 (D 106 i)) ∧ D 132 33 = D 91 2 ∧ D 132 34 = D 91 3
/-- the reference's words, letter by letter -/
def wl : List Nat := [32, 112, 117, 108, 108, 32, 104, 97, 114, 100, 32, 108, 111, 115, 116, 32, 119, 104, 101, 110, 32, 111, 114, 32, 97, 110, 100, 32, 110, 111, 116, 32, 102, 101, 101, 108, 32, 97, 114, 109, 32, 104, 117, 110, 103, 101, 114, 32, 116, 105, 114, 101, 100, 32, 98, 101, 108, 108, 32, 104, 101, 97, 118, 121, 32, 115, 119, 97, 121, 32, 102, 111, 108, 107, 32, 100, 114, 97, 117, 103, 104, 116, 32, 104, 111, 117, 114, 32, 102, 101, 108, 116, 32, 114, 105, 110, 103, 101, 114, 32, 102, 101, 101, 108, 115, 32, 97, 116, 32, 119, 101, 100, 100, 105, 110, 103, 32, 102, 105, 114, 101, 32, 109, 97, 114, 107, 101, 116, 32, 100, 101, 97, 116, 104, 32, 99, 104, 114, 105, 115, 116, 101, 110, 105, 110, 103, 32, 115, 119, 97, 112, 32]
def lb2 (a b : Nat) : Nat := if a ≠ 0 ∧ b ≠ 0 then 0 else if a ≠ 1 ∧ b ≠ 1 then 1 else 2
def nml : Nat → List Nat
  | 0 => [0]
  | n + 1 => nml n ++ [lb2 ((nml n).getD n 0) ((nml n).getD ((n + 1) / 2) 0)]
def nim (h : Nat) : Nat := (nml 99).getD h 0
def g_Z (D : ev_D) : Prop := (∀ h, h < 100 → D 131 h = nI (nim h)) ∧ (∀ i, i < 152 → D 142 i = nI (wl.getD i 0)) ∧ D 100 1 = nI 16 ∧ D 102 1 = nI 16 ∧ D 104 1 = nI 16 ∧ D 121 0 = nI 0 ∧ D 121 1 = nI 0 ∧ D 132 5 = nI 0 ∧ D 132 43 = nI 0
def kc (D : ev_D) : ev_D := fun k i => D (k + 169) i
def ips (k i : Nat) : Nat := if k = 133 then i else if k = 132 then (if i = 7 then 44 else if i = 35 then 45 else if i = 37 then 46 else if i = 39 then 47 else if i = 45 then 48 else if i = 48 then 49 else if i = 53 then 50 else if i = 57 then 51 else 52) else if k = 136 then 53 + i else if k = 137 then 61 + 8 * i else if k = 138 then 62 + 8 * i else if k = 139 then 63 + 8 * i else if k = 151 then 64 + 8 * i else if k = 157 then 65 + 8 * i else if k = 158 then 66 + 8 * i else if k = 167 then 67 + 8 * i else if k = 168 then 68 + 8 * i else if k = 159 then 141 + 2 * i else if k = 160 then 142 + 2 * i else if k = 163 then 153 + i else if k = 166 then 165 + i else if k = 161 then 189 + i else if k = 153 then 269 + i else if k = 152 then 285 + i else if k = 140 then 333 + i else if k = 143 then 933 + i else if k = 144 then 934 + 4 * i else if k = 145 then 935 + 4 * i else if k = 146 then 936 + 4 * i else if k = 147 then 937 + 4 * i else if k = 148 then 998 + 2 * i else 999 + 2 * i
def im (D : ev_D) : ev_D := fun k i => D 170 (ips k i)
def g_K (kp : Nat) (D : ev_D) : Prop := (kp = 0 → D 132 64 = nI 0) ∧ (kp = 171 → D 132 64 = nI 1 ∧ g_M (kc D) ∧ g_W (kc D) (im D))
def Inv (kp : Nat) (D : ev_D) : Prop := (kp = 0 ∨ kp = 171) ∧ g_M D ∧ g_W D D ∧ g_P D ∧ g_Q D ∧ g_Z D ∧ g_K kp D
