/-! ===== the law's beginning: two objects made; the picture by lists ===== -/
theorem vw_le {c : Nat} {r : vw_C} (h : vwCl[c]? = some r) : r.2.2 ≤ 67 := by
  have hc : c < 13 := (List.getElem?_eq_some_iff.mp h).1
  match c, hc, h with
  | 0, _, h => cases h; decide
  | 1, _, h => cases h; decide
  | 2, _, h => cases h; decide
  | 3, _, h => cases h; decide
  | 4, _, h => cases h; decide
  | 5, _, h => cases h; decide
  | 6, _, h => cases h; decide
  | 7, _, h => cases h; decide
  | 8, _, h => cases h; decide
  | 9, _, h => cases h; decide
  | 10, _, h => cases h; decide
  | 11, _, h => cases h; decide
  | 12, _, h => cases h; decide
theorem arrV_congr {cI : ClassId} {N : Nat} {f g : Nat → Value} (h : ∀ j, j < N → f j = g j) : arrV cI N f = arrV cI N g := by
  unfold arrV
  congr 1
  congr 1
  funext j
  exact h j.val j.isLt
def st_rs : List (List Nat) := [[], [], [0, 1, 2, 3, 4, 5], [2], [2, 3, 4, 5, 6, 7], [2, 3], [0, 1, 2, 3, 4, 5, 6, 7, 8, 9], [0, 4, 5, 6, 7], [0, 1, 2, 3], [2], [0, 1, 2, 3], [0, 1, 2, 3, 4, 5, 6], [7, 8, 9, 10, 11, 12, 13], [0, 1, 2, 3], [0, 1, 2, 3, 4, 5, 6], [1, 2, 4, 6, 8, 9, 10, 11, 12, 18, 19, 20, 21, 22, 23, 24, 25, 29, 36, 38, 40, 41, 42, 44, 46, 47, 49, 50, 51, 52, 54, 55, 56, 58, 60, 61, 62, 66]]
def st_rc (c i : Nat) : Bool := match vwCl[c]? with
  | some r => decide (i < r.2.2)
  | none => false
theorem st_rs_b : ((List.range 13).all fun c => (List.range 67).all fun i => !(ev_isr (ev_ft c i)) || (!(st_rc c i) || decide (i ∈ st_rs.getD (c + 3) []))) = true := by decide +kernel
theorem st_rs_ok (c : Nat) (hc : c < 13) (i : Nat) (hi : i < 67) (h1 : ev_isr (ev_ft c i) = true) (h2 : st_rc c i = true) : i ∈ st_rs.getD (c + 3) [] := by
  have h := List.all_eq_true.mp (List.all_eq_true.mp st_rs_b c (List.mem_range.mpr hc)) i (List.mem_range.mpr hi)
  rw [h1, h2] at h
  simpa using h
theorem ev_convS {G : ev_G} {S S' : ev_S} {D : ev_D} {H : Heap} (hz : sZ S = sZ S') (hK : ∀ k, k ≤ sZ S → sK S k = sK S' k) (hK0 : ∀ k, sZ S' < k → sK S' k = 0) (hL : ∀ k, k ≤ sZ S → sL S k = sL S' k) (hE : ∀ k, k ≤ sZ S → ∀ i, i ∈ st_rs.getD (sK S k) [] → sE S k i = sE S' k i) (h2 : ∀ k, k ≤ sZ S → sK S k = 2 → sL S k ≤ 6) (h : ev_W G S D H) : ev_W G S' D H := by
  refine ⟨by rw [← hz]; exact h.1, fun k hk => ?_, h.2.2⟩
  have hkz : k ≤ sZ S := by
    rw [hz]
    exact Nat.le_of_not_lt fun q => hk (hK0 k q)
  obtain ⟨a1, a2, b1, b2, b3⟩ := h.2.1 k (by rw [hK k hkz]; exact hk)
  refine ⟨a1, by rw [← hz]; exact a2, fun e => ?_, fun e => ?_, fun e => ?_⟩
  · rw [← hL k hkz]; exact b1 (by rw [hK k hkz]; exact e)
  · have e2 : sK S k = 2 := by rw [hK k hkz]; exact e
    rw [b2 e2, ← hL k hkz]
    congr 1
    refine arrV_congr fun j hj => ?_
    have hj6 : j < 6 := Nat.lt_of_lt_of_le hj (h2 k hkz e2)
    rw [hE k hkz j (by rw [e2]; match j, hj6 with
      | 0, _ => decide
      | 1, _ => decide
      | 2, _ => decide
      | 3, _ => decide
      | 4, _ => decide
      | 5, _ => decide)]
  · have e3 : 3 ≤ sK S k := by rw [hK k hkz]; exact e
    obtain ⟨r, c1, c2⟩ := b3 e3
    have hc13 : sK S k - 3 < 13 := (List.getElem?_eq_some_iff.mp c1).1
    have hsl : ∀ i, i < r.2.2 → ev_isr (ev_ft (sK S k - 3) i) = true → sE S k i = sE S' k i := fun i hi hs => hE k hkz i (by
      have := st_rs_ok (sK S k - 3) hc13 i (Nat.lt_of_lt_of_le hi (vw_le c1)) hs (by simp only [st_rc, c1]; exact decide_eq_true hi)
      rw [Nat.sub_add_cancel e3] at this
      exact this)
    rw [← hK k hkz]
    refine ⟨r, c1, c2.to fun i hi => ?_⟩
    unfold ev_fv
    cases hs : ev_isr (ev_ft (sK S k - 3) i) with
    | false => rfl
    | true => dsimp only; rw [hsl i hi hs]
/-- the shape's check, by program -/
def st_c1 (z : Nat) (S : ev_S) : Bool := (sZ S == z) && (List.range (z + 1)).all (fun k => (sK S k == sh_K z k) && ((sL S k == sh_L k) && (!(sh_K z k == 2) || decide (sh_L k ≤ 6))))
def st_c2 (kp z : Nat) (S : ev_S) : Bool := (List.range (z + 1)).all (fun k => (st_rs.getD (sh_K z k) []).all (fun i => sE S k i == sh_E kp k i))
theorem st_c_s {kp z : Nat} {S S' : ev_S} {G : ev_G} {D : ev_D} {H : Heap} (h1 : st_c1 z S = true) (h2 : st_c2 kp z S = true) (hz : sZ S' = z) (hK : sK S' = sh_K z) (hL : sL S' = sh_L) (hE : sE S' = sh_E kp) (hW : ev_W G S D H) : ev_W G S' D H := by
  simp only [st_c1, st_c2, Bool.and_eq_true, beq_iff_eq, List.all_eq_true, List.mem_range, Bool.or_eq_true, Bool.not_eq_true', decide_eq_true_eq, beq_eq_false_iff_ne] at h1 h2
  obtain ⟨g1, g2⟩ := h1
  refine ev_convS (by rw [g1, hz]) (fun k hk => ?_) (fun k hk => ?_) (fun k hk => ?_) (fun k hk i hi => ?_) (fun k hk e => ?_) hW
  · rw [hK]; exact (g2 k (by omega)).1
  · rw [hK]; exact sh_K_out (by omega)
  · rw [hL]; exact (g2 k (by omega)).2.1
  · rw [hE]; exact h2 k (by omega) i (by rw [← (g2 k (by omega)).1]; exact hi)
  · rw [(g2 k (by omega)).2.1]
    rcases (g2 k (by omega)).2.2 with g | g
    · exact absurd ((g2 k (by omega)).1.symm.trans e) g
    · exact g
def st_S0 : ev_S := (0, fun _ => 0, fun _ => 0, fun _ _ => 0, 0, 0)
def st_D0 : ev_D := fun _ _ => 0
def st_R1 : Option ev_Rs := gX11_init [.ref 1] (ev_nO 11 7 st_S0) (ev_0 st_D0 1)
def st_R2 : Option ev_Rs := match st_R1 with
  | some (_, S, D) => gX12_init [.ref 132] (ev_nO 12 67 S) (ev_0 D 132)
  | none => none
set_option maxRecDepth 100000 in
theorem st_ok1 : (match st_R1 with
  | some (_, S, _) => (sZ S == 131) && (decide (sC S ≤ 200) && decide (sA S ≤ 6000))
  | none => false) = true := by decide +kernel
