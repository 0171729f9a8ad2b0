/-! ===== a method's frames, whatever is below: the rules ===== -/
def ev_rt (ret : Option FieldType) (v : Int32) : Option Value := match ret with
  | none => none
  | some _ => some (.int v)
def ev_ps (ret : Option FieldType) (v : Int32) (st : List Value) : List Value := match ret with
  | none => st
  | some _ => .int v :: st
def ev_Q (G : ev_G) (ret : Option FieldType) (S' : ev_S) (r : Int32 × ev_D) : Array Value → State → Outcome → State → Prop := fun _ st oc t => oc = .returned (ev_rt ret r.1) ∧ ev_W G S' r.2 t.heap ∧ va_F (fun q => gB G < q) st t
def ev_Pc (G : ev_G) (vs : List Value) (S : ev_S) (D : ev_D) : Array Value → State → Prop := va_Pc (vs.map (ev_v (gB G))) (fun U => (gS G).WarmedH U.vm ∧ ev_W G S D U.heap)
/-- a method's contract: from the picture (S, D) with the values vs it comes back with r.1 and the picture (S', r.2); d frames at most, N cells of NS slots at most are new -/
def ev_M (d N NS : Nat) (y : MethodName) (bs : ByteArray) (nL : Nat) (ret : Option FieldType) (vs : List Value) (S : ev_S) (D : ev_D) (S' : ev_S) (r : Int32 × ev_D) : Prop :=
  ∀ (l : Launch) (G : ev_G), ev_T G → ∀ d', d ≤ d' → Met l y [.code y bs nL ret] { frames := d', cells := N, slots := NS, locals := 100 * d' } (ev_Pc G vs S D) (ev_Q G ret S' r) N NS (fun q => gB G < q)
def ev_cx (own : String) (cc : ByteArray) (nL d N NS : Nat) (ini : Bool) (p : Program) (R : Room) (s : State) (m : MethodId) (meth : Method) (c : Code) (G : ev_G) : Prop :=
  p.tables.exec = Jvm.exec ∧ c.code = cc ∧ c.maxLocals = nL ∧ s.vm.findClass own = some m.cls ∧ (gS G).WarmedH s.vm ∧ ev_T G ∧ (d ≤ R.frames ∧ 100 * d ≤ R.locals ∧ R.cells = N ∧ R.slots = NS) ∧ (ini = true → meth.name = "<init>") ∧ gB G < s.heap.size
def ev_X (own : String) (cc : ByteArray) (nL d N NS : Nat) (ini : Bool) (F : ev_Fr) : Prop := ∃ (p : Program) (l : Launch) (e : Env) (R : Room) (s : State) (m : MethodId) (args : Array Value) (below : List Frame) (meth : Method) (c : Code) (G : ev_G) (Q : State → Prop), ev_cx own cc nL d N NS ini p R s m meth c G ∧ F = ev_F p l e R s m args below meth c G nL Q
def ev_R (own : String) (cc : ByteArray) (nL d N NS : Nat) (ini : Bool) (ret : Option FieldType) (S' : ev_S) (r : Int32 × ev_D) (F : ev_Fr) : Prop := ∃ (p : Program) (l : Launch) (e : Env) (R : Room) (s : State) (m : MethodId) (args : Array Value) (below : List Frame) (meth : Method) (c : Code) (G : ev_G), ev_cx own cc nL d N NS ini p R s m meth c G ∧ meth.sig.returnType = ret ∧ meth.locks = false ∧
  F = ev_F p l e R s m args below meth c G nL (MQ below (ev_Q G ret S' r) args s N NS (fun q => gB G < q))
section Rules
variable {own : String} {cc : ByteArray} {nL d N NS : Nat} {ini : Bool} {ret : Option FieldType} {S S' : ev_S} {r : Int32 × ev_D} {F : ev_Fr} {D D' : ev_D} {pc pc' : Nat} {lv lv' : ev_V} {st st' : List Value}
theorem ev_R.X (h : ev_R own cc nL d N NS ini ret S' r F) : ev_X own cc nL d N NS ini F := by
  obtain ⟨p, l, e, R, s, m, args, below, meth, c, G, h1, -, -, h4⟩ := h
  exact ⟨p, l, e, R, s, m, args, below, meth, c, G, _, h1, h4⟩
/-- less is known of the locals -/
def ev_le (lv' lv : ev_V) : Prop := ∀ (i : Nat) (v : Value), lv'[i]? = some (some v) → lv[i]? = some (some v)
theorem ev_le_nil {lv : ev_V} : ev_le [] lv := fun i v h => by simp at h
theorem ev_le_no {lv' lv : ev_V} {x : Option Value} (h : ev_le lv' lv) : ev_le (none :: lv') (x :: lv) := fun i v hi => by
  cases i with
  | zero => simp at hi
  | succ i => simpa using h i v (by simpa using hi)
theorem ev_le_eq {lv' lv : ev_V} {x : Option Value} (h : ev_le lv' lv) : ev_le (x :: lv') (x :: lv) := fun i v hi => by
  cases i with
  | zero => simpa using hi
  | succ i => simpa using h i v (by simpa using hi)
theorem ev_weak (hX : ev_X own cc nL d N NS ini F) (h : ev_le lv' lv) (kk : F S D pc lv' st) : F S D pc lv st := by
  obtain ⟨p, l, e, R, s, m, args, below, meth, c, G, Q, -, rfl⟩ := hX
  exact fun H locs ls hW hS hL => kk H locs ls hW hS ⟨hL.1, hL.2.1, fun i v hi => hL.2.2 i v (h i v hi)⟩
theorem ev_blk (hX : ev_X own cc nL d N NS ini F) {lk : ev_LK} (hlk : ev_lkok own lk) (is : List ev_I) (hc : ev_chk cc lk nL pc is = true) {g : Bool} (hb : ev_bk S is lv st D = some (g, lv', st', D')) (hg : g = true) (hp : pc + ev_lens is = pc') (kk : F S D' pc' lv' st') : F S D pc lv st := by
  obtain ⟨p, l, e, R, s, m, args, below, meth, c, G, Q, ⟨hx, hbb, -, hown, hWm, hT, -⟩, rfl⟩ := hX
  subst hg; subst hp
  exact ev_blk0 hx hbb hown hT hWm hlk is pc lv st D lv' st' D' hc hb kk
theorem ev_goto (hX : ev_X own cc nL d N NS ini F) {off : Int} (tgt : Nat) (hdg : decode cc pc = .ok (.goto off, 3)) (ht : (pc : Int) + off = (tgt : Int)) (kk : F S D tgt lv st) : F S D pc lv st := by
  obtain ⟨p, l, e, R, s, m, args, below, meth, c, G, Q, ⟨hx, hb, -⟩, rfl⟩ := hX
  exact fun H locs ls hW hS hL => lv_goto hx hb hdg ht (kk H locs ls hW hS hL)
theorem ev_if_eq (hX : ev_X own cc nL d N NS ini F) {x : Int32} {off : Int} (tgt : Nat) (hdg : decode cc pc = .ok (.ifCond .eq off, 3)) (ht : (pc : Int) + off = (tgt : Int)) (kt : x = 0 → F S D tgt lv st) (kf : ¬ x = 0 → F S D (pc + 3) lv st) : F S D pc lv (.int x :: st) := by
  obtain ⟨p, l, e, R, s, m, args, below, meth, c, G, Q, ⟨hx, hb, -⟩, rfl⟩ := hX
  exact fun H locs ls hW hS hL => lv_if_eq hx hb hdg ht (fun h => kt h H locs ls hW hS hL) (fun h => kf h H locs ls hW hS hL)
theorem ev_ic_eq (hX : ev_X own cc nL d N NS ini F) {x y : Int32} {off : Int} (tgt : Nat) (hdg : decode cc pc = .ok (.if_icmp .eq off, 3)) (ht : (pc : Int) + off = (tgt : Int)) (kt : x = y → F S D tgt lv st) (kf : ¬ x = y → F S D (pc + 3) lv st) : F S D pc lv (.int y :: .int x :: st) := by
  obtain ⟨p, l, e, R, s, m, args, below, meth, c, G, Q, ⟨hx, hb, -⟩, rfl⟩ := hX
  exact fun H locs ls hW hS hL => lv_icmp_eq hx hb hdg ht (fun h => kt h H locs ls hW hS hL) (fun h => kf h H locs ls hW hS hL)
theorem ev_if_ne (hX : ev_X own cc nL d N NS ini F) {x : Int32} {off : Int} (tgt : Nat) (hdg : decode cc pc = .ok (.ifCond .ne off, 3)) (ht : (pc : Int) + off = (tgt : Int)) (kt : ¬ x = 0 → F S D tgt lv st) (kf : x = 0 → F S D (pc + 3) lv st) : F S D pc lv (.int x :: st) := by
  obtain ⟨p, l, e, R, s, m, args, below, meth, c, G, Q, ⟨hx, hb, -⟩, rfl⟩ := hX
  exact fun H locs ls hW hS hL => lv_if_ne hx hb hdg ht (fun h => kt h H locs ls hW hS hL) (fun h => kf h H locs ls hW hS hL)
theorem ev_ic_ne (hX : ev_X own cc nL d N NS ini F) {x y : Int32} {off : Int} (tgt : Nat) (hdg : decode cc pc = .ok (.if_icmp .ne off, 3)) (ht : (pc : Int) + off = (tgt : Int)) (kt : ¬ x = y → F S D tgt lv st) (kf : x = y → F S D (pc + 3) lv st) : F S D pc lv (.int y :: .int x :: st) := by
  obtain ⟨p, l, e, R, s, m, args, below, meth, c, G, Q, ⟨hx, hb, -⟩, rfl⟩ := hX
  exact fun H locs ls hW hS hL => lv_icmp_ne hx hb hdg ht (fun h => kt h H locs ls hW hS hL) (fun h => kf h H locs ls hW hS hL)
theorem ev_if_lt (hX : ev_X own cc nL d N NS ini F) {x : Int32} {off : Int} (tgt : Nat) (hdg : decode cc pc = .ok (.ifCond .lt off, 3)) (ht : (pc : Int) + off = (tgt : Int)) (kt : x < 0 → F S D tgt lv st) (kf : ¬ x < 0 → F S D (pc + 3) lv st) : F S D pc lv (.int x :: st) := by
  obtain ⟨p, l, e, R, s, m, args, below, meth, c, G, Q, ⟨hx, hb, -⟩, rfl⟩ := hX
  exact fun H locs ls hW hS hL => lv_if_lt hx hb hdg ht (fun h => kt h H locs ls hW hS hL) (fun h => kf h H locs ls hW hS hL)
theorem ev_ic_lt (hX : ev_X own cc nL d N NS ini F) {x y : Int32} {off : Int} (tgt : Nat) (hdg : decode cc pc = .ok (.if_icmp .lt off, 3)) (ht : (pc : Int) + off = (tgt : Int)) (kt : x < y → F S D tgt lv st) (kf : ¬ x < y → F S D (pc + 3) lv st) : F S D pc lv (.int y :: .int x :: st) := by
  obtain ⟨p, l, e, R, s, m, args, below, meth, c, G, Q, ⟨hx, hb, -⟩, rfl⟩ := hX
  exact fun H locs ls hW hS hL => lv_icmp_lt hx hb hdg ht (fun h => kt h H locs ls hW hS hL) (fun h => kf h H locs ls hW hS hL)
theorem ev_if_ge (hX : ev_X own cc nL d N NS ini F) {x : Int32} {off : Int} (tgt : Nat) (hdg : decode cc pc = .ok (.ifCond .ge off, 3)) (ht : (pc : Int) + off = (tgt : Int)) (kt : 0 ≤ x → F S D tgt lv st) (kf : ¬ 0 ≤ x → F S D (pc + 3) lv st) : F S D pc lv (.int x :: st) := by
  obtain ⟨p, l, e, R, s, m, args, below, meth, c, G, Q, ⟨hx, hb, -⟩, rfl⟩ := hX
  exact fun H locs ls hW hS hL => lv_if_ge hx hb hdg ht (fun h => kt h H locs ls hW hS hL) (fun h => kf h H locs ls hW hS hL)
theorem ev_ic_ge (hX : ev_X own cc nL d N NS ini F) {x y : Int32} {off : Int} (tgt : Nat) (hdg : decode cc pc = .ok (.if_icmp .ge off, 3)) (ht : (pc : Int) + off = (tgt : Int)) (kt : y ≤ x → F S D tgt lv st) (kf : ¬ y ≤ x → F S D (pc + 3) lv st) : F S D pc lv (.int y :: .int x :: st) := by
  obtain ⟨p, l, e, R, s, m, args, below, meth, c, G, Q, ⟨hx, hb, -⟩, rfl⟩ := hX
  exact fun H locs ls hW hS hL => lv_icmp_ge hx hb hdg ht (fun h => kt h H locs ls hW hS hL) (fun h => kf h H locs ls hW hS hL)
theorem ev_if_gt (hX : ev_X own cc nL d N NS ini F) {x : Int32} {off : Int} (tgt : Nat) (hdg : decode cc pc = .ok (.ifCond .gt off, 3)) (ht : (pc : Int) + off = (tgt : Int)) (kt : 0 < x → F S D tgt lv st) (kf : ¬ 0 < x → F S D (pc + 3) lv st) : F S D pc lv (.int x :: st) := by
  obtain ⟨p, l, e, R, s, m, args, below, meth, c, G, Q, ⟨hx, hb, -⟩, rfl⟩ := hX
  exact fun H locs ls hW hS hL => lv_if_gt hx hb hdg ht (fun h => kt h H locs ls hW hS hL) (fun h => kf h H locs ls hW hS hL)
theorem ev_ic_gt (hX : ev_X own cc nL d N NS ini F) {x y : Int32} {off : Int} (tgt : Nat) (hdg : decode cc pc = .ok (.if_icmp .gt off, 3)) (ht : (pc : Int) + off = (tgt : Int)) (kt : y < x → F S D tgt lv st) (kf : ¬ y < x → F S D (pc + 3) lv st) : F S D pc lv (.int y :: .int x :: st) := by
  obtain ⟨p, l, e, R, s, m, args, below, meth, c, G, Q, ⟨hx, hb, -⟩, rfl⟩ := hX
  exact fun H locs ls hW hS hL => lv_icmp_gt hx hb hdg ht (fun h => kt h H locs ls hW hS hL) (fun h => kf h H locs ls hW hS hL)
theorem ev_if_le (hX : ev_X own cc nL d N NS ini F) {x : Int32} {off : Int} (tgt : Nat) (hdg : decode cc pc = .ok (.ifCond .le off, 3)) (ht : (pc : Int) + off = (tgt : Int)) (kt : x ≤ 0 → F S D tgt lv st) (kf : ¬ x ≤ 0 → F S D (pc + 3) lv st) : F S D pc lv (.int x :: st) := by
  obtain ⟨p, l, e, R, s, m, args, below, meth, c, G, Q, ⟨hx, hb, -⟩, rfl⟩ := hX
  exact fun H locs ls hW hS hL => lv_if_le hx hb hdg ht (fun h => kt h H locs ls hW hS hL) (fun h => kf h H locs ls hW hS hL)
theorem ev_ic_le (hX : ev_X own cc nL d N NS ini F) {x y : Int32} {off : Int} (tgt : Nat) (hdg : decode cc pc = .ok (.if_icmp .le off, 3)) (ht : (pc : Int) + off = (tgt : Int)) (kt : x ≤ y → F S D tgt lv st) (kf : ¬ x ≤ y → F S D (pc + 3) lv st) : F S D pc lv (.int y :: .int x :: st) := by
  obtain ⟨p, l, e, R, s, m, args, below, meth, c, G, Q, ⟨hx, hb, -⟩, rfl⟩ := hX
  exact fun H locs ls hW hS hL => lv_icmp_le hx hb hdg ht (fun h => kt h H locs ls hW hS hL) (fun h => kf h H locs ls hW hS hL)
theorem ev_nonnull (hX : ev_X own cc nL d N NS ini F) {q : Nat} {off : Int} (tgt : Nat) (hdg : decode cc pc = .ok (.ifnonnull off, 3)) (ht : (pc : Int) + off = (tgt : Int)) (kt : ¬ q = 0 → F S D tgt lv st) (kf : q = 0 → F S D (pc + 3) lv st) : F S D pc lv (.ref q :: st) := by
  obtain ⟨p, l, e, R, s, m, args, below, meth, c, G, Q, ⟨hx, hb, -⟩, rfl⟩ := hX
  intro H locs ls hW hS hL
  by_cases hq : q = 0
  · have e1 : ev_v (gB G) (.ref q) = .null := by simp [ev_v, ev_rf, hq]
    rw [List.map_cons, e1]
    exact lv_ifnonnullN hx hb hdg (kf hq H locs ls hW hS hL)
  · have e1 : ev_v (gB G) (.ref q) = .ref (gB G + q) := by simp [ev_v, ev_rf, hq]
    rw [List.map_cons, e1]
    exact lv_ifnonnull hx hb hdg ht (kt hq H locs ls hW hS hL)
theorem ev_tblIn (hX : ev_X own cc nL d N NS ini F) {dflt lo hi : Int} {offs : Array Int} {len : Nat} {x : Int32} {off : Int} (tgt : Nat) (hdg : decode cc pc = .ok (.tableswitch dflt lo hi offs, len)) (h1 : ¬ x.toInt < lo) (h2 : ¬ hi < x.toInt) (ho : offs[(x.toInt - lo).toNat]? = some off) (ht : (pc : Int) + off = (tgt : Int)) (kk : F S D tgt lv st) : F S D pc lv (.int x :: st) := by
  obtain ⟨p, l, e, R, s, m, args, below, meth, c, G, Q, ⟨hx, hb, -⟩, rfl⟩ := hX
  exact fun H locs ls hW hS hL => lv_tableIn hx hb hdg h1 h2 ho ht (kk H locs ls hW hS hL)
theorem ev_tblOut (hX : ev_X own cc nL d N NS ini F) {dflt lo hi : Int} {offs : Array Int} {len : Nat} {x : Int32} (tgt : Nat) (hdg : decode cc pc = .ok (.tableswitch dflt lo hi offs, len)) (h : x.toInt < lo ∨ hi < x.toInt) (ht : (pc : Int) + dflt = (tgt : Int)) (kk : F S D tgt lv st) : F S D pc lv (.int x :: st) := by
  obtain ⟨p, l, e, R, s, m, args, below, meth, c, G, Q, ⟨hx, hb, -⟩, rfl⟩ := hX
  exact fun H locs ls hW hS hL => lv_tableOut hx hb hdg h ht (kk H locs ls hW hS hL)
theorem ev_lookup (hX : ev_X own cc nL d N NS ini F) {dflt : Int} {ps : Array (Int × Int)} {len : Nat} {x : Int32} {off : Int} (tgt : Nat) (hdg : decode cc pc = .ok (.lookupswitch dflt ps, len)) (hp : (ps.toList.zip (ps.toList.drop 1)).all (fun (a, next) => a.1 < next.1) = true) (ho : Op.lookupswitch.offset ps.toList dflt x.toInt = off) (ht : (pc : Int) + off = (tgt : Int)) (kk : F S D tgt lv st) : F S D pc lv (.int x :: st) := by
  obtain ⟨p, l, e, R, s, m, args, below, meth, c, G, Q, ⟨hx, hb, -⟩, rfl⟩ := hX
  exact fun H locs ls hW hS hL => lv_lookup hx hb hdg hp ho ht (kk H locs ls hW hS hL)
theorem ev_ne {x k : Int32} (h : ¬ x = k) : x.toInt ≠ k.toInt := fun e => h (Int32.toInt_inj.mp e)
/-! returns -/
def ev_sm (S S' : ev_S) : Prop := sZ S = sZ S' ∧ sK S = sK S' ∧ sL S = sL S' ∧ sE S = sE S'
theorem ev_sm.W {G : ev_G} {H : Heap} (h : ev_sm S S') (hW : ev_W G S D H) : ev_W G S' D H := by
  obtain ⟨h1, h2, h3, h4⟩ := h
  refine ⟨by rw [← h1]; exact hW.1, fun k hk => ?_, hW.2.2⟩
  obtain ⟨a, b, cc⟩ := hW.2.1 k (by rw [h2]; exact hk)
  exact ⟨a, by rw [← h1]; exact b, ev_at_kept cc rfl (by rw [h2]) (by rw [h3]) (by rw [h4]) rfl⟩
theorem ev_sm.rf : ev_sm S S := ⟨rfl, rfl, rfl, rfl⟩
theorem ev_iret (hR : ev_R own cc nL d N NS ini (some .int) S' r F) {v : Int32} (hS : ev_sm S S') (hr : (v, D) = r) (hC : sC S ≤ N ∧ sA S ≤ NS) (hdg : decode cc pc = .ok (.ireturn, 1)) : F S D pc lv [.int v] := by
  obtain ⟨p, l, e, R, s, m, args, below, meth, c, G, ⟨hx, hb, -⟩, hret, hlocks, rfl⟩ := hR
  intro H locs ls hW hSS hL
  subst hr
  refine W.widen hC.1 hC.2 ?_
  exact W.iret hx hb hret (fun t ht hWm => ⟨rfl, by rw [ht]; exact hS.W hW, hSS.F ht⟩) hSS.2.2 hdg
theorem ev_zret (hR : ev_R own cc nL d N NS ini (some .boolean) S' r F) {v : Int32} (hS : ev_sm S S') (hv : v = 0 ∨ v = 1) (hr : (v, D) = r) (hC : sC S ≤ N ∧ sA S ≤ NS) (hdg : decode cc pc = .ok (.ireturn, 1)) : F S D pc lv [.int v] := by
  obtain ⟨p, l, e, R, s, m, args, below, meth, c, G, ⟨hx, hb, -⟩, hret, hlocks, rfl⟩ := hR
  intro H locs ls hW hSS hL
  subst hr
  refine W.widen hC.1 hC.2 ?_
  exact W.zret hx hb hret (by rcases hv with rfl | rfl <;> rfl) (fun t ht hWm => ⟨rfl, by rw [ht]; exact hS.W hW, hSS.F ht⟩) hSS.2.2 hdg
theorem ev_vret (hR : ev_R own cc nL d N NS ini none S' r F) (hS : ev_sm S S') (hr : (0, D) = r) (hC : sC S ≤ N ∧ sA S ≤ NS) (hdg : decode cc pc = .ok (.return_, 1)) : F S D pc lv [] := by
  obtain ⟨p, l, e, R, s, m, args, below, meth, c, G, ⟨hx, hb, -⟩, hret, hlocks, rfl⟩ := hR
  intro H locs ls hW hSS hL
  subst hr
  refine W.widen hC.1 hC.2 ?_
  exact W.vret hx hb hret (fun t ht hWm => ⟨rfl, by rw [ht]; exact hS.W hW, hSS.F ht⟩) hSS.2.2 hdg
/-! the entry -/
def ev_plain (v : Value) : Bool := match v with
  | .int _ => true
  | .ref _ => true
  | _ => false
theorem ev_plain_cat {v : Value} (h : ev_plain v = true) (b : Nat) : (ev_v b v).category = 1 := by
  cases v <;> first | rfl | exact ev_cat_ref _ _ | (cases h)
theorem ev_lv_args {b : Nat} : ∀ (vs : List Value) (i : Nat), (∀ v ∈ vs, ev_plain v = true) → ∀ (k : Nat) (v : Value), vs[k]? = some v → (i + k, ev_v b v) ∈ lv_args i (vs.map (ev_v b))
  | [], i, _, k, v, h => by simp at h
  | w :: vs, i, hp, k, v, h => by
    have hc := ev_plain_cat (hp w List.mem_cons_self) b
    rw [List.map_cons, lv_args, hc, if_neg (by decide)]
    cases k with
    | zero =>
      have e : w = v := by simpa using h
      subst e
      exact List.mem_cons_self
    | succ k =>
      refine List.mem_cons_of_mem _ ?_
      have := ev_lv_args (b := b) vs (i + 1) (fun v hv => hp v (List.mem_cons_of_mem _ hv)) k v (by simpa using h)
      rw [show i + (k + 1) = i + 1 + k by omega]
      exact this
theorem ev_lg_len {b : Nat} : ∀ (vs : List Value), (∀ v ∈ vs, ev_plain v = true) → (lg_sl (vs.map (ev_v b))).length = vs.length
  | [], _ => rfl
  | w :: vs, hp => by
    have hc := ev_plain_cat (hp w List.mem_cons_self) b
    have ih := ev_lg_len (b := b) vs (fun v hv => hp v (List.mem_cons_of_mem _ hv))
    simp only [lg_sl, List.map_cons, List.flatMap_cons, hc] at ih ⊢
    simp [ih]
    try omega
def ev_z (S : ev_S) : ev_S := (sZ S, sK S, sL S, sE S, 0, 0)
theorem ev_ofW {l : Launch} {y : MethodName} {ws ws' : List Cond} {rm : Room} {Pc : Array Value → State → Prop} {Qc : Array Value → State → Outcome → State → Prop} {mc ms : Nat} {free : Addr → Prop} {cc : ByteArray} {maxL : Nat} {ret : Option FieldType}
    (hy : plainFor y = true) (hw : ws = Cond.code y cc maxL ret :: ws')
    (body : ∀ p e s m args below meth c s₁, BodyLoose p l y (headSpec ws rm) cc maxL ret e s m args below meth c s₁ → c.maxLocals = maxL → Pc args s →
      W p l e (headSpec ws rm).room s m args below meth c s.heap [] 0 0 (MQ below Qc args s mc ms free) (entryFrame m args maxL)) : Met l y ws rm Pc Qc mc ms free := by
  refine MetFree.of_bodySF (code := cc) (maxLocals := maxL) (ret := ret) hy ?_ ?_
  · intro args s m h hn
    obtain ⟨meth, c, h1, h2, h3, h4, h5, h6, -, -⟩ := Cond.code_spec hn (atoms_spec (ws := ws) h _ (by rw [hw]; exact List.mem_cons_self))
    exact ⟨meth, c, h1, h2, h3, h4, h5, h6⟩
  · intro p e s m args below meth c s₁ B hml hP _
    have hh0 : s₁.heap = s.heap := by rw [B.state]; rfl
    obtain ⟨t, a1, o, b1, b2, b3⟩ := body p e s m args below meth c s₁ B hml hP s₁ hh0 (Stand.of_body B)
    exact ⟨t, o, a1, b1, b2, ⟨b3.1, b3.2⟩⟩
theorem ev_met {y : MethodName} {vs : List Value} (hy : plainFor y = true) (hini : ini = true → y.name = "<init>") (hvs : vs.all ev_plain = true) (hlen : vs.length ≤ nL)
    (h : ∀ F : ev_Fr, ev_R y.cls cc nL d N NS ini ret S' r F → F (ev_z S) D 0 (vs.map some ++ List.replicate (nL - vs.length) none) []) : ev_M d N NS y cc nL ret vs S D S' r := by
  intro l G hT d' hd
  have hpl : ∀ v ∈ vs, ev_plain v = true := fun v hv => List.all_eq_true.mp hvs v hv
  refine ev_ofW (cc := cc) (maxL := nL) (ret := ret) hy rfl ?_
  intro p e s m args below meth c s₁ B hml hv
  obtain ⟨rfl, hWm, hW⟩ := hv
  have hown : s.vm.findClass y.cls = some m.cls := findClass_of_methodNamed B.named
  have hsz := ev_size hW
  have key := h (ev_F p l e (headSpec [.code y cc nL ret] { frames := d', cells := N, slots := NS, locals := 100 * d' }).room s m _ below meth c G nL (MQ below (ev_Q G ret S' r) (vs.map (ev_v (gB G))).toArray s N NS (fun q => gB G < q)))
    ⟨p, l, e, _, s, m, _, below, meth, c, G, ⟨B.exec, B.bytes, hml, hown, hWm, hT, ⟨hd, Nat.mul_le_mul_left 100 hd, rfl, rfl⟩, fun hi => (name_of_methodNamed B.named B.method).1.trans (hini hi), hsz⟩, B.returns, B.notSynchronized, rfl⟩
  rw [lg_entry_eq]
  have hl := lv_entry (vs.map (ev_v (gB G))) (n := nL) (by rw [ev_lg_len vs hpl]; exact hlen)
  refine key s.heap [] _ ?_ va_S.rf ⟨hl.1, hl.2.1, fun i v hi => ?_⟩
  · exact ev_sm.W ⟨rfl, rfl, rfl, rfl⟩ hW
  · have hi2 : vs[i]? = some v := by
      by_cases hlt : i < vs.length
      · rw [List.getElem?_append_left (by simpa using hlt), List.getElem?_map] at hi
        cases hv : vs[i]? with
        | none => rw [hv] at hi; cases hi
        | some w => rw [hv] at hi; simp at hi; rw [hi]
      · rw [List.getElem?_append_right (by simpa using Nat.le_of_not_lt hlt)] at hi
        have := List.mem_of_getElem? hi
        simp at this
    have hm := ev_lv_args (b := gB G) vs 0 hpl i v hi2
    rw [Nat.zero_add] at hm
    exact ⟨hl.2.2 _ hm, ev_plain_cat (hpl v (List.mem_of_getElem? hi2)) _⟩
end Rules
