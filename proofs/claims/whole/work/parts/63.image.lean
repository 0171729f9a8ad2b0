/-! ===== image: the class's first one makes a world ===== -/
def im_S1 : ev_S := ev_nO 10 4 (sh_S 0)
def im_R (D : ev_D) : Option ev_Rs := gX10_init [.ref 171] im_S1 (ev_0 D 171)
set_option maxRecDepth 100000 in
set_option maxHeartbeats 2000000 in
theorem im_some (D : ev_D) : (im_R D).isSome = true := by rfl
