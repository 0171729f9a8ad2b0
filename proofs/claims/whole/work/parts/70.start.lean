/-! ===== the start ===== -/
def st_zl : List (Nat × Nat) := [(3, 7), (5, 8), (6, 10), (7, 10), (8, 10), (9, 10), (10, 10), (133, 44), (136, 8), (137, 10), (138, 10), (139, 10), (151, 10), (161, 80), (163, 12), (167, 10), (168, 10), (38, 80), (39, 10), (40, 2)]
def st_zc (l : List (Nat × Nat)) (D : ev_D) : Bool := l.all fun e => (List.range e.2).all fun i => D e.1 i == 0
set_option maxRecDepth 100000 in
theorem st_z1 : st_on (fun _ D => st_zc st_zl D) = true := by decide +kernel
set_option maxRecDepth 100000 in
theorem st_z2 : st_on (fun _ D => st_zc [(12, 600)] D) = true := by decide +kernel
set_option maxRecDepth 100000 in
theorem st_z3 : st_on (fun _ D => st_zc [(140, 600)] D) = true := by decide +kernel
set_option maxRecDepth 100000 in
theorem st_z4 : st_on (fun _ D => st_zc [(106, 400)] D) = true := by decide +kernel
set_option maxRecDepth 100000 in
theorem st_z5 : st_on (fun _ D => st_zc [(141, 400)] D) = true := by decide +kernel
def st_nv : List Nat := [0, 1, 0, 2, 1, 2, 0, 1, 0, 2, 0, 1, 2, 1, 0, 2, 1, 2, 0, 1, 2, 1, 0, 2, 0, 1, 0, 2, 1, 2, 0, 1, 0, 2, 0, 1, 2, 1, 0, 2, 0, 1, 0, 2, 1, 2, 0, 1, 2, 1, 0, 2, 1, 2, 0, 1, 0, 2, 0, 1, 2, 1, 0, 2, 1, 2, 0, 1, 2, 1, 0, 2, 0, 1, 0, 2, 1, 2, 0, 1, 2, 1, 0, 2, 1, 2, 0, 1, 0, 2, 0, 1, 2, 1, 0, 2, 0, 1, 0, 2]
set_option maxRecDepth 100000 in
theorem st_n : st_on (fun _ D => (List.range 100).all fun h => D 131 h == nI (st_nv.getD h 0)) = true := by decide +kernel
set_option maxRecDepth 100000 in
theorem st_w : st_on (fun _ D => (List.range 152).all fun i => D 142 i == nI (wl.getD i 0)) = true := by decide +kernel
theorem st_nv_s : ∀ h, h < 99 → st_nv.getD (h + 1) 0 = lb2 (st_nv.getD h 0) (st_nv.getD ((h + 1) / 2) 0) := by decide +kernel
def st_vl : List (Nat × Nat × Int32) := [(4, 0, 1), (4, 1, 1), (4, 2, 1), (4, 3, 1), (4, 4, 1), (4, 5, 1), (4, 6, 1), (4, 7, 1), (11, 0, 0), (11, 1, 150), (14, 0, 0), (21, 0, 0), (21, 1, 16), (23, 0, 0), (23, 1, 16), (25, 0, 0), (25, 1, 16), (28, 0, 0), (28, 1, 10), (30, 0, 0), (30, 1, 6), (32, 0, 0), (32, 1, 16), (34, 0, 0), (34, 1, 24), (36, 0, 0), (36, 1, 20), (91, 1, 0), (91, 2, 0), (91, 3, (-1)), (100, 1, 16), (102, 1, 16), (104, 1, 16), (121, 0, 0), (121, 1, 0), (132, 3, 0), (132, 5, 0), (132, 7, 0), (132, 13, 0), (132, 33, 0), (132, 34, (-1)), (132, 35, 0), (132, 37, 0), (132, 39, 0), (132, 43, 0), (132, 45, 0), (132, 48, 0), (132, 53, 0), (132, 57, 0), (132, 59, 0), (132, 64, 0), (143, 0, 0)]
set_option maxRecDepth 100000 in
theorem st_v : st_on (fun _ D => st_dc st_vl D) = true := by decide +kernel
