set_option maxRecDepth 100000 in
theorem pkX12_init_18 : tbX12_init_18.all (ev_pk cX12_init lk_RX12 1) = true := by decide +kernel
set_option maxRecDepth 100000 in
theorem pkX12_init_19 : tbX12_init_19.all (ev_pk cX12_init lk_RX12 1) = true := by decide +kernel
set_option maxRecDepth 100000 in
theorem pkX12_init_20 : tbX12_init_20.all (ev_pk cX12_init lk_RX12 1) = true := by decide +kernel
set_option maxRecDepth 100000 in
theorem pkX12_init_21 : tbX12_init_21.all (ev_pk cX12_init lk_RX12 1) = true := by decide +kernel
set_option maxRecDepth 100000 in
theorem pkX12_init_22 : tbX12_init_22.all (ev_pk cX12_init lk_RX12 1) = true := by decide +kernel
set_option maxRecDepth 100000 in
theorem pkX12_init_23 : tbX12_init_23.all (ev_pk cX12_init lk_RX12 1) = true := by decide +kernel
