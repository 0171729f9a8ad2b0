set_option maxRecDepth 100000 in
theorem pkX12_init_24 : tbX12_init_24.all (ev_pk cX12_init lk_RX12 1) = true := by decide +kernel
set_option maxRecDepth 100000 in
theorem pkX12_init_25 : tbX12_init_25.all (ev_pk cX12_init lk_RX12 1) = true := by decide +kernel
