set_option maxRecDepth 100000 in
theorem pkX12_init_12 : tbX12_init_12.all (ev_pk cX12_init lk_RX12 1) = true := by decide +kernel
set_option maxRecDepth 100000 in
theorem pkX12_init_13 : tbX12_init_13.all (ev_pk cX12_init lk_RX12 1) = true := by decide +kernel
set_option maxRecDepth 100000 in
theorem pkX12_init_14 : tbX12_init_14.all (ev_pk cX12_init lk_RX12 1) = true := by decide +kernel
set_option maxRecDepth 100000 in
theorem pkX12_init_15 : tbX12_init_15.all (ev_pk cX12_init lk_RX12 1) = true := by decide +kernel
set_option maxRecDepth 100000 in
theorem pkX12_init_16 : tbX12_init_16.all (ev_pk cX12_init lk_RX12 1) = true := by decide +kernel
set_option maxRecDepth 100000 in
theorem pkX12_init_17 : tbX12_init_17.all (ev_pk cX12_init lk_RX12 1) = true := by decide +kernel
