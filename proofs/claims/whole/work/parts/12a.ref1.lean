set_option maxRecDepth 100000 in
theorem pkX12_init_6 : tbX12_init_6.all (ev_pk cX12_init lk_RX12 1) = true := by decide +kernel
set_option maxRecDepth 100000 in
theorem pkX12_init_7 : tbX12_init_7.all (ev_pk cX12_init lk_RX12 1) = true := by decide +kernel
set_option maxRecDepth 100000 in
theorem pkX12_init_8 : tbX12_init_8.all (ev_pk cX12_init lk_RX12 1) = true := by decide +kernel
set_option maxRecDepth 100000 in
theorem pkX12_init_9 : tbX12_init_9.all (ev_pk cX12_init lk_RX12 1) = true := by decide +kernel
set_option maxRecDepth 100000 in
theorem pkX12_init_10 : tbX12_init_10.all (ev_pk cX12_init lk_RX12 1) = true := by decide +kernel
set_option maxRecDepth 100000 in
theorem pkX12_init_11 : tbX12_init_11.all (ev_pk cX12_init lk_RX12 1) = true := by decide +kernel
