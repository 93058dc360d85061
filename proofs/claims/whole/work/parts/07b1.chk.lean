set_option maxRecDepth 100000 in
theorem tb_ck_11 : (List.range' 66 6).all tb_ck = true := by decide +kernel
set_option maxRecDepth 100000 in
theorem tb_ck_12 : (List.range' 72 6).all tb_ck = true := by decide +kernel
set_option maxRecDepth 100000 in
theorem tb_ck_13 : (List.range' 78 6).all tb_ck = true := by decide +kernel
set_option maxRecDepth 100000 in
theorem tb_ck_14 : (List.range' 84 6).all tb_ck = true := by decide +kernel
set_option maxRecDepth 100000 in
theorem tb_ck_15 : (List.range' 90 6).all tb_ck = true := by decide +kernel
set_option maxRecDepth 100000 in
theorem tb_ck_16 : (List.range' 96 6).all tb_ck = true := by decide +kernel
set_option maxRecDepth 100000 in
theorem tb_ck_17 : (List.range' 102 6).all tb_ck = true := by decide +kernel
set_option maxRecDepth 100000 in
theorem tb_ck_18 : (List.range' 108 6).all tb_ck = true := by decide +kernel
set_option maxRecDepth 100000 in
theorem tb_ck_19 : (List.range' 114 6).all tb_ck = true := by decide +kernel
set_option maxRecDepth 100000 in
theorem tb_ck_20 : (List.range' 120 6).all tb_ck = true := by decide +kernel
set_option maxRecDepth 100000 in
theorem tb_ck_21 : (List.range' 126 6).all tb_ck = true := by decide +kernel
