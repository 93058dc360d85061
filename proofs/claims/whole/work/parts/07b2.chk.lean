set_option maxRecDepth 100000 in
theorem tb_ck_22 : (List.range' 132 6).all tb_ck = true := by decide +kernel
set_option maxRecDepth 100000 in
theorem tb_ck_23 : (List.range' 138 6).all tb_ck = true := by decide +kernel
set_option maxRecDepth 100000 in
theorem tb_ck_24 : (List.range' 144 6).all tb_ck = true := by decide +kernel
set_option maxRecDepth 100000 in
theorem tb_ck_25 : (List.range' 150 6).all tb_ck = true := by decide +kernel
set_option maxRecDepth 100000 in
theorem tb_ck_26 : (List.range' 156 6).all tb_ck = true := by decide +kernel
set_option maxRecDepth 100000 in
theorem tb_ck_27 : (List.range' 162 6).all tb_ck = true := by decide +kernel
set_option maxRecDepth 100000 in
theorem tb_ck_28 : (List.range' 168 6).all tb_ck = true := by decide +kernel
set_option maxRecDepth 100000 in
theorem tb_ck_29 : (List.range' 174 6).all tb_ck = true := by decide +kernel
set_option maxRecDepth 100000 in
theorem tb_ck_30 : (List.range' 180 6).all tb_ck = true := by decide +kernel
set_option maxRecDepth 100000 in
theorem tb_ck_31 : (List.range' 186 6).all tb_ck = true := by decide +kernel
set_option maxRecDepth 100000 in
theorem tb_ck_32 : (List.range' 192 6).all tb_ck = true := by decide +kernel
