set_option maxRecDepth 100000 in
theorem tb_ck_0 : (List.range' 0 6).all tb_ck = true := by decide +kernel
set_option maxRecDepth 100000 in
theorem tb_ck_1 : (List.range' 6 6).all tb_ck = true := by decide +kernel
set_option maxRecDepth 100000 in
theorem tb_ck_2 : (List.range' 12 6).all tb_ck = true := by decide +kernel
set_option maxRecDepth 100000 in
theorem tb_ck_3 : (List.range' 18 6).all tb_ck = true := by decide +kernel
set_option maxRecDepth 100000 in
theorem tb_ck_4 : (List.range' 24 6).all tb_ck = true := by decide +kernel
set_option maxRecDepth 100000 in
theorem tb_ck_5 : (List.range' 30 6).all tb_ck = true := by decide +kernel
set_option maxRecDepth 100000 in
theorem tb_ck_6 : (List.range' 36 6).all tb_ck = true := by decide +kernel
set_option maxRecDepth 100000 in
theorem tb_ck_7 : (List.range' 42 6).all tb_ck = true := by decide +kernel
set_option maxRecDepth 100000 in
theorem tb_ck_8 : (List.range' 48 6).all tb_ck = true := by decide +kernel
set_option maxRecDepth 100000 in
theorem tb_ck_9 : (List.range' 54 6).all tb_ck = true := by decide +kernel
set_option maxRecDepth 100000 in
theorem tb_ck_10 : (List.range' 60 6).all tb_ck = true := by decide +kernel
