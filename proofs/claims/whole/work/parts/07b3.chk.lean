set_option maxRecDepth 100000 in
theorem tb_ck_33 : (List.range' 198 6).all tb_ck = true := by decide +kernel
set_option maxRecDepth 100000 in
theorem tb_ck_34 : (List.range' 204 6).all tb_ck = true := by decide +kernel
set_option maxRecDepth 100000 in
theorem tb_ck_35 : (List.range' 210 6).all tb_ck = true := by decide +kernel
set_option maxRecDepth 100000 in
theorem tb_ck_36 : (List.range' 216 6).all tb_ck = true := by decide +kernel
set_option maxRecDepth 100000 in
theorem tb_ck_37 : (List.range' 222 6).all tb_ck = true := by decide +kernel
set_option maxRecDepth 100000 in
theorem tb_ck_38 : (List.range' 228 6).all tb_ck = true := by decide +kernel
set_option maxRecDepth 100000 in
theorem tb_ck_39 : (List.range' 234 4).all tb_ck = true := by decide +kernel
set_option maxRecDepth 100000 in
theorem tb_mg_0 : (List.range' 0 60).all tb_mg = true := by decide +kernel
set_option maxRecDepth 100000 in
theorem tb_mg_1 : (List.range' 60 60).all tb_mg = true := by decide +kernel
set_option maxRecDepth 100000 in
theorem tb_mg_2 : (List.range' 120 60).all tb_mg = true := by decide +kernel
set_option maxRecDepth 100000 in
theorem tb_mg_3 : (List.range' 180 58).all tb_mg = true := by decide +kernel
