set_option maxRecDepth 100000 in
theorem tb_cg_all : (List.range 13).all tb_cg = true := by decide +kernel
