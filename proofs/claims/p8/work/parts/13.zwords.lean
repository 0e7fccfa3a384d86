set_option maxRecDepth 20000 in
theorem xv_0 : Cond.methodLink RX11 344 Lib.Math.min.name ∈ xgt := wm_5 189 rfl rfl
set_option maxRecDepth 20000 in
theorem xv_1 : Cond.static Lib.Math.min.name ∈ xgt := wm_3 152 rfl rfl
set_option maxRecDepth 20000 in
theorem xv_2 : Cond.initialized "java/lang/Math" ∈ xgt := wm_1 20 rfl rfl
set_option maxRecDepth 20000 in
theorem xv_3 : Cond.code Lib.Math.min.name Lib.Math.min.code 2 (some .int) ∈ xgt := wm_3 153 rfl rfl
set_option maxRecDepth 20000 in
theorem xv_4 : Cond.methodLink RX1 119 Lib.Math.min.name ∈ xgt := wm_5 56 rfl rfl
set_option maxRecDepth 20000 in
theorem xv_5 : Cond.methodLink RX3 19 Lib.Math.min.name ∈ xgt := wm_5 129 rfl rfl
set_option maxRecDepth 20000 in
theorem xv_6 : Cond.methodLink RX4 107 Lib.Math.max.name ∈ xgt := wm_4 141 rfl rfl
set_option maxRecDepth 20000 in
theorem xv_7 : Cond.static Lib.Math.max.name ∈ xgt := wm_4 142 rfl rfl
set_option maxRecDepth 20000 in
theorem xv_8 : Cond.code Lib.Math.max.name Lib.Math.max.code 2 (some .int) ∈ xgt := wm_4 143 rfl rfl
set_option maxRecDepth 20000 in
theorem xv_9 : Cond.methodLink RX5 98 Lib.Math.max.name ∈ xgt := wm_4 197 rfl rfl
set_option maxRecDepth 20000 in
theorem xv_10 : Cond.methodLink RX5 103 Lib.Math.min.name ∈ xgt := wm_4 198 rfl rfl
set_option maxRecDepth 20000 in
theorem xv_11 : Cond.methodLink RX5 135 Lib.MathLoose.min_long.x ∈ xgt := wm_4 177 rfl rfl
set_option maxRecDepth 20000 in
theorem xv_12 : Cond.static Lib.MathLoose.min_long.x ∈ xgt := wm_4 178 rfl rfl
set_option maxRecDepth 20000 in
theorem xv_13 : Cond.code Lib.MathLoose.min_long.x Lib.MathLoose.min_long.code 4 (some .long) ∈ xgt := wm_4 179 rfl rfl
set_option maxRecDepth 20000 in
theorem xv_14 : Cond.methodLink RX5 138 Lib.MathLoose.max_long.x ∈ xgt := wm_4 180 rfl rfl
set_option maxRecDepth 20000 in
theorem xv_15 : Cond.static Lib.MathLoose.max_long.x ∈ xgt := wm_4 181 rfl rfl
set_option maxRecDepth 20000 in
theorem xv_16 : Cond.code Lib.MathLoose.max_long.x Lib.MathLoose.max_long.code 4 (some .long) ∈ xgt := wm_4 182 rfl rfl
set_option maxRecDepth 20000 in
theorem xv_17 : Cond.methodLink RX5 151 Lib.MathLoose.abs_long.x ∈ xgt := wm_4 171 rfl rfl
set_option maxRecDepth 20000 in
theorem xv_18 : Cond.static Lib.MathLoose.abs_long.x ∈ xgt := wm_4 172 rfl rfl
set_option maxRecDepth 20000 in
theorem xv_19 : Cond.code Lib.MathLoose.abs_long.x Lib.MathLoose.abs_long.code 2 (some .long) ∈ xgt := wm_4 173 rfl rfl
set_option maxRecDepth 20000 in
theorem xv_20 : Cond.methodLink RX7 69 Lib.Math.max.name ∈ xgt := wm_5 96 rfl rfl
set_option maxRecDepth 20000 in
theorem xv_21 : Cond.methodLink RX9 59 Lib.Math.min.name ∈ xgt := wm_3 151 rfl rfl
set_option maxRecDepth 20000 in
theorem xv_22 : Cond.methodLink RX12 375 Lib.MathLoose.max_long.x ∈ xgt := wm_8 45 rfl rfl
set_option maxRecDepth 20000 in
theorem xv_23 : Cond.methodLink RX12 403 Lib.Math.min.name ∈ xgt := wm_8 58 rfl rfl
set_option maxRecDepth 20000 in
theorem xv_24 : Cond.methodLink RX12 385 Lib.Math.max.name ∈ xgt := wm_8 25 rfl rfl
set_option maxRecDepth 20000 in
theorem xv_25 : Cond.methodLink RX12 371 Lib.MathLoose.min_long.x ∈ xgt := wm_8 44 rfl rfl
set_option maxRecDepth 20000 in
theorem xv_26 : Cond.methodLink RX12 355 Lib.MathLoose.abs_long.x ∈ xgt := wm_8 41 rfl rfl
