theorem xcnz {α : Type} {a : α} {l : List α} {Q : α → Prop} (h : Q a) (t : ∀ q ∈ l, Q q) : ∀ q ∈ a :: l, Q q := List.forall_mem_cons.mpr ⟨h, t⟩
theorem xnlz {α : Type} {Q : α → Prop} : ∀ q ∈ ([] : List α), Q q := fun _ h => absurd h List.not_mem_nil
set_option maxRecDepth 20000 in
theorem xiw_X0_0 : u_lay RX0 TX0 0 ∈ xgt := (show Cond.laysFinal RX0 (TX0 0).1 (TX0 0).2.1 (TX0 0).2.2.1 ∈ xgt from wm_3 41 rfl rfl)
set_option maxRecDepth 20000 in
theorem xiw_X0_1 : u_lay RX0 TX0 1 ∈ xgt := (show Cond.laysFinal RX0 (TX0 1).1 (TX0 1).2.1 (TX0 1).2.2.1 ∈ xgt from wm_3 43 rfl rfl)
set_option maxRecDepth 20000 in
theorem xiw_X0_2 : u_lay RX0 TX0 2 ∈ xgt := (show Cond.laysFinal RX0 (TX0 2).1 (TX0 2).2.1 (TX0 2).2.2.1 ∈ xgt from wm_3 45 rfl rfl)
set_option maxRecDepth 20000 in
theorem xiw_X0_3 : u_lay RX0 TX0 3 ∈ xgt := (show Cond.laysFinal RX0 (TX0 3).1 (TX0 3).2.1 (TX0 3).2.2.1 ∈ xgt from wm_3 47 rfl rfl)
set_option maxRecDepth 20000 in
theorem xiw_X0_4 : u_lay RX0 TX0 4 ∈ xgt := (show Cond.laysFinal RX0 (TX0 4).1 (TX0 4).2.1 (TX0 4).2.2.1 ∈ xgt from wm_3 49 rfl rfl)
set_option maxRecDepth 20000 in
theorem xiw_X0_5 : u_lay RX0 TX0 5 ∈ xgt := (show Cond.laysFinal RX0 (TX0 5).1 (TX0 5).2.1 (TX0 5).2.2.1 ∈ xgt from wm_3 51 rfl rfl)
set_option maxRecDepth 20000 in
theorem xiw_X0_6 : u_lay RX0 TX0 6 ∈ xgt := (show Cond.lays RX0 (TX0 6).1 (TX0 6).2.1 (TX0 6).2.2.1 ∈ xgt from wm_3 53 rfl rfl)
set_option maxRecDepth 20000 in
theorem xiw_X0_7 : u_lay RX0 TX0 7 ∈ xgt := (show Cond.lays RX0 (TX0 7).1 (TX0 7).2.1 (TX0 7).2.2.1 ∈ xgt from wm_3 55 rfl rfl)
set_option maxRecDepth 20000 in
theorem xiw_X0_8 : u_lay RX0 TX0 8 ∈ xgt := (show Cond.lays RX0 (TX0 8).1 (TX0 8).2.1 (TX0 8).2.2.1 ∈ xgt from wm_3 57 rfl rfl)
set_option maxRecDepth 20000 in
theorem xiw_X0_9 : u_lay RX0 TX0 9 ∈ xgt := (show Cond.lays RX0 (TX0 9).1 (TX0 9).2.1 (TX0 9).2.2.1 ∈ xgt from wm_3 59 rfl rfl)
theorem xin_X0 : ∀ w ∈ u_ws RX0 TX0 10, w ∈ xgt := xcnz xiw_X0_0 <| xcnz xiw_X0_1 <| xcnz xiw_X0_2 <| xcnz xiw_X0_3 <| xcnz xiw_X0_4 <| xcnz xiw_X0_5 <| xcnz xiw_X0_6 <| xcnz xiw_X0_7 <| xcnz xiw_X0_8 <| xcnz xiw_X0_9 <| xnlz
set_option maxRecDepth 20000 in
theorem xiw_X1_0 : u_lay RX1 TX1 0 ∈ xgt := (show Cond.laysFinal RX1 (TX1 0).1 (TX1 0).2.1 (TX1 0).2.2.1 ∈ xgt from wm_2 212 rfl rfl)
set_option maxRecDepth 20000 in
theorem xiw_X1_1 : u_lay RX1 TX1 1 ∈ xgt := (show Cond.laysFinal RX1 (TX1 1).1 (TX1 1).2.1 (TX1 1).2.2.1 ∈ xgt from wm_2 214 rfl rfl)
set_option maxRecDepth 20000 in
theorem xiw_X1_2 : u_lay RX1 TX1 2 ∈ xgt := (show Cond.laysFinal RX1 (TX1 2).1 (TX1 2).2.1 (TX1 2).2.2.1 ∈ xgt from wm_2 216 rfl rfl)
set_option maxRecDepth 20000 in
theorem xiw_X1_3 : u_lay RX1 TX1 3 ∈ xgt := (show Cond.laysFinal RX1 (TX1 3).1 (TX1 3).2.1 (TX1 3).2.2.1 ∈ xgt from wm_2 218 rfl rfl)
set_option maxRecDepth 20000 in
theorem xiw_X1_4 : u_lay RX1 TX1 4 ∈ xgt := (show Cond.laysFinal RX1 (TX1 4).1 (TX1 4).2.1 (TX1 4).2.2.1 ∈ xgt from wm_2 220 rfl rfl)
set_option maxRecDepth 20000 in
theorem xiw_X1_5 : u_lay RX1 TX1 5 ∈ xgt := (show Cond.laysFinal RX1 (TX1 5).1 (TX1 5).2.1 (TX1 5).2.2.1 ∈ xgt from wm_2 222 rfl rfl)
set_option maxRecDepth 20000 in
theorem xiw_X1_6 : u_lay RX1 TX1 6 ∈ xgt := (show Cond.laysFinal RX1 (TX1 6).1 (TX1 6).2.1 (TX1 6).2.2.1 ∈ xgt from wm_2 224 rfl rfl)
set_option maxRecDepth 20000 in
theorem xiw_X1_7 : u_lay RX1 TX1 7 ∈ xgt := (show Cond.laysFinal RX1 (TX1 7).1 (TX1 7).2.1 (TX1 7).2.2.1 ∈ xgt from wm_2 226 rfl rfl)
set_option maxRecDepth 20000 in
theorem xiw_X1_8 : u_lay RX1 TX1 8 ∈ xgt := (show Cond.lays RX1 (TX1 8).1 (TX1 8).2.1 (TX1 8).2.2.1 ∈ xgt from wm_2 228 rfl rfl)
set_option maxRecDepth 20000 in
theorem xiw_X1_9 : u_lay RX1 TX1 9 ∈ xgt := (show Cond.lays RX1 (TX1 9).1 (TX1 9).2.1 (TX1 9).2.2.1 ∈ xgt from wm_2 230 rfl rfl)
set_option maxRecDepth 20000 in
theorem xiw_X1_10 : u_lay RX1 TX1 10 ∈ xgt := (show Cond.lays RX1 (TX1 10).1 (TX1 10).2.1 (TX1 10).2.2.1 ∈ xgt from wm_2 232 rfl rfl)
theorem xin_X1 : ∀ w ∈ u_ws RX1 TX1 11, w ∈ xgt := xcnz xiw_X1_0 <| xcnz xiw_X1_1 <| xcnz xiw_X1_2 <| xcnz xiw_X1_3 <| xcnz xiw_X1_4 <| xcnz xiw_X1_5 <| xcnz xiw_X1_6 <| xcnz xiw_X1_7 <| xcnz xiw_X1_8 <| xcnz xiw_X1_9 <| xcnz xiw_X1_10 <| xnlz
set_option maxRecDepth 20000 in
theorem xiw_X2_0 : u_lay RX2 TX2 0 ∈ xgt := (show Cond.laysFinal RX2 (TX2 0).1 (TX2 0).2.1 (TX2 0).2.2.1 ∈ xgt from wm_1 84 rfl rfl)
set_option maxRecDepth 20000 in
theorem xiw_X2_1 : u_lay RX2 TX2 1 ∈ xgt := (show Cond.laysFinal RX2 (TX2 1).1 (TX2 1).2.1 (TX2 1).2.2.1 ∈ xgt from wm_1 86 rfl rfl)
set_option maxRecDepth 20000 in
theorem xiw_X2_2 : u_lay RX2 TX2 2 ∈ xgt := (show Cond.laysFinal RX2 (TX2 2).1 (TX2 2).2.1 (TX2 2).2.2.1 ∈ xgt from wm_1 88 rfl rfl)
set_option maxRecDepth 20000 in
theorem xiw_X2_3 : u_lay RX2 TX2 3 ∈ xgt := (show Cond.laysFinal RX2 (TX2 3).1 (TX2 3).2.1 (TX2 3).2.2.1 ∈ xgt from wm_1 90 rfl rfl)
set_option maxRecDepth 20000 in
theorem xiw_X2_4 : u_lay RX2 TX2 4 ∈ xgt := (show Cond.lays RX2 (TX2 4).1 (TX2 4).2.1 (TX2 4).2.2.1 ∈ xgt from wm_1 92 rfl rfl)
set_option maxRecDepth 20000 in
theorem xiw_X2_5 : u_lay RX2 TX2 5 ∈ xgt := (show Cond.laysFinal RX2 (TX2 5).1 (TX2 5).2.1 (TX2 5).2.2.1 ∈ xgt from wm_1 94 rfl rfl)
set_option maxRecDepth 20000 in
theorem xiw_X2_6 : u_lay RX2 TX2 6 ∈ xgt := (show Cond.lays RX2 (TX2 6).1 (TX2 6).2.1 (TX2 6).2.2.1 ∈ xgt from wm_1 96 rfl rfl)
set_option maxRecDepth 20000 in
theorem xiw_X2_7 : u_lay RX2 TX2 7 ∈ xgt := (show Cond.lays RX2 (TX2 7).1 (TX2 7).2.1 (TX2 7).2.2.1 ∈ xgt from wm_1 98 rfl rfl)
set_option maxRecDepth 20000 in
theorem xiw_X2_8 : u_lay RX2 TX2 8 ∈ xgt := (show Cond.lays RX2 (TX2 8).1 (TX2 8).2.1 (TX2 8).2.2.1 ∈ xgt from wm_1 100 rfl rfl)
set_option maxRecDepth 20000 in
theorem xiw_X2_9 : u_lay RX2 TX2 9 ∈ xgt := (show Cond.lays RX2 (TX2 9).1 (TX2 9).2.1 (TX2 9).2.2.1 ∈ xgt from wm_1 102 rfl rfl)
theorem xin_X2 : ∀ w ∈ u_ws RX2 TX2 10, w ∈ xgt := xcnz xiw_X2_0 <| xcnz xiw_X2_1 <| xcnz xiw_X2_2 <| xcnz xiw_X2_3 <| xcnz xiw_X2_4 <| xcnz xiw_X2_5 <| xcnz xiw_X2_6 <| xcnz xiw_X2_7 <| xcnz xiw_X2_8 <| xcnz xiw_X2_9 <| xnlz
set_option maxRecDepth 20000 in
theorem xiw_X3_0 : u_lay RX3 TX3 0 ∈ xgt := (show Cond.laysFinal RX3 (TX3 0).1 (TX3 0).2.1 (TX3 0).2.2.1 ∈ xgt from wm_2 160 rfl rfl)
set_option maxRecDepth 20000 in
theorem xiw_X3_1 : u_lay RX3 TX3 1 ∈ xgt := (show Cond.lays RX3 (TX3 1).1 (TX3 1).2.1 (TX3 1).2.2.1 ∈ xgt from wm_2 162 rfl rfl)
theorem xin_X3 : ∀ w ∈ u_ws RX3 TX3 2, w ∈ xgt := xcnz xiw_X3_0 <| xcnz xiw_X3_1 <| xnlz
set_option maxRecDepth 20000 in
theorem xiw_X4_0 : u_lay RX4 TX4 0 ∈ xgt := (show Cond.laysFinal RX4 (TX4 0).1 (TX4 0).2.1 (TX4 0).2.2.1 ∈ xgt from wm_1 176 rfl rfl)
set_option maxRecDepth 20000 in
theorem xiw_X4_1 : u_lay RX4 TX4 1 ∈ xgt := (show Cond.laysFinal RX4 (TX4 1).1 (TX4 1).2.1 (TX4 1).2.2.1 ∈ xgt from wm_1 178 rfl rfl)
set_option maxRecDepth 20000 in
theorem xiw_X4_2 : u_lay RX4 TX4 2 ∈ xgt := (show Cond.laysFinal RX4 (TX4 2).1 (TX4 2).2.1 (TX4 2).2.2.1 ∈ xgt from wm_1 180 rfl rfl)
set_option maxRecDepth 20000 in
theorem xiw_X4_3 : u_lay RX4 TX4 3 ∈ xgt := (show Cond.laysFinal RX4 (TX4 3).1 (TX4 3).2.1 (TX4 3).2.2.1 ∈ xgt from wm_1 182 rfl rfl)
set_option maxRecDepth 20000 in
theorem xiw_X4_4 : u_lay RX4 TX4 4 ∈ xgt := (show Cond.laysFinal RX4 (TX4 4).1 (TX4 4).2.1 (TX4 4).2.2.1 ∈ xgt from wm_1 184 rfl rfl)
set_option maxRecDepth 20000 in
theorem xiw_X4_5 : u_lay RX4 TX4 5 ∈ xgt := (show Cond.laysFinal RX4 (TX4 5).1 (TX4 5).2.1 (TX4 5).2.2.1 ∈ xgt from wm_1 186 rfl rfl)
set_option maxRecDepth 20000 in
theorem xiw_X4_6 : u_lay RX4 TX4 6 ∈ xgt := (show Cond.laysFinal RX4 (TX4 6).1 (TX4 6).2.1 (TX4 6).2.2.1 ∈ xgt from wm_1 188 rfl rfl)
set_option maxRecDepth 20000 in
theorem xiw_X4_7 : u_lay RX4 TX4 7 ∈ xgt := (show Cond.laysFinal RX4 (TX4 7).1 (TX4 7).2.1 (TX4 7).2.2.1 ∈ xgt from wm_1 190 rfl rfl)
set_option maxRecDepth 20000 in
theorem xiw_X4_8 : u_lay RX4 TX4 8 ∈ xgt := (show Cond.laysFinal RX4 (TX4 8).1 (TX4 8).2.1 (TX4 8).2.2.1 ∈ xgt from wm_1 192 rfl rfl)
set_option maxRecDepth 20000 in
theorem xiw_X4_9 : u_lay RX4 TX4 9 ∈ xgt := (show Cond.laysFinal RX4 (TX4 9).1 (TX4 9).2.1 (TX4 9).2.2.1 ∈ xgt from wm_1 194 rfl rfl)
set_option maxRecDepth 20000 in
theorem xiw_X4_10 : u_lay RX4 TX4 10 ∈ xgt := (show Cond.laysFinal RX4 (TX4 10).1 (TX4 10).2.1 (TX4 10).2.2.1 ∈ xgt from wm_1 196 rfl rfl)
set_option maxRecDepth 20000 in
theorem xiw_X4_11 : u_lay RX4 TX4 11 ∈ xgt := (show Cond.laysFinal RX4 (TX4 11).1 (TX4 11).2.1 (TX4 11).2.2.1 ∈ xgt from wm_1 198 rfl rfl)
set_option maxRecDepth 20000 in
theorem xiw_X4_12 : u_lay RX4 TX4 12 ∈ xgt := (show Cond.laysFinal RX4 (TX4 12).1 (TX4 12).2.1 (TX4 12).2.2.1 ∈ xgt from wm_1 200 rfl rfl)
set_option maxRecDepth 20000 in
theorem xiw_X4_13 : u_lay RX4 TX4 13 ∈ xgt := (show Cond.laysFinal RX4 (TX4 13).1 (TX4 13).2.1 (TX4 13).2.2.1 ∈ xgt from wm_1 202 rfl rfl)
set_option maxRecDepth 20000 in
theorem xiw_X4_14 : u_lay RX4 TX4 14 ∈ xgt := (show Cond.laysFinal RX4 (TX4 14).1 (TX4 14).2.1 (TX4 14).2.2.1 ∈ xgt from wm_1 204 rfl rfl)
set_option maxRecDepth 20000 in
theorem xiw_X4_15 : u_lay RX4 TX4 15 ∈ xgt := (show Cond.laysFinal RX4 (TX4 15).1 (TX4 15).2.1 (TX4 15).2.2.1 ∈ xgt from wm_1 206 rfl rfl)
set_option maxRecDepth 20000 in
theorem xiw_X4_16 : u_lay RX4 TX4 16 ∈ xgt := (show Cond.lays RX4 (TX4 16).1 (TX4 16).2.1 (TX4 16).2.2.1 ∈ xgt from wm_1 208 rfl rfl)
set_option maxRecDepth 20000 in
theorem xiw_X4_17 : u_lay RX4 TX4 17 ∈ xgt := (show Cond.lays RX4 (TX4 17).1 (TX4 17).2.1 (TX4 17).2.2.1 ∈ xgt from wm_1 210 rfl rfl)
set_option maxRecDepth 20000 in
theorem xiw_X4_18 : u_lay RX4 TX4 18 ∈ xgt := (show Cond.lays RX4 (TX4 18).1 (TX4 18).2.1 (TX4 18).2.2.1 ∈ xgt from wm_1 212 rfl rfl)
theorem xin_X4 : ∀ w ∈ u_ws RX4 TX4 19, w ∈ xgt := xcnz xiw_X4_0 <| xcnz xiw_X4_1 <| xcnz xiw_X4_2 <| xcnz xiw_X4_3 <| xcnz xiw_X4_4 <| xcnz xiw_X4_5 <| xcnz xiw_X4_6 <| xcnz xiw_X4_7 <| xcnz xiw_X4_8 <| xcnz xiw_X4_9 <| xcnz xiw_X4_10 <| xcnz xiw_X4_11 <| xcnz xiw_X4_12 <| xcnz xiw_X4_13 <| xcnz xiw_X4_14 <| xcnz xiw_X4_15 <| xcnz xiw_X4_16 <| xcnz xiw_X4_17 <| xcnz xiw_X4_18 <| xnlz
set_option maxRecDepth 20000 in
theorem xiw_X5_0 : u_lay RX5 TX5 0 ∈ xgt := (show Cond.laysFinal RX5 (TX5 0).1 (TX5 0).2.1 (TX5 0).2.2.1 ∈ xgt from wm_2 177 rfl rfl)
set_option maxRecDepth 20000 in
theorem xiw_X5_1 : u_lay RX5 TX5 1 ∈ xgt := (show Cond.laysFinal RX5 (TX5 1).1 (TX5 1).2.1 (TX5 1).2.2.1 ∈ xgt from wm_2 179 rfl rfl)
set_option maxRecDepth 20000 in
theorem xiw_X5_2 : u_lay RX5 TX5 2 ∈ xgt := (show Cond.laysFinal RX5 (TX5 2).1 (TX5 2).2.1 (TX5 2).2.2.1 ∈ xgt from wm_2 181 rfl rfl)
set_option maxRecDepth 20000 in
theorem xiw_X5_3 : u_lay RX5 TX5 3 ∈ xgt := (show Cond.laysFinal RX5 (TX5 3).1 (TX5 3).2.1 (TX5 3).2.2.1 ∈ xgt from wm_2 183 rfl rfl)
set_option maxRecDepth 20000 in
theorem xiw_X5_4 : u_lay RX5 TX5 4 ∈ xgt := (show Cond.lays RX5 (TX5 4).1 (TX5 4).2.1 (TX5 4).2.2.1 ∈ xgt from wm_2 185 rfl rfl)
set_option maxRecDepth 20000 in
theorem xiw_X5_5 : u_lay RX5 TX5 5 ∈ xgt := (show Cond.lays RX5 (TX5 5).1 (TX5 5).2.1 (TX5 5).2.2.1 ∈ xgt from wm_2 187 rfl rfl)
theorem xin_X5 : ∀ w ∈ u_ws RX5 TX5 6, w ∈ xgt := xcnz xiw_X5_0 <| xcnz xiw_X5_1 <| xcnz xiw_X5_2 <| xcnz xiw_X5_3 <| xcnz xiw_X5_4 <| xcnz xiw_X5_5 <| xnlz
set_option maxRecDepth 20000 in
theorem xiw_X6_0 : u_lay RX6 TX6 0 ∈ xgt := (show Cond.laysFinal RX6 (TX6 0).1 (TX6 0).2.1 (TX6 0).2.2.1 ∈ xgt from wm_1 56 rfl rfl)
set_option maxRecDepth 20000 in
theorem xiw_X6_1 : u_lay RX6 TX6 1 ∈ xgt := (show Cond.lays RX6 (TX6 1).1 (TX6 1).2.1 (TX6 1).2.2.1 ∈ xgt from wm_1 58 rfl rfl)
theorem xin_X6 : ∀ w ∈ u_ws RX6 TX6 2, w ∈ xgt := xcnz xiw_X6_0 <| xcnz xiw_X6_1 <| xnlz
set_option maxRecDepth 20000 in
theorem xiw_X7_0 : u_lay RX7 TX7 0 ∈ xgt := (show Cond.laysFinal RX7 (TX7 0).1 (TX7 0).2.1 (TX7 0).2.2.1 ∈ xgt from wm_3 10 rfl rfl)
set_option maxRecDepth 20000 in
theorem xiw_X7_1 : u_lay RX7 TX7 1 ∈ xgt := (show Cond.laysFinal RX7 (TX7 1).1 (TX7 1).2.1 (TX7 1).2.2.1 ∈ xgt from wm_3 12 rfl rfl)
set_option maxRecDepth 20000 in
theorem xiw_X7_2 : u_lay RX7 TX7 2 ∈ xgt := (show Cond.laysFinal RX7 (TX7 2).1 (TX7 2).2.1 (TX7 2).2.2.1 ∈ xgt from wm_3 14 rfl rfl)
set_option maxRecDepth 20000 in
theorem xiw_X7_3 : u_lay RX7 TX7 3 ∈ xgt := (show Cond.laysFinal RX7 (TX7 3).1 (TX7 3).2.1 (TX7 3).2.2.1 ∈ xgt from wm_3 16 rfl rfl)
set_option maxRecDepth 20000 in
theorem xiw_X7_4 : u_lay RX7 TX7 4 ∈ xgt := (show Cond.laysFinal RX7 (TX7 4).1 (TX7 4).2.1 (TX7 4).2.2.1 ∈ xgt from wm_3 18 rfl rfl)
set_option maxRecDepth 20000 in
theorem xiw_X7_5 : u_lay RX7 TX7 5 ∈ xgt := (show Cond.laysFinal RX7 (TX7 5).1 (TX7 5).2.1 (TX7 5).2.2.1 ∈ xgt from wm_3 20 rfl rfl)
theorem xin_X7 : ∀ w ∈ u_ws RX7 TX7 6, w ∈ xgt := xcnz xiw_X7_0 <| xcnz xiw_X7_1 <| xcnz xiw_X7_2 <| xcnz xiw_X7_3 <| xcnz xiw_X7_4 <| xcnz xiw_X7_5 <| xnlz
set_option maxRecDepth 20000 in
theorem xiw_X8_0 : u_lay RX8 TX8 0 ∈ xgt := (show Cond.laysFinal RX8 (TX8 0).1 (TX8 0).2.1 (TX8 0).2.2.1 ∈ xgt from wm_2 80 rfl rfl)
set_option maxRecDepth 20000 in
theorem xiw_X8_1 : u_lay RX8 TX8 1 ∈ xgt := (show Cond.laysFinal RX8 (TX8 1).1 (TX8 1).2.1 (TX8 1).2.2.1 ∈ xgt from wm_2 82 rfl rfl)
set_option maxRecDepth 20000 in
theorem xiw_X8_2 : u_lay RX8 TX8 2 ∈ xgt := (show Cond.lays RX8 (TX8 2).1 (TX8 2).2.1 (TX8 2).2.2.1 ∈ xgt from wm_2 84 rfl rfl)
set_option maxRecDepth 20000 in
theorem xiw_X8_3 : u_lay RX8 TX8 3 ∈ xgt := (show Cond.lays RX8 (TX8 3).1 (TX8 3).2.1 (TX8 3).2.2.1 ∈ xgt from wm_2 86 rfl rfl)
theorem xin_X8 : ∀ w ∈ u_ws RX8 TX8 4, w ∈ xgt := xcnz xiw_X8_0 <| xcnz xiw_X8_1 <| xcnz xiw_X8_2 <| xcnz xiw_X8_3 <| xnlz
set_option maxRecDepth 20000 in
theorem xiw_X9_0 : u_lay RX9 TX9 0 ∈ xgt := (show Cond.laysFinal RX9 (TX9 0).1 (TX9 0).2.1 (TX9 0).2.2.1 ∈ xgt from wm_2 52 rfl rfl)
set_option maxRecDepth 20000 in
theorem xiw_X9_1 : u_lay RX9 TX9 1 ∈ xgt := (show Cond.laysFinal RX9 (TX9 1).1 (TX9 1).2.1 (TX9 1).2.2.1 ∈ xgt from wm_2 54 rfl rfl)
set_option maxRecDepth 20000 in
theorem xiw_X9_2 : u_lay RX9 TX9 2 ∈ xgt := (show Cond.lays RX9 (TX9 2).1 (TX9 2).2.1 (TX9 2).2.2.1 ∈ xgt from wm_2 56 rfl rfl)
set_option maxRecDepth 20000 in
theorem xiw_X9_3 : u_lay RX9 TX9 3 ∈ xgt := (show Cond.lays RX9 (TX9 3).1 (TX9 3).2.1 (TX9 3).2.2.1 ∈ xgt from wm_2 58 rfl rfl)
set_option maxRecDepth 20000 in
theorem xiw_X9_4 : u_lay RX9 TX9 4 ∈ xgt := (show Cond.lays RX9 (TX9 4).1 (TX9 4).2.1 (TX9 4).2.2.1 ∈ xgt from wm_2 60 rfl rfl)
set_option maxRecDepth 20000 in
theorem xiw_X9_5 : u_lay RX9 TX9 5 ∈ xgt := (show Cond.lays RX9 (TX9 5).1 (TX9 5).2.1 (TX9 5).2.2.1 ∈ xgt from wm_2 62 rfl rfl)
set_option maxRecDepth 20000 in
theorem xiw_X9_6 : u_lay RX9 TX9 6 ∈ xgt := (show Cond.lays RX9 (TX9 6).1 (TX9 6).2.1 (TX9 6).2.2.1 ∈ xgt from wm_2 64 rfl rfl)
set_option maxRecDepth 20000 in
theorem xiw_X9_7 : u_lay RX9 TX9 7 ∈ xgt := (show Cond.lays RX9 (TX9 7).1 (TX9 7).2.1 (TX9 7).2.2.1 ∈ xgt from wm_2 66 rfl rfl)
set_option maxRecDepth 20000 in
theorem xiw_X9_8 : u_lay RX9 TX9 8 ∈ xgt := (show Cond.lays RX9 (TX9 8).1 (TX9 8).2.1 (TX9 8).2.2.1 ∈ xgt from wm_2 68 rfl rfl)
theorem xin_X9 : ∀ w ∈ u_ws RX9 TX9 9, w ∈ xgt := xcnz xiw_X9_0 <| xcnz xiw_X9_1 <| xcnz xiw_X9_2 <| xcnz xiw_X9_3 <| xcnz xiw_X9_4 <| xcnz xiw_X9_5 <| xcnz xiw_X9_6 <| xcnz xiw_X9_7 <| xcnz xiw_X9_8 <| xnlz
set_option maxRecDepth 20000 in
theorem xiw_X10_0 : u_lay RX10 TX10 0 ∈ xgt := (show Cond.laysFinal RX10 (TX10 0).1 (TX10 0).2.1 (TX10 0).2.2.1 ∈ xgt from wm_2 124 rfl rfl)
set_option maxRecDepth 20000 in
theorem xiw_X10_1 : u_lay RX10 TX10 1 ∈ xgt := (show Cond.laysFinal RX10 (TX10 1).1 (TX10 1).2.1 (TX10 1).2.2.1 ∈ xgt from wm_2 126 rfl rfl)
set_option maxRecDepth 20000 in
theorem xiw_X10_2 : u_lay RX10 TX10 2 ∈ xgt := (show Cond.laysFinal RX10 (TX10 2).1 (TX10 2).2.1 (TX10 2).2.2.1 ∈ xgt from wm_2 128 rfl rfl)
set_option maxRecDepth 20000 in
theorem xiw_X10_3 : u_lay RX10 TX10 3 ∈ xgt := (show Cond.laysFinal RX10 (TX10 3).1 (TX10 3).2.1 (TX10 3).2.2.1 ∈ xgt from wm_2 130 rfl rfl)
set_option maxRecDepth 20000 in
theorem xiw_X10_4 : u_lay RX10 TX10 4 ∈ xgt := (show Cond.laysFinal RX10 (TX10 4).1 (TX10 4).2.1 (TX10 4).2.2.1 ∈ xgt from wm_2 132 rfl rfl)
set_option maxRecDepth 20000 in
theorem xiw_X10_5 : u_lay RX10 TX10 5 ∈ xgt := (show Cond.laysFinal RX10 (TX10 5).1 (TX10 5).2.1 (TX10 5).2.2.1 ∈ xgt from wm_2 134 rfl rfl)
set_option maxRecDepth 20000 in
theorem xiw_X10_6 : u_lay RX10 TX10 6 ∈ xgt := (show Cond.lays RX10 (TX10 6).1 (TX10 6).2.1 (TX10 6).2.2.1 ∈ xgt from wm_2 136 rfl rfl)
set_option maxRecDepth 20000 in
theorem xiw_X10_7 : u_lay RX10 TX10 7 ∈ xgt := (show Cond.lays RX10 (TX10 7).1 (TX10 7).2.1 (TX10 7).2.2.1 ∈ xgt from wm_2 138 rfl rfl)
set_option maxRecDepth 20000 in
theorem xiw_X10_8 : u_lay RX10 TX10 8 ∈ xgt := (show Cond.lays RX10 (TX10 8).1 (TX10 8).2.1 (TX10 8).2.2.1 ∈ xgt from wm_2 140 rfl rfl)
set_option maxRecDepth 20000 in
theorem xiw_X10_9 : u_lay RX10 TX10 9 ∈ xgt := (show Cond.lays RX10 (TX10 9).1 (TX10 9).2.1 (TX10 9).2.2.1 ∈ xgt from wm_2 142 rfl rfl)
set_option maxRecDepth 20000 in
theorem xiw_X10_10 : u_lay RX10 TX10 10 ∈ xgt := (show Cond.lays RX10 (TX10 10).1 (TX10 10).2.1 (TX10 10).2.2.1 ∈ xgt from wm_2 144 rfl rfl)
set_option maxRecDepth 20000 in
theorem xiw_X10_11 : u_lay RX10 TX10 11 ∈ xgt := (show Cond.lays RX10 (TX10 11).1 (TX10 11).2.1 (TX10 11).2.2.1 ∈ xgt from wm_2 146 rfl rfl)
set_option maxRecDepth 20000 in
theorem xiw_X10_12 : u_lay RX10 TX10 12 ∈ xgt := (show Cond.lays RX10 (TX10 12).1 (TX10 12).2.1 (TX10 12).2.2.1 ∈ xgt from wm_2 148 rfl rfl)
theorem xin_X10 : ∀ w ∈ u_ws RX10 TX10 13, w ∈ xgt := xcnz xiw_X10_0 <| xcnz xiw_X10_1 <| xcnz xiw_X10_2 <| xcnz xiw_X10_3 <| xcnz xiw_X10_4 <| xcnz xiw_X10_5 <| xcnz xiw_X10_6 <| xcnz xiw_X10_7 <| xcnz xiw_X10_8 <| xcnz xiw_X10_9 <| xcnz xiw_X10_10 <| xcnz xiw_X10_11 <| xcnz xiw_X10_12 <| xnlz
set_option maxRecDepth 20000 in
theorem xiw_X11_0 : u_lay RX11 TX11 0 ∈ xgt := (show Cond.laysFinal RX11 (TX11 0).1 (TX11 0).2.1 (TX11 0).2.2.1 ∈ xgt from wm_3 91 rfl rfl)
set_option maxRecDepth 20000 in
theorem xiw_X11_1 : u_lay RX11 TX11 1 ∈ xgt := (show Cond.laysFinal RX11 (TX11 1).1 (TX11 1).2.1 (TX11 1).2.2.1 ∈ xgt from wm_3 93 rfl rfl)
set_option maxRecDepth 20000 in
theorem xiw_X11_2 : u_lay RX11 TX11 2 ∈ xgt := (show Cond.laysFinal RX11 (TX11 2).1 (TX11 2).2.1 (TX11 2).2.2.1 ∈ xgt from wm_3 95 rfl rfl)
set_option maxRecDepth 20000 in
theorem xiw_X11_3 : u_lay RX11 TX11 3 ∈ xgt := (show Cond.laysFinal RX11 (TX11 3).1 (TX11 3).2.1 (TX11 3).2.2.1 ∈ xgt from wm_3 97 rfl rfl)
set_option maxRecDepth 20000 in
theorem xiw_X11_4 : u_lay RX11 TX11 4 ∈ xgt := (show Cond.laysFinal RX11 (TX11 4).1 (TX11 4).2.1 (TX11 4).2.2.1 ∈ xgt from wm_3 99 rfl rfl)
set_option maxRecDepth 20000 in
theorem xiw_X11_5 : u_lay RX11 TX11 5 ∈ xgt := (show Cond.laysFinal RX11 (TX11 5).1 (TX11 5).2.1 (TX11 5).2.2.1 ∈ xgt from wm_3 101 rfl rfl)
set_option maxRecDepth 20000 in
theorem xiw_X11_6 : u_lay RX11 TX11 6 ∈ xgt := (show Cond.laysFinal RX11 (TX11 6).1 (TX11 6).2.1 (TX11 6).2.2.1 ∈ xgt from wm_3 103 rfl rfl)
set_option maxRecDepth 20000 in
theorem xiw_X11_7 : u_lay RX11 TX11 7 ∈ xgt := (show Cond.laysFinal RX11 (TX11 7).1 (TX11 7).2.1 (TX11 7).2.2.1 ∈ xgt from wm_3 105 rfl rfl)
set_option maxRecDepth 20000 in
theorem xiw_X11_8 : u_lay RX11 TX11 8 ∈ xgt := (show Cond.laysFinal RX11 (TX11 8).1 (TX11 8).2.1 (TX11 8).2.2.1 ∈ xgt from wm_3 107 rfl rfl)
set_option maxRecDepth 20000 in
theorem xiw_X11_9 : u_lay RX11 TX11 9 ∈ xgt := (show Cond.laysFinal RX11 (TX11 9).1 (TX11 9).2.1 (TX11 9).2.2.1 ∈ xgt from wm_3 109 rfl rfl)
set_option maxRecDepth 20000 in
theorem xiw_X11_10 : u_lay RX11 TX11 10 ∈ xgt := (show Cond.laysFinal RX11 (TX11 10).1 (TX11 10).2.1 (TX11 10).2.2.1 ∈ xgt from wm_3 111 rfl rfl)
set_option maxRecDepth 20000 in
theorem xiw_X11_11 : u_lay RX11 TX11 11 ∈ xgt := (show Cond.lays RX11 (TX11 11).1 (TX11 11).2.1 (TX11 11).2.2.1 ∈ xgt from wm_3 113 rfl rfl)
set_option maxRecDepth 20000 in
theorem xiw_X11_12 : u_lay RX11 TX11 12 ∈ xgt := (show Cond.lays RX11 (TX11 12).1 (TX11 12).2.1 (TX11 12).2.2.1 ∈ xgt from wm_3 115 rfl rfl)
set_option maxRecDepth 20000 in
theorem xiw_X11_13 : u_lay RX11 TX11 13 ∈ xgt := (show Cond.lays RX11 (TX11 13).1 (TX11 13).2.1 (TX11 13).2.2.1 ∈ xgt from wm_3 117 rfl rfl)
set_option maxRecDepth 20000 in
theorem xiw_X11_14 : u_lay RX11 TX11 14 ∈ xgt := (show Cond.lays RX11 (TX11 14).1 (TX11 14).2.1 (TX11 14).2.2.1 ∈ xgt from wm_3 119 rfl rfl)
theorem xin_X11 : ∀ w ∈ u_ws RX11 TX11 15, w ∈ xgt := xcnz xiw_X11_0 <| xcnz xiw_X11_1 <| xcnz xiw_X11_2 <| xcnz xiw_X11_3 <| xcnz xiw_X11_4 <| xcnz xiw_X11_5 <| xcnz xiw_X11_6 <| xcnz xiw_X11_7 <| xcnz xiw_X11_8 <| xcnz xiw_X11_9 <| xcnz xiw_X11_10 <| xcnz xiw_X11_11 <| xcnz xiw_X11_12 <| xcnz xiw_X11_13 <| xcnz xiw_X11_14 <| xnlz
set_option maxRecDepth 20000 in
theorem xiw_X12_0 : u_lay RX12 TX12 0 ∈ xgt := (show Cond.lays RX12 (TX12 0).1 (TX12 0).2.1 (TX12 0).2.2.1 ∈ xgt from wm_6 149 rfl rfl)
set_option maxRecDepth 20000 in
theorem xiw_X12_1 : u_lay RX12 TX12 1 ∈ xgt := (show Cond.laysFinal RX12 (TX12 1).1 (TX12 1).2.1 (TX12 1).2.2.1 ∈ xgt from wm_6 151 rfl rfl)
set_option maxRecDepth 20000 in
theorem xiw_X12_2 : u_lay RX12 TX12 2 ∈ xgt := (show Cond.lays RX12 (TX12 2).1 (TX12 2).2.1 (TX12 2).2.2.1 ∈ xgt from wm_6 153 rfl rfl)
set_option maxRecDepth 20000 in
theorem xiw_X12_3 : u_lay RX12 TX12 3 ∈ xgt := (show Cond.laysFinal RX12 (TX12 3).1 (TX12 3).2.1 (TX12 3).2.2.1 ∈ xgt from wm_6 155 rfl rfl)
set_option maxRecDepth 20000 in
theorem xiw_X12_4 : u_lay RX12 TX12 4 ∈ xgt := (show Cond.laysFinal RX12 (TX12 4).1 (TX12 4).2.1 (TX12 4).2.2.1 ∈ xgt from wm_6 157 rfl rfl)
set_option maxRecDepth 20000 in
theorem xiw_X12_5 : u_lay RX12 TX12 5 ∈ xgt := (show Cond.laysFinal RX12 (TX12 5).1 (TX12 5).2.1 (TX12 5).2.2.1 ∈ xgt from wm_6 159 rfl rfl)
set_option maxRecDepth 20000 in
theorem xiw_X12_6 : u_lay RX12 TX12 6 ∈ xgt := (show Cond.laysFinal RX12 (TX12 6).1 (TX12 6).2.1 (TX12 6).2.2.1 ∈ xgt from wm_6 161 rfl rfl)
set_option maxRecDepth 20000 in
theorem xiw_X12_7 : u_lay RX12 TX12 7 ∈ xgt := (show Cond.laysFinal RX12 (TX12 7).1 (TX12 7).2.1 (TX12 7).2.2.1 ∈ xgt from wm_6 163 rfl rfl)
set_option maxRecDepth 20000 in
theorem xiw_X12_8 : u_lay RX12 TX12 8 ∈ xgt := (show Cond.laysFinal RX12 (TX12 8).1 (TX12 8).2.1 (TX12 8).2.2.1 ∈ xgt from wm_6 165 rfl rfl)
set_option maxRecDepth 20000 in
theorem xiw_X12_9 : u_lay RX12 TX12 9 ∈ xgt := (show Cond.laysFinal RX12 (TX12 9).1 (TX12 9).2.1 (TX12 9).2.2.1 ∈ xgt from wm_6 167 rfl rfl)
set_option maxRecDepth 20000 in
theorem xiw_X12_10 : u_lay RX12 TX12 10 ∈ xgt := (show Cond.laysFinal RX12 (TX12 10).1 (TX12 10).2.1 (TX12 10).2.2.1 ∈ xgt from wm_6 169 rfl rfl)
set_option maxRecDepth 20000 in
theorem xiw_X12_11 : u_lay RX12 TX12 11 ∈ xgt := (show Cond.laysFinal RX12 (TX12 11).1 (TX12 11).2.1 (TX12 11).2.2.1 ∈ xgt from wm_6 171 rfl rfl)
set_option maxRecDepth 20000 in
theorem xiw_X12_12 : u_lay RX12 TX12 12 ∈ xgt := (show Cond.laysFinal RX12 (TX12 12).1 (TX12 12).2.1 (TX12 12).2.2.1 ∈ xgt from wm_6 173 rfl rfl)
set_option maxRecDepth 20000 in
theorem xiw_X12_13 : u_lay RX12 TX12 13 ∈ xgt := (show Cond.laysFinal RX12 (TX12 13).1 (TX12 13).2.1 (TX12 13).2.2.1 ∈ xgt from wm_6 175 rfl rfl)
set_option maxRecDepth 20000 in
theorem xiw_X12_14 : u_lay RX12 TX12 14 ∈ xgt := (show Cond.laysFinal RX12 (TX12 14).1 (TX12 14).2.1 (TX12 14).2.2.1 ∈ xgt from wm_6 177 rfl rfl)
set_option maxRecDepth 20000 in
theorem xiw_X12_15 : u_lay RX12 TX12 15 ∈ xgt := (show Cond.laysFinal RX12 (TX12 15).1 (TX12 15).2.1 (TX12 15).2.2.1 ∈ xgt from wm_6 179 rfl rfl)
set_option maxRecDepth 20000 in
theorem xiw_X12_16 : u_lay RX12 TX12 16 ∈ xgt := (show Cond.laysFinal RX12 (TX12 16).1 (TX12 16).2.1 (TX12 16).2.2.1 ∈ xgt from wm_6 181 rfl rfl)
set_option maxRecDepth 20000 in
theorem xiw_X12_17 : u_lay RX12 TX12 17 ∈ xgt := (show Cond.laysFinal RX12 (TX12 17).1 (TX12 17).2.1 (TX12 17).2.2.1 ∈ xgt from wm_6 183 rfl rfl)
set_option maxRecDepth 20000 in
theorem xiw_X12_18 : u_lay RX12 TX12 18 ∈ xgt := (show Cond.laysFinal RX12 (TX12 18).1 (TX12 18).2.1 (TX12 18).2.2.1 ∈ xgt from wm_6 185 rfl rfl)
set_option maxRecDepth 20000 in
theorem xiw_X12_19 : u_lay RX12 TX12 19 ∈ xgt := (show Cond.laysFinal RX12 (TX12 19).1 (TX12 19).2.1 (TX12 19).2.2.1 ∈ xgt from wm_6 187 rfl rfl)
set_option maxRecDepth 20000 in
theorem xiw_X12_20 : u_lay RX12 TX12 20 ∈ xgt := (show Cond.laysFinal RX12 (TX12 20).1 (TX12 20).2.1 (TX12 20).2.2.1 ∈ xgt from wm_6 189 rfl rfl)
set_option maxRecDepth 20000 in
theorem xiw_X12_21 : u_lay RX12 TX12 21 ∈ xgt := (show Cond.laysFinal RX12 (TX12 21).1 (TX12 21).2.1 (TX12 21).2.2.1 ∈ xgt from wm_6 191 rfl rfl)
set_option maxRecDepth 20000 in
theorem xiw_X12_22 : u_lay RX12 TX12 22 ∈ xgt := (show Cond.laysFinal RX12 (TX12 22).1 (TX12 22).2.1 (TX12 22).2.2.1 ∈ xgt from wm_6 193 rfl rfl)
set_option maxRecDepth 20000 in
theorem xiw_X12_23 : u_lay RX12 TX12 23 ∈ xgt := (show Cond.laysFinal RX12 (TX12 23).1 (TX12 23).2.1 (TX12 23).2.2.1 ∈ xgt from wm_6 195 rfl rfl)
set_option maxRecDepth 20000 in
theorem xiw_X12_24 : u_lay RX12 TX12 24 ∈ xgt := (show Cond.lays RX12 (TX12 24).1 (TX12 24).2.1 (TX12 24).2.2.1 ∈ xgt from wm_6 197 rfl rfl)
set_option maxRecDepth 20000 in
theorem xiw_X12_25 : u_lay RX12 TX12 25 ∈ xgt := (show Cond.lays RX12 (TX12 25).1 (TX12 25).2.1 (TX12 25).2.2.1 ∈ xgt from wm_6 199 rfl rfl)
set_option maxRecDepth 20000 in
theorem xiw_X12_26 : u_lay RX12 TX12 26 ∈ xgt := (show Cond.lays RX12 (TX12 26).1 (TX12 26).2.1 (TX12 26).2.2.1 ∈ xgt from wm_6 201 rfl rfl)
set_option maxRecDepth 20000 in
theorem xiw_X12_27 : u_lay RX12 TX12 27 ∈ xgt := (show Cond.lays RX12 (TX12 27).1 (TX12 27).2.1 (TX12 27).2.2.1 ∈ xgt from wm_6 203 rfl rfl)
set_option maxRecDepth 20000 in
theorem xiw_X12_28 : u_lay RX12 TX12 28 ∈ xgt := (show Cond.lays RX12 (TX12 28).1 (TX12 28).2.1 (TX12 28).2.2.1 ∈ xgt from wm_6 205 rfl rfl)
set_option maxRecDepth 20000 in
theorem xiw_X12_29 : u_lay RX12 TX12 29 ∈ xgt := (show Cond.lays RX12 (TX12 29).1 (TX12 29).2.1 (TX12 29).2.2.1 ∈ xgt from wm_6 207 rfl rfl)
set_option maxRecDepth 20000 in
theorem xiw_X12_30 : u_lay RX12 TX12 30 ∈ xgt := (show Cond.lays RX12 (TX12 30).1 (TX12 30).2.1 (TX12 30).2.2.1 ∈ xgt from wm_6 209 rfl rfl)
set_option maxRecDepth 20000 in
theorem xiw_X12_31 : u_lay RX12 TX12 31 ∈ xgt := (show Cond.lays RX12 (TX12 31).1 (TX12 31).2.1 (TX12 31).2.2.1 ∈ xgt from wm_6 211 rfl rfl)
set_option maxRecDepth 20000 in
theorem xiw_X12_32 : u_lay RX12 TX12 32 ∈ xgt := (show Cond.lays RX12 (TX12 32).1 (TX12 32).2.1 (TX12 32).2.2.1 ∈ xgt from wm_6 213 rfl rfl)
set_option maxRecDepth 20000 in
theorem xiw_X12_33 : u_lay RX12 TX12 33 ∈ xgt := (show Cond.lays RX12 (TX12 33).1 (TX12 33).2.1 (TX12 33).2.2.1 ∈ xgt from wm_6 215 rfl rfl)
set_option maxRecDepth 20000 in
theorem xiw_X12_34 : u_lay RX12 TX12 34 ∈ xgt := (show Cond.lays RX12 (TX12 34).1 (TX12 34).2.1 (TX12 34).2.2.1 ∈ xgt from wm_6 217 rfl rfl)
set_option maxRecDepth 20000 in
theorem xiw_X12_35 : u_lay RX12 TX12 35 ∈ xgt := (show Cond.lays RX12 (TX12 35).1 (TX12 35).2.1 (TX12 35).2.2.1 ∈ xgt from wm_6 219 rfl rfl)
set_option maxRecDepth 20000 in
theorem xiw_X12_36 : u_lay RX12 TX12 36 ∈ xgt := (show Cond.lays RX12 (TX12 36).1 (TX12 36).2.1 (TX12 36).2.2.1 ∈ xgt from wm_6 221 rfl rfl)
set_option maxRecDepth 20000 in
theorem xiw_X12_37 : u_lay RX12 TX12 37 ∈ xgt := (show Cond.laysFinal RX12 (TX12 37).1 (TX12 37).2.1 (TX12 37).2.2.1 ∈ xgt from wm_6 223 rfl rfl)
set_option maxRecDepth 20000 in
theorem xiw_X12_38 : u_lay RX12 TX12 38 ∈ xgt := (show Cond.laysFinal RX12 (TX12 38).1 (TX12 38).2.1 (TX12 38).2.2.1 ∈ xgt from wm_6 225 rfl rfl)
set_option maxRecDepth 20000 in
theorem xiw_X12_39 : u_lay RX12 TX12 39 ∈ xgt := (show Cond.laysFinal RX12 (TX12 39).1 (TX12 39).2.1 (TX12 39).2.2.1 ∈ xgt from wm_6 227 rfl rfl)
set_option maxRecDepth 20000 in
theorem xiw_X12_40 : u_lay RX12 TX12 40 ∈ xgt := (show Cond.laysFinal RX12 (TX12 40).1 (TX12 40).2.1 (TX12 40).2.2.1 ∈ xgt from wm_6 229 rfl rfl)
set_option maxRecDepth 20000 in
theorem xiw_X12_41 : u_lay RX12 TX12 41 ∈ xgt := (show Cond.laysFinal RX12 (TX12 41).1 (TX12 41).2.1 (TX12 41).2.2.1 ∈ xgt from wm_6 231 rfl rfl)
set_option maxRecDepth 20000 in
theorem xiw_X12_42 : u_lay RX12 TX12 42 ∈ xgt := (show Cond.laysFinal RX12 (TX12 42).1 (TX12 42).2.1 (TX12 42).2.2.1 ∈ xgt from wm_6 233 rfl rfl)
set_option maxRecDepth 20000 in
theorem xiw_X12_43 : u_lay RX12 TX12 43 ∈ xgt := (show Cond.laysFinal RX12 (TX12 43).1 (TX12 43).2.1 (TX12 43).2.2.1 ∈ xgt from wm_6 235 rfl rfl)
set_option maxRecDepth 20000 in
theorem xiw_X12_44 : u_lay RX12 TX12 44 ∈ xgt := (show Cond.laysFinal RX12 (TX12 44).1 (TX12 44).2.1 (TX12 44).2.2.1 ∈ xgt from wm_6 237 rfl rfl)
set_option maxRecDepth 20000 in
theorem xiw_X12_45 : u_lay RX12 TX12 45 ∈ xgt := (show Cond.laysFinal RX12 (TX12 45).1 (TX12 45).2.1 (TX12 45).2.2.1 ∈ xgt from wm_6 239 rfl rfl)
set_option maxRecDepth 20000 in
theorem xiw_X12_46 : u_lay RX12 TX12 46 ∈ xgt := (show Cond.laysFinal RX12 (TX12 46).1 (TX12 46).2.1 (TX12 46).2.2.1 ∈ xgt from wm_7 1 rfl rfl)
set_option maxRecDepth 20000 in
theorem xiw_X12_47 : u_lay RX12 TX12 47 ∈ xgt := (show Cond.laysFinal RX12 (TX12 47).1 (TX12 47).2.1 (TX12 47).2.2.1 ∈ xgt from wm_7 3 rfl rfl)
set_option maxRecDepth 20000 in
theorem xiw_X12_48 : u_lay RX12 TX12 48 ∈ xgt := (show Cond.laysFinal RX12 (TX12 48).1 (TX12 48).2.1 (TX12 48).2.2.1 ∈ xgt from wm_7 5 rfl rfl)
set_option maxRecDepth 20000 in
theorem xiw_X12_49 : u_lay RX12 TX12 49 ∈ xgt := (show Cond.lays RX12 (TX12 49).1 (TX12 49).2.1 (TX12 49).2.2.1 ∈ xgt from wm_7 7 rfl rfl)
set_option maxRecDepth 20000 in
theorem xiw_X12_50 : u_lay RX12 TX12 50 ∈ xgt := (show Cond.laysFinal RX12 (TX12 50).1 (TX12 50).2.1 (TX12 50).2.2.1 ∈ xgt from wm_7 9 rfl rfl)
set_option maxRecDepth 20000 in
theorem xiw_X12_51 : u_lay RX12 TX12 51 ∈ xgt := (show Cond.laysFinal RX12 (TX12 51).1 (TX12 51).2.1 (TX12 51).2.2.1 ∈ xgt from wm_7 11 rfl rfl)
set_option maxRecDepth 20000 in
theorem xiw_X12_52 : u_lay RX12 TX12 52 ∈ xgt := (show Cond.lays RX12 (TX12 52).1 (TX12 52).2.1 (TX12 52).2.2.1 ∈ xgt from wm_7 13 rfl rfl)
set_option maxRecDepth 20000 in
theorem xiw_X12_53 : u_lay RX12 TX12 53 ∈ xgt := (show Cond.laysFinal RX12 (TX12 53).1 (TX12 53).2.1 (TX12 53).2.2.1 ∈ xgt from wm_7 15 rfl rfl)
set_option maxRecDepth 20000 in
theorem xiw_X12_54 : u_lay RX12 TX12 54 ∈ xgt := (show Cond.laysFinal RX12 (TX12 54).1 (TX12 54).2.1 (TX12 54).2.2.1 ∈ xgt from wm_7 17 rfl rfl)
set_option maxRecDepth 20000 in
theorem xiw_X12_55 : u_lay RX12 TX12 55 ∈ xgt := (show Cond.laysFinal RX12 (TX12 55).1 (TX12 55).2.1 (TX12 55).2.2.1 ∈ xgt from wm_7 19 rfl rfl)
set_option maxRecDepth 20000 in
theorem xiw_X12_56 : u_lay RX12 TX12 56 ∈ xgt := (show Cond.laysFinal RX12 (TX12 56).1 (TX12 56).2.1 (TX12 56).2.2.1 ∈ xgt from wm_7 21 rfl rfl)
set_option maxRecDepth 20000 in
theorem xiw_X12_57 : u_lay RX12 TX12 57 ∈ xgt := (show Cond.laysFinal RX12 (TX12 57).1 (TX12 57).2.1 (TX12 57).2.2.1 ∈ xgt from wm_7 23 rfl rfl)
set_option maxRecDepth 20000 in
theorem xiw_X12_58 : u_lay RX12 TX12 58 ∈ xgt := (show Cond.laysFinal RX12 (TX12 58).1 (TX12 58).2.1 (TX12 58).2.2.1 ∈ xgt from wm_7 25 rfl rfl)
set_option maxRecDepth 20000 in
theorem xiw_X12_59 : u_lay RX12 TX12 59 ∈ xgt := (show Cond.lays RX12 (TX12 59).1 (TX12 59).2.1 (TX12 59).2.2.1 ∈ xgt from wm_7 27 rfl rfl)
set_option maxRecDepth 20000 in
theorem xiw_X12_60 : u_lay RX12 TX12 60 ∈ xgt := (show Cond.lays RX12 (TX12 60).1 (TX12 60).2.1 (TX12 60).2.2.1 ∈ xgt from wm_7 29 rfl rfl)
set_option maxRecDepth 20000 in
theorem xiw_X12_61 : u_lay RX12 TX12 61 ∈ xgt := (show Cond.lays RX12 (TX12 61).1 (TX12 61).2.1 (TX12 61).2.2.1 ∈ xgt from wm_7 31 rfl rfl)
set_option maxRecDepth 20000 in
theorem xiw_X12_62 : u_lay RX12 TX12 62 ∈ xgt := (show Cond.lays RX12 (TX12 62).1 (TX12 62).2.1 (TX12 62).2.2.1 ∈ xgt from wm_7 33 rfl rfl)
set_option maxRecDepth 20000 in
theorem xiw_X12_63 : u_lay RX12 TX12 63 ∈ xgt := (show Cond.laysFinal RX12 (TX12 63).1 (TX12 63).2.1 (TX12 63).2.2.1 ∈ xgt from wm_7 35 rfl rfl)
set_option maxRecDepth 20000 in
theorem xiw_X12_64 : u_lay RX12 TX12 64 ∈ xgt := (show Cond.laysFinal RX12 (TX12 64).1 (TX12 64).2.1 (TX12 64).2.2.1 ∈ xgt from wm_7 37 rfl rfl)
set_option maxRecDepth 20000 in
theorem xiw_X12_65 : u_lay RX12 TX12 65 ∈ xgt := (show Cond.laysFinal RX12 (TX12 65).1 (TX12 65).2.1 (TX12 65).2.2.1 ∈ xgt from wm_7 39 rfl rfl)
set_option maxRecDepth 20000 in
theorem xiw_X12_66 : u_lay RX12 TX12 66 ∈ xgt := (show Cond.laysFinal RX12 (TX12 66).1 (TX12 66).2.1 (TX12 66).2.2.1 ∈ xgt from wm_7 41 rfl rfl)
set_option maxRecDepth 20000 in
theorem xiw_X12_67 : u_lay RX12 TX12 67 ∈ xgt := (show Cond.laysFinal RX12 (TX12 67).1 (TX12 67).2.1 (TX12 67).2.2.1 ∈ xgt from wm_7 43 rfl rfl)
set_option maxRecDepth 20000 in
theorem xiw_X12_68 : u_lay RX12 TX12 68 ∈ xgt := (show Cond.lays RX12 (TX12 68).1 (TX12 68).2.1 (TX12 68).2.2.1 ∈ xgt from wm_7 45 rfl rfl)
theorem xin_X12 : ∀ w ∈ u_ws RX12 TX12 69, w ∈ xgt := xcnz xiw_X12_0 <| xcnz xiw_X12_1 <| xcnz xiw_X12_2 <| xcnz xiw_X12_3 <| xcnz xiw_X12_4 <| xcnz xiw_X12_5 <| xcnz xiw_X12_6 <| xcnz xiw_X12_7 <| xcnz xiw_X12_8 <| xcnz xiw_X12_9 <| xcnz xiw_X12_10 <| xcnz xiw_X12_11 <| xcnz xiw_X12_12 <| xcnz xiw_X12_13 <| xcnz xiw_X12_14 <| xcnz xiw_X12_15 <| xcnz xiw_X12_16 <| xcnz xiw_X12_17 <| xcnz xiw_X12_18 <| xcnz xiw_X12_19 <| xcnz xiw_X12_20 <| xcnz xiw_X12_21 <| xcnz xiw_X12_22 <| xcnz xiw_X12_23 <| xcnz xiw_X12_24 <| xcnz xiw_X12_25 <| xcnz xiw_X12_26 <| xcnz xiw_X12_27 <| xcnz xiw_X12_28 <| xcnz xiw_X12_29 <| xcnz xiw_X12_30 <| xcnz xiw_X12_31 <| xcnz xiw_X12_32 <| xcnz xiw_X12_33 <| xcnz xiw_X12_34 <| xcnz xiw_X12_35 <| xcnz xiw_X12_36 <| xcnz xiw_X12_37 <| xcnz xiw_X12_38 <| xcnz xiw_X12_39 <| xcnz xiw_X12_40 <| xcnz xiw_X12_41 <| xcnz xiw_X12_42 <| xcnz xiw_X12_43 <| xcnz xiw_X12_44 <| xcnz xiw_X12_45 <| xcnz xiw_X12_46 <| xcnz xiw_X12_47 <| xcnz xiw_X12_48 <| xcnz xiw_X12_49 <| xcnz xiw_X12_50 <| xcnz xiw_X12_51 <| xcnz xiw_X12_52 <| xcnz xiw_X12_53 <| xcnz xiw_X12_54 <| xcnz xiw_X12_55 <| xcnz xiw_X12_56 <| xcnz xiw_X12_57 <| xcnz xiw_X12_58 <| xcnz xiw_X12_59 <| xcnz xiw_X12_60 <| xcnz xiw_X12_61 <| xcnz xiw_X12_62 <| xcnz xiw_X12_63 <| xcnz xiw_X12_64 <| xcnz xiw_X12_65 <| xcnz xiw_X12_66 <| xcnz xiw_X12_67 <| xcnz xiw_X12_68 <| xnlz
