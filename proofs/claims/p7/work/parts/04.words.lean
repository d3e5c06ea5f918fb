theorem wk_gq {L : List Cond} (hL : ∀ w ∈ L, w ∈ lw_tbl) {w : Cond} (i : Nat) (h : L[i]? = some w) (h2 : goodWord w = true) : w ∈ lw_g := List.mem_filter.mpr ⟨hL w (List.mem_of_getElem? h), h2⟩
theorem wk_m1 : ∀ w ∈ tables_1_1, w ∈ lw_tbl := fun w h => List.mem_append_right _ (List.mem_append_left _ h)
theorem wk_m2 : ∀ w ∈ tables_1_2, w ∈ lw_tbl := fun w h => List.mem_append_right _ (List.mem_append_right _ (List.mem_append_left _ h))
theorem wk_m3 : ∀ w ∈ tables_1_3, w ∈ lw_tbl := fun w h => List.mem_append_right _ (List.mem_append_right _ (List.mem_append_right _ (List.mem_append_left _ h)))
theorem wk_m4 : ∀ w ∈ tables_1_4, w ∈ lw_tbl := fun w h => List.mem_append_right _ (List.mem_append_right _ (List.mem_append_right _ (List.mem_append_right _ (List.mem_append_left _ h))))
theorem wk_m5 : ∀ w ∈ tables_1_5, w ∈ lw_tbl := fun w h => List.mem_append_right _ (List.mem_append_right _ (List.mem_append_right _ (List.mem_append_right _ (List.mem_append_right _ (h)))))
set_option maxRecDepth 20000 in
theorem inX0 : ∀ w ∈ u_ws RX0 TX0 0, w ∈ lw_g := fun _ h => absurd h List.not_mem_nil
set_option maxRecDepth 20000 in
theorem inX1 : ∀ w ∈ u_ws RX1 TX1 0, w ∈ lw_g := fun _ h => absurd h List.not_mem_nil
set_option maxRecDepth 20000 in
theorem inX2 : ∀ w ∈ u_ws RX2 TX2 6, w ∈ lw_g := List.forall_mem_cons.mpr ⟨wk_gq wk_m1 119 rfl rfl, List.forall_mem_cons.mpr ⟨wk_gq wk_m1 121 rfl rfl, List.forall_mem_cons.mpr ⟨wk_gq wk_m1 123 rfl rfl, List.forall_mem_cons.mpr ⟨wk_gq wk_m1 125 rfl rfl, List.forall_mem_cons.mpr ⟨wk_gq wk_m1 127 rfl rfl, List.forall_mem_cons.mpr ⟨wk_gq wk_m1 129 rfl rfl, fun _ h => absurd h List.not_mem_nil⟩⟩⟩⟩⟩⟩
set_option maxRecDepth 20000 in
theorem inX3 : ∀ w ∈ u_ws RX3 TX3 0, w ∈ lw_g := fun _ h => absurd h List.not_mem_nil
set_option maxRecDepth 20000 in
theorem inX4 : ∀ w ∈ u_ws RX4 TX4 4, w ∈ lw_g := List.forall_mem_cons.mpr ⟨wk_gq wk_m1 98 rfl rfl, List.forall_mem_cons.mpr ⟨wk_gq wk_m1 100 rfl rfl, List.forall_mem_cons.mpr ⟨wk_gq wk_m1 102 rfl rfl, List.forall_mem_cons.mpr ⟨wk_gq wk_m1 104 rfl rfl, fun _ h => absurd h List.not_mem_nil⟩⟩⟩⟩
set_option maxRecDepth 20000 in
theorem inX5 : ∀ w ∈ u_ws RX5 TX5 0, w ∈ lw_g := fun _ h => absurd h List.not_mem_nil
set_option maxRecDepth 20000 in
theorem inX6 : ∀ w ∈ u_ws RX6 TX6 2, w ∈ lw_g := List.forall_mem_cons.mpr ⟨wk_gq wk_m1 33 rfl rfl, List.forall_mem_cons.mpr ⟨wk_gq wk_m1 35 rfl rfl, fun _ h => absurd h List.not_mem_nil⟩⟩
set_option maxRecDepth 20000 in
theorem inX7 : ∀ w ∈ u_ws RX7 TX7 0, w ∈ lw_g := fun _ h => absurd h List.not_mem_nil
set_option maxRecDepth 20000 in
theorem inX8 : ∀ w ∈ u_ws RX8 TX8 5, w ∈ lw_g := List.forall_mem_cons.mpr ⟨wk_gq wk_m1 72 rfl rfl, List.forall_mem_cons.mpr ⟨wk_gq wk_m1 74 rfl rfl, List.forall_mem_cons.mpr ⟨wk_gq wk_m1 76 rfl rfl, List.forall_mem_cons.mpr ⟨wk_gq wk_m1 78 rfl rfl, List.forall_mem_cons.mpr ⟨wk_gq wk_m1 80 rfl rfl, fun _ h => absurd h List.not_mem_nil⟩⟩⟩⟩⟩
set_option maxRecDepth 20000 in
theorem inX9 : ∀ w ∈ u_ws RX9 TX9 8, w ∈ lw_g := List.forall_mem_cons.mpr ⟨wk_gq wk_m1 172 rfl rfl, List.forall_mem_cons.mpr ⟨wk_gq wk_m1 174 rfl rfl, List.forall_mem_cons.mpr ⟨wk_gq wk_m1 176 rfl rfl, List.forall_mem_cons.mpr ⟨wk_gq wk_m1 178 rfl rfl, List.forall_mem_cons.mpr ⟨wk_gq wk_m1 180 rfl rfl, List.forall_mem_cons.mpr ⟨wk_gq wk_m1 182 rfl rfl, List.forall_mem_cons.mpr ⟨wk_gq wk_m1 184 rfl rfl, List.forall_mem_cons.mpr ⟨wk_gq wk_m1 186 rfl rfl, fun _ h => absurd h List.not_mem_nil⟩⟩⟩⟩⟩⟩⟩⟩
set_option maxRecDepth 20000 in
theorem inX10 : ∀ w ∈ u_ws RX10 TX10 3, w ∈ lw_g := List.forall_mem_cons.mpr ⟨wk_gq wk_m1 145 rfl rfl, List.forall_mem_cons.mpr ⟨wk_gq wk_m1 147 rfl rfl, List.forall_mem_cons.mpr ⟨wk_gq wk_m1 149 rfl rfl, fun _ h => absurd h List.not_mem_nil⟩⟩⟩
set_option maxRecDepth 20000 in
theorem inX11 : ∀ w ∈ u_ws RX11 TX11 10, w ∈ lw_g := List.forall_mem_cons.mpr ⟨wk_gq wk_m1 199 rfl rfl, List.forall_mem_cons.mpr ⟨wk_gq wk_m1 201 rfl rfl, List.forall_mem_cons.mpr ⟨wk_gq wk_m1 203 rfl rfl, List.forall_mem_cons.mpr ⟨wk_gq wk_m1 205 rfl rfl, List.forall_mem_cons.mpr ⟨wk_gq wk_m1 207 rfl rfl, List.forall_mem_cons.mpr ⟨wk_gq wk_m1 209 rfl rfl, List.forall_mem_cons.mpr ⟨wk_gq wk_m1 211 rfl rfl, List.forall_mem_cons.mpr ⟨wk_gq wk_m1 213 rfl rfl, List.forall_mem_cons.mpr ⟨wk_gq wk_m1 215 rfl rfl, List.forall_mem_cons.mpr ⟨wk_gq wk_m1 217 rfl rfl, fun _ h => absurd h List.not_mem_nil⟩⟩⟩⟩⟩⟩⟩⟩⟩⟩
set_option maxRecDepth 20000 in
theorem inX12 : ∀ w ∈ u_ws RX12 TX12 44, w ∈ lw_g := List.forall_mem_cons.mpr ⟨wk_gq wk_m4 24 rfl rfl, List.forall_mem_cons.mpr ⟨wk_gq wk_m4 26 rfl rfl, List.forall_mem_cons.mpr ⟨wk_gq wk_m4 28 rfl rfl, List.forall_mem_cons.mpr ⟨wk_gq wk_m4 30 rfl rfl, List.forall_mem_cons.mpr ⟨wk_gq wk_m4 32 rfl rfl, List.forall_mem_cons.mpr ⟨wk_gq wk_m4 34 rfl rfl, List.forall_mem_cons.mpr ⟨wk_gq wk_m4 36 rfl rfl, List.forall_mem_cons.mpr ⟨wk_gq wk_m4 38 rfl rfl, List.forall_mem_cons.mpr ⟨wk_gq wk_m4 40 rfl rfl, List.forall_mem_cons.mpr ⟨wk_gq wk_m4 42 rfl rfl, List.forall_mem_cons.mpr ⟨wk_gq wk_m4 44 rfl rfl, List.forall_mem_cons.mpr ⟨wk_gq wk_m4 46 rfl rfl, List.forall_mem_cons.mpr ⟨wk_gq wk_m4 48 rfl rfl, List.forall_mem_cons.mpr ⟨wk_gq wk_m4 50 rfl rfl, List.forall_mem_cons.mpr ⟨wk_gq wk_m4 52 rfl rfl, List.forall_mem_cons.mpr ⟨wk_gq wk_m4 54 rfl rfl, List.forall_mem_cons.mpr ⟨wk_gq wk_m4 56 rfl rfl, List.forall_mem_cons.mpr ⟨wk_gq wk_m4 58 rfl rfl, List.forall_mem_cons.mpr ⟨wk_gq wk_m4 60 rfl rfl, List.forall_mem_cons.mpr ⟨wk_gq wk_m4 62 rfl rfl, List.forall_mem_cons.mpr ⟨wk_gq wk_m4 64 rfl rfl, List.forall_mem_cons.mpr ⟨wk_gq wk_m4 66 rfl rfl, List.forall_mem_cons.mpr ⟨wk_gq wk_m4 68 rfl rfl, List.forall_mem_cons.mpr ⟨wk_gq wk_m4 70 rfl rfl, List.forall_mem_cons.mpr ⟨wk_gq wk_m4 72 rfl rfl, List.forall_mem_cons.mpr ⟨wk_gq wk_m4 74 rfl rfl, List.forall_mem_cons.mpr ⟨wk_gq wk_m4 76 rfl rfl, List.forall_mem_cons.mpr ⟨wk_gq wk_m4 78 rfl rfl, List.forall_mem_cons.mpr ⟨wk_gq wk_m4 80 rfl rfl, List.forall_mem_cons.mpr ⟨wk_gq wk_m4 82 rfl rfl, List.forall_mem_cons.mpr ⟨wk_gq wk_m4 84 rfl rfl, List.forall_mem_cons.mpr ⟨wk_gq wk_m4 86 rfl rfl, List.forall_mem_cons.mpr ⟨wk_gq wk_m4 88 rfl rfl, List.forall_mem_cons.mpr ⟨wk_gq wk_m4 90 rfl rfl, List.forall_mem_cons.mpr ⟨wk_gq wk_m4 92 rfl rfl, List.forall_mem_cons.mpr ⟨wk_gq wk_m4 94 rfl rfl, List.forall_mem_cons.mpr ⟨wk_gq wk_m4 96 rfl rfl, List.forall_mem_cons.mpr ⟨wk_gq wk_m4 98 rfl rfl, List.forall_mem_cons.mpr ⟨wk_gq wk_m4 100 rfl rfl, List.forall_mem_cons.mpr ⟨wk_gq wk_m4 102 rfl rfl, List.forall_mem_cons.mpr ⟨wk_gq wk_m4 104 rfl rfl, List.forall_mem_cons.mpr ⟨wk_gq wk_m4 106 rfl rfl, List.forall_mem_cons.mpr ⟨wk_gq wk_m4 108 rfl rfl, List.forall_mem_cons.mpr ⟨wk_gq wk_m4 110 rfl rfl, fun _ h => absurd h List.not_mem_nil⟩⟩⟩⟩⟩⟩⟩⟩⟩⟩⟩⟩⟩⟩⟩⟩⟩⟩⟩⟩⟩⟩⟩⟩⟩⟩⟩⟩⟩⟩⟩⟩⟩⟩⟩⟩⟩⟩⟩⟩⟩⟩⟩⟩
set_option maxRecDepth 20000 in
theorem tw_0 : Cond.selects RX6 yX6_signsOfKey yX6_signsOfKey ∈ lw_g := wk_g 0 rfl rfl
set_option maxRecDepth 20000 in
theorem tw_1 : Cond.selects RX6 yX6_fits yX6_fits ∈ lw_g := wk_g 1 rfl rfl
set_option maxRecDepth 20000 in
theorem tw_2 : Cond.selects RX6 yX6_keyAt yX6_keyAt ∈ lw_g := wk_g 2 rfl rfl
set_option maxRecDepth 20000 in
theorem tw_3 : Cond.selects RX6 yX6_digitAt yX6_digitAt ∈ lw_g := wk_g 3 rfl rfl
set_option maxRecDepth 20000 in
theorem tw_4 : Cond.selects RX8 yX8_fill yX8_fill ∈ lw_g := wk_g 4 rfl rfl
set_option maxRecDepth 20000 in
theorem tw_5 : Cond.selects RX11 yX11_raiseTowers yX11_raiseTowers ∈ lw_g := wk_g 5 rfl rfl
set_option maxRecDepth 20000 in
theorem tw_6 : Cond.selects RX11 yX11_isKind yX11_isKind ∈ lw_g := wk_g 6 rfl rfl
set_option maxRecDepth 20000 in
theorem tw_7 : Cond.selects RX11 yX11_namesNoKey yX11_namesNoKey ∈ lw_g := wk_g 7 rfl rfl
set_option maxRecDepth 20000 in
theorem tw_8 : Cond.selects RX11 yX11_looksFor yX11_looksFor ∈ lw_g := wk_g 8 rfl rfl
set_option maxRecDepth 20000 in
theorem tw_9 : Cond.selects RX11 yX11_laneOf yX11_laneOf ∈ lw_g := wk_g 9 rfl rfl
set_option maxRecDepth 20000 in
theorem tw_10 : Cond.selects RX9 yX9_agrees yX9_agrees ∈ lw_g := wk_g 10 rfl rfl
set_option maxRecDepth 20000 in
theorem tw_11 : Cond.selects RX9 yX9_leftAtWorst yX9_leftAtWorst ∈ lw_g := wk_g 11 rfl rfl
set_option maxRecDepth 20000 in
theorem tw_12 : Cond.selects RX9 yX9_alike yX9_alike ∈ lw_g := wk_g 12 rfl rfl
set_option maxRecDepth 20000 in
theorem tw_13 : Cond.selects RX8 yX8_reaches yX8_reaches ∈ lw_g := wk_g 13 rfl rfl
set_option maxRecDepth 20000 in
theorem tw_14 : Cond.selects RX11 yX11_valueOf yX11_valueOf ∈ lw_g := wk_g 14 rfl rfl
set_option maxRecDepth 20000 in
theorem tw_15 : Cond.selects RX11 yX11_changeIsMade yX11_changeIsMade ∈ lw_g := wk_g 15 rfl rfl
set_option maxRecDepth 20000 in
theorem tw_16 : Cond.selects RX9 yX9_weigh yX9_weigh ∈ lw_g := wk_g 16 rfl rfl
set_option maxRecDepth 20000 in
theorem tw_17 : Cond.selects RX9 yX9_nextWay yX9_nextWay ∈ lw_g := wk_g 17 rfl rfl
set_option maxRecDepth 20000 in
theorem tw_18 : Cond.selects RX9 yX9_weighChange yX9_weighChange ∈ lw_g := wk_g 18 rfl rfl
set_option maxRecDepth 20000 in
theorem tw_19 : Cond.selects RX11 yX11_withKey yX11_withKey ∈ lw_g := wk_g 19 rfl rfl
set_option maxRecDepth 20000 in
theorem tw_20 : Cond.selects RX11 yX11_withLanes yX11_withLanes ∈ lw_g := wk_g 20 rfl rfl
set_option maxRecDepth 20000 in
theorem tw_21 : Cond.selects RX11 yX11_withRow yX11_withRow ∈ lw_g := wk_g 21 rfl rfl
set_option maxRecDepth 20000 in
theorem tw_22 : Cond.selects RX12 yX12_faultOf yX12_faultOf ∈ lw_g := wk_g 22 rfl rfl
set_option maxRecDepth 20000 in
theorem tw_23 : Cond.selects RX12 yX12_isGood yX12_isGood ∈ lw_g := wk_g 23 rfl rfl
set_option maxRecDepth 20000 in
theorem tw_24 : Cond.selects RX12 yX12_isKeyLetter yX12_isKeyLetter ∈ lw_g := wk_g 24 rfl rfl
set_option maxRecDepth 20000 in
theorem tw_25 : Cond.selects RX12 yX12_wide yX12_wide ∈ lw_g := wk_g 25 rfl rfl
set_option maxRecDepth 20000 in
theorem tw_26 : Cond.selects RX12 yX12_keyAt yX12_keyAt ∈ lw_g := wk_g 26 rfl rfl
set_option maxRecDepth 20000 in
theorem tw_27 : Cond.selects RX12 yX12_layHeights yX12_layHeights ∈ lw_g := wk_g 27 rfl rfl
set_option maxRecDepth 20000 in
theorem tw_28 : Cond.selects RX12 yX12_heightBy yX12_heightBy ∈ lw_g := wk_g 28 rfl rfl
set_option maxRecDepth 20000 in
theorem tw_29 : Cond.selects RX12 yX12_lacks yX12_lacks ∈ lw_g := wk_g 29 rfl rfl
set_option maxRecDepth 20000 in
theorem tw_30 : Cond.selects RX12 yX12_lookFor yX12_lookFor ∈ lw_g := wk_g 30 rfl rfl
set_option maxRecDepth 20000 in
theorem tw_31 : Cond.selects RX12 yX12_lanes yX12_lanes ∈ lw_g := wk_g 31 rfl rfl
set_option maxRecDepth 20000 in
theorem tw_32 : Cond.selects RX12 yX12_look yX12_look ∈ lw_g := wk_g 32 rfl rfl
set_option maxRecDepth 20000 in
theorem tw_33 : Cond.selects RX12 yX12_nextIn yX12_nextIn ∈ lw_g := wk_g 33 rfl rfl
set_option maxRecDepth 20000 in
theorem tw_34 : Cond.selects RX12 yX12_tellFound yX12_tellFound ∈ lw_g := wk_g 34 rfl rfl
set_option maxRecDepth 20000 in
theorem tw_35 : Cond.selects RX12 yX12_isNumber yX12_isNumber ∈ lw_g := wk_g 35 rfl rfl
set_option maxRecDepth 20000 in
theorem tw_36 : Cond.selects RX12 yX12_lookNumber yX12_lookNumber ∈ lw_g := wk_g 36 rfl rfl
set_option maxRecDepth 20000 in
theorem tw_37 : Cond.selects RX12 yX12_tellKey yX12_tellKey ∈ lw_g := wk_g 37 rfl rfl
set_option maxRecDepth 20000 in
theorem tw_38 : Cond.selects RX12 yX12_widthOf yX12_widthOf ∈ lw_g := wk_g 38 rfl rfl
set_option maxRecDepth 20000 in
theorem tw_39 : Cond.selects RX12 yX12_weightOf yX12_weightOf ∈ lw_g := wk_g 39 rfl rfl
set_option maxRecDepth 20000 in
theorem tw_40 : Cond.selects RX12 yX12_looksFor yX12_looksFor ∈ lw_g := wk_g 40 rfl rfl
set_option maxRecDepth 20000 in
theorem tw_41 : Cond.selects RX12 yX12_heightsOf yX12_heightsOf ∈ lw_g := wk_g 41 rfl rfl
set_option maxRecDepth 20000 in
theorem tw_42 : Cond.selects RX12 yX12_looksIf yX12_looksIf ∈ lw_g := wk_g 42 rfl rfl
set_option maxRecDepth 20000 in
theorem tw_43 : Cond.selects RX12 yX12_tryOf yX12_tryOf ∈ lw_g := wk_g 43 rfl rfl
set_option maxRecDepth 20000 in
theorem tw_44 : Cond.selects RX12 yX12_worstBy yX12_worstBy ∈ lw_g := wk_g 44 rfl rfl
set_option maxRecDepth 20000 in
theorem tw_45 : Cond.selects RX12 yX12_tellLane yX12_tellLane ∈ lw_g := wk_g 45 rfl rfl
set_option maxRecDepth 20000 in
theorem tw_46 : Cond.selects RX12 yX12_inLane yX12_inLane ∈ lw_g := wk_g 46 rfl rfl
set_option maxRecDepth 20000 in
theorem tw_47 : Cond.selects RX12 yX12_widest yX12_widest ∈ lw_g := wk_g 47 rfl rfl
set_option maxRecDepth 20000 in
theorem tw_48 : Cond.selects RX12 yX12_tapeAt yX12_tapeAt ∈ lw_g := wk_g 48 rfl rfl
set_option maxRecDepth 20000 in
theorem tw_49 : Cond.selects RX12 yX12_isThere yX12_isThere ∈ lw_g := wk_g 49 rfl rfl
set_option maxRecDepth 20000 in
theorem tw_50 : Cond.selects RX12 yX12_placeOf yX12_placeOf ∈ lw_g := wk_g 50 rfl rfl
set_option maxRecDepth 20000 in
theorem tw_51 : Cond.selects RX12 yX12_moveUp yX12_moveUp ∈ lw_g := wk_g 51 rfl rfl
set_option maxRecDepth 20000 in
theorem tw_52 : Cond.selects RX12 yX12_moveDown yX12_moveDown ∈ lw_g := wk_g 52 rfl rfl
set_option maxRecDepth 20000 in
theorem tw_53 : Cond.selects RX12 yX12_costOf yX12_costOf ∈ lw_g := wk_g 53 rfl rfl
set_option maxRecDepth 20000 in
theorem tw_54 : Cond.selects RX12 yX12_bestOf yX12_bestOf ∈ lw_g := wk_g 54 rfl rfl
set_option maxRecDepth 20000 in
theorem tw_55 : Cond.selects RX12 yX12_linksOf yX12_linksOf ∈ lw_g := wk_g 55 rfl rfl
set_option maxRecDepth 20000 in
theorem tw_56 : Cond.selects RX12 yX12_changeOf yX12_changeOf ∈ lw_g := wk_g 56 rfl rfl
set_option maxRecDepth 20000 in
theorem tw_57 : Cond.selects RX12 yX12_draw yX12_draw ∈ lw_g := wk_g 57 rfl rfl
set_option maxRecDepth 20000 in
theorem tw_58 : Cond.selects RX12 yX12_countOf yX12_countOf ∈ lw_g := wk_g 58 rfl rfl
set_option maxRecDepth 20000 in
theorem tw_59 : Cond.selects RX12 yX12_sumOf yX12_sumOf ∈ lw_g := wk_g 59 rfl rfl
set_option maxRecDepth 20000 in
theorem tw_60 : Cond.selects RX12 yX12_sayKey yX12_sayKey ∈ lw_g := wk_g 60 rfl rfl
set_option maxRecDepth 20000 in
theorem tw_61 : Cond.selects RX12 yX12_say yX12_say ∈ lw_g := wk_g 61 rfl rfl
set_option maxRecDepth 20000 in
theorem tw_62 : Cond.selects RX12 yX12_sayRow yX12_sayRow ∈ lw_g := wk_g 62 rfl rfl
set_option maxRecDepth 20000 in
theorem tw_63 : Cond.initialized RL ∈ lw_g := wk_gq wk_m1 0 rfl rfl
set_option maxRecDepth 20000 in
theorem tw_64 : Cond.initialized RX11 ∈ lw_g := wk_gq wk_m1 1 rfl rfl
set_option maxRecDepth 20000 in
theorem tw_65 : Cond.initialized RX6 ∈ lw_g := wk_gq wk_m1 2 rfl rfl
set_option maxRecDepth 20000 in
theorem tw_66 : Cond.initialized RX2 ∈ lw_g := wk_gq wk_m1 3 rfl rfl
set_option maxRecDepth 20000 in
theorem tw_67 : Cond.initialized RX8 ∈ lw_g := wk_gq wk_m1 4 rfl rfl
set_option maxRecDepth 20000 in
theorem tw_68 : Cond.initialized RX4 ∈ lw_g := wk_gq wk_m1 5 rfl rfl
set_option maxRecDepth 20000 in
theorem tw_69 : Cond.initialized RX10 ∈ lw_g := wk_gq wk_m1 6 rfl rfl
set_option maxRecDepth 20000 in
theorem tw_70 : Cond.initialized RX9 ∈ lw_g := wk_gq wk_m1 7 rfl rfl
set_option maxRecDepth 20000 in
theorem tw_71 : Cond.initialized RX12 ∈ lw_g := wk_gq wk_m1 8 rfl rfl
set_option maxRecDepth 20000 in
theorem tw_72 : Cond.initialized RX3 ∈ lw_g := wk_gq wk_m1 9 rfl rfl
set_option maxRecDepth 20000 in
theorem tw_73 : Cond.initialized RX1 ∈ lw_g := wk_gq wk_m1 10 rfl rfl
set_option maxRecDepth 20000 in
theorem tw_74 : Cond.initialized RX5 ∈ lw_g := wk_gq wk_m1 11 rfl rfl
set_option maxRecDepth 20000 in
theorem tw_75 : Cond.initialized RX0 ∈ lw_g := wk_gq wk_m1 12 rfl rfl
set_option maxRecDepth 20000 in
theorem tw_76 : Cond.initialized RX7 ∈ lw_g := wk_gq wk_m1 13 rfl rfl
set_option maxRecDepth 20000 in
theorem tw_77 : Cond.initialized RJ9 ∈ lw_g := wk_gq wk_m1 14 rfl rfl
set_option maxRecDepth 20000 in
theorem tw_78 : Cond.classLink RL 7 RX11 ∈ lw_g := wk_gq wk_m1 15 rfl rfl
set_option maxRecDepth 20000 in
theorem tw_79 : Cond.instantiable RX11 10 ∈ lw_g := wk_gq wk_m1 16 rfl rfl
set_option maxRecDepth 20000 in
theorem tw_80 : Cond.methodLink RL 9 yX11_init ∈ lw_g := wk_gq wk_m1 17 rfl rfl
set_option maxRecDepth 20000 in
theorem tw_81 : Cond.instanceMethod yX11_init ∈ lw_g := wk_gq wk_m1 18 rfl rfl
set_option maxRecDepth 20000 in
theorem tw_82 : Cond.code yX11_init cX11_init 1 none ∈ lw_g := wk_gq wk_m1 19 rfl rfl
set_option maxRecDepth 20000 in
theorem tw_83 : Cond.methodLink RX11 1 objectInit ∈ lw_g := wk_gq wk_m1 20 rfl rfl
set_option maxRecDepth 20000 in
theorem tw_84 : Cond.instanceMethod objectInit ∈ lw_g := wk_gq wk_m1 21 rfl rfl
set_option maxRecDepth 20000 in
theorem tw_85 : Cond.code objectInit ⟨#[0xb1]⟩ 1 none ∈ lw_g := wk_gq wk_m1 22 rfl rfl
set_option maxRecDepth 20000 in
theorem tw_86 : Cond.classLink RX11 7 RX6 ∈ lw_g := wk_gq wk_m1 23 rfl rfl
set_option maxRecDepth 20000 in
theorem tw_87 : Cond.instantiable RX6 2 ∈ lw_g := wk_gq wk_m1 24 rfl rfl
set_option maxRecDepth 20000 in
theorem tw_88 : Cond.methodLink RX11 9 yX6_init ∈ lw_g := wk_gq wk_m1 25 rfl rfl
set_option maxRecDepth 20000 in
theorem tw_89 : Cond.instanceMethod yX6_init ∈ lw_g := wk_gq wk_m1 26 rfl rfl
set_option maxRecDepth 20000 in
theorem tw_90 : Cond.code yX6_init cX6_init 1 none ∈ lw_g := wk_gq wk_m1 27 rfl rfl
set_option maxRecDepth 20000 in
theorem tw_91 : Cond.methodLink RX6 3 objectInit ∈ lw_g := wk_gq wk_m1 28 rfl rfl
set_option maxRecDepth 20000 in
theorem tw_92 : Cond.fieldLink RX6 9 "LaneRow$Text" "codes" "[I" ∈ lw_g := wk_gq wk_m1 29 rfl rfl
set_option maxRecDepth 20000 in
theorem tw_93 : Cond.fieldLink RX11 61 "LaneRow$Text" "codes" "[I" ∈ lw_g := wk_gq wk_m1 30 rfl rfl
set_option maxRecDepth 20000 in
theorem tw_94 : Cond.fieldLink RX6 15 "LaneRow$Text" "size" "I" ∈ lw_g := wk_gq wk_m1 31 rfl rfl
set_option maxRecDepth 20000 in
theorem tw_95 : Cond.fieldLink RX11 43 "LaneRow$Text" "size" "I" ∈ lw_g := wk_gq wk_m1 32 rfl rfl
set_option maxRecDepth 20000 in
theorem tw_101 : Cond.arrayClass .int ∈ lw_g := wk_gq wk_m1 38 rfl rfl
set_option maxRecDepth 20000 in
theorem tw_102 : Cond.classLink RX11 19 RX2 ∈ lw_g := wk_gq wk_m1 39 rfl rfl
set_option maxRecDepth 20000 in
theorem tw_103 : Cond.instantiable RX2 6 ∈ lw_g := wk_gq wk_m1 40 rfl rfl
set_option maxRecDepth 20000 in
theorem tw_104 : Cond.methodLink RX11 21 yX2_init ∈ lw_g := wk_gq wk_m1 41 rfl rfl
set_option maxRecDepth 20000 in
theorem tw_105 : Cond.instanceMethod yX2_init ∈ lw_g := wk_gq wk_m1 42 rfl rfl
set_option maxRecDepth 20000 in
theorem tw_106 : Cond.code yX2_init cX2_init 1 none ∈ lw_g := wk_gq wk_m1 43 rfl rfl
set_option maxRecDepth 20000 in
theorem tw_107 : Cond.methodLink RX2 1 objectInit ∈ lw_g := wk_gq wk_m1 44 rfl rfl
set_option maxRecDepth 20000 in
theorem tw_108 : Cond.classLink RX2 7 RX8 ∈ lw_g := wk_gq wk_m1 45 rfl rfl
set_option maxRecDepth 20000 in
theorem tw_109 : Cond.instantiable RX8 5 ∈ lw_g := wk_gq wk_m1 46 rfl rfl
set_option maxRecDepth 20000 in
theorem tw_110 : Cond.methodLink RX2 9 yX8_init ∈ lw_g := wk_gq wk_m1 47 rfl rfl
set_option maxRecDepth 20000 in
theorem tw_111 : Cond.instanceMethod yX8_init ∈ lw_g := wk_gq wk_m1 48 rfl rfl
set_option maxRecDepth 20000 in
theorem tw_112 : Cond.code yX8_init cX8_init 1 none ∈ lw_g := wk_gq wk_m1 49 rfl rfl
set_option maxRecDepth 20000 in
theorem tw_113 : Cond.methodLink RX8 3 objectInit ∈ lw_g := wk_gq wk_m1 50 rfl rfl
set_option maxRecDepth 20000 in
theorem tw_114 : Cond.fieldLink RX8 9 "LaneRow$Towers" "keys" "[I" ∈ lw_g := wk_gq wk_m1 51 rfl rfl
set_option maxRecDepth 20000 in
theorem tw_115 : Cond.fieldLink RX9 37 "LaneRow$Towers" "keys" "[I" ∈ lw_g := wk_gq wk_m1 52 rfl rfl
set_option maxRecDepth 20000 in
theorem tw_116 : Cond.fieldLink RX10 30 "LaneRow$Towers" "keys" "[I" ∈ lw_g := wk_gq wk_m1 53 rfl rfl
set_option maxRecDepth 20000 in
theorem tw_117 : Cond.fieldLink RX6 36 "LaneRow$Towers" "keys" "[I" ∈ lw_g := wk_gq wk_m1 54 rfl rfl
set_option maxRecDepth 20000 in
theorem tw_118 : Cond.fieldLink RX11 105 "LaneRow$Towers" "keys" "[I" ∈ lw_g := wk_gq wk_m1 55 rfl rfl
set_option maxRecDepth 20000 in
theorem tw_119 : Cond.fieldLink RX8 15 "LaneRow$Towers" "values" "[I" ∈ lw_g := wk_gq wk_m1 56 rfl rfl
set_option maxRecDepth 20000 in
theorem tw_120 : Cond.fieldLink RX6 39 "LaneRow$Towers" "values" "[I" ∈ lw_g := wk_gq wk_m1 57 rfl rfl
set_option maxRecDepth 20000 in
theorem tw_121 : Cond.fieldLink RX11 108 "LaneRow$Towers" "values" "[I" ∈ lw_g := wk_gq wk_m1 58 rfl rfl
set_option maxRecDepth 20000 in
theorem tw_122 : Cond.fieldLink RX8 18 "LaneRow$Towers" "heights" "[I" ∈ lw_g := wk_gq wk_m1 59 rfl rfl
set_option maxRecDepth 20000 in
theorem tw_123 : Cond.fieldLink RX6 46 "LaneRow$Towers" "heights" "[I" ∈ lw_g := wk_gq wk_m1 60 rfl rfl
set_option maxRecDepth 20000 in
theorem tw_124 : Cond.fieldLink RX9 78 "LaneRow$Towers" "heights" "[I" ∈ lw_g := wk_gq wk_m1 61 rfl rfl
set_option maxRecDepth 20000 in
theorem tw_125 : Cond.fieldLink RX11 111 "LaneRow$Towers" "heights" "[I" ∈ lw_g := wk_gq wk_m1 62 rfl rfl
set_option maxRecDepth 20000 in
theorem tw_126 : Cond.fieldLink RX8 21 "LaneRow$Towers" "heats" "[I" ∈ lw_g := wk_gq wk_m1 63 rfl rfl
set_option maxRecDepth 20000 in
theorem tw_127 : Cond.fieldLink RX9 34 "LaneRow$Towers" "heats" "[I" ∈ lw_g := wk_gq wk_m1 64 rfl rfl
set_option maxRecDepth 20000 in
theorem tw_128 : Cond.fieldLink RX11 114 "LaneRow$Towers" "heats" "[I" ∈ lw_g := wk_gq wk_m1 65 rfl rfl
set_option maxRecDepth 20000 in
theorem tw_129 : Cond.fieldLink RX8 24 "LaneRow$Towers" "size" "I" ∈ lw_g := wk_gq wk_m1 66 rfl rfl
set_option maxRecDepth 20000 in
theorem tw_130 : Cond.fieldLink RX2 26 "LaneRow$Towers" "size" "I" ∈ lw_g := wk_gq wk_m1 67 rfl rfl
set_option maxRecDepth 20000 in
theorem tw_131 : Cond.fieldLink RX10 9 "LaneRow$Towers" "size" "I" ∈ lw_g := wk_gq wk_m1 68 rfl rfl
set_option maxRecDepth 20000 in
theorem tw_132 : Cond.fieldLink RX9 28 "LaneRow$Towers" "size" "I" ∈ lw_g := wk_gq wk_m1 69 rfl rfl
set_option maxRecDepth 20000 in
theorem tw_133 : Cond.fieldLink RX6 33 "LaneRow$Towers" "size" "I" ∈ lw_g := wk_gq wk_m1 70 rfl rfl
set_option maxRecDepth 20000 in
theorem tw_134 : Cond.fieldLink RX11 91 "LaneRow$Towers" "size" "I" ∈ lw_g := wk_gq wk_m1 71 rfl rfl
set_option maxRecDepth 20000 in
theorem tw_146 : Cond.classLink RX2 19 RX4 ∈ lw_g := wk_gq wk_m1 83 rfl rfl
set_option maxRecDepth 20000 in
theorem tw_147 : Cond.instantiable RX4 4 ∈ lw_g := wk_gq wk_m1 84 rfl rfl
set_option maxRecDepth 20000 in
theorem tw_148 : Cond.methodLink RX2 21 yX4_init ∈ lw_g := wk_gq wk_m1 85 rfl rfl
set_option maxRecDepth 20000 in
theorem tw_149 : Cond.instanceMethod yX4_init ∈ lw_g := wk_gq wk_m1 86 rfl rfl
set_option maxRecDepth 20000 in
theorem tw_150 : Cond.code yX4_init cX4_init 1 none ∈ lw_g := wk_gq wk_m1 87 rfl rfl
set_option maxRecDepth 20000 in
theorem tw_151 : Cond.methodLink RX4 3 objectInit ∈ lw_g := wk_gq wk_m1 88 rfl rfl
set_option maxRecDepth 20000 in
theorem tw_152 : Cond.fieldLink RX4 9 "LaneRow$Seen" "of" "[I" ∈ lw_g := wk_gq wk_m1 89 rfl rfl
set_option maxRecDepth 20000 in
theorem tw_153 : Cond.fieldLink RX9 91 "LaneRow$Seen" "of" "[I" ∈ lw_g := wk_gq wk_m1 90 rfl rfl
set_option maxRecDepth 20000 in
theorem tw_154 : Cond.fieldLink RX4 15 "LaneRow$Seen" "sought" "[I" ∈ lw_g := wk_gq wk_m1 91 rfl rfl
set_option maxRecDepth 20000 in
theorem tw_155 : Cond.fieldLink RX9 94 "LaneRow$Seen" "sought" "[I" ∈ lw_g := wk_gq wk_m1 92 rfl rfl
set_option maxRecDepth 20000 in
theorem tw_156 : Cond.fieldLink RX4 18 "LaneRow$Seen" "looks" "[I" ∈ lw_g := wk_gq wk_m1 93 rfl rfl
set_option maxRecDepth 20000 in
theorem tw_157 : Cond.fieldLink RX9 97 "LaneRow$Seen" "looks" "[I" ∈ lw_g := wk_gq wk_m1 94 rfl rfl
set_option maxRecDepth 20000 in
theorem tw_158 : Cond.fieldLink RX4 21 "LaneRow$Seen" "size" "I" ∈ lw_g := wk_gq wk_m1 95 rfl rfl
set_option maxRecDepth 20000 in
theorem tw_159 : Cond.fieldLink RX9 88 "LaneRow$Seen" "size" "I" ∈ lw_g := wk_gq wk_m1 96 rfl rfl
set_option maxRecDepth 20000 in
theorem tw_160 : Cond.fieldLink RX11 231 "LaneRow$Seen" "size" "I" ∈ lw_g := wk_gq wk_m1 97 rfl rfl
set_option maxRecDepth 20000 in
theorem tw_170 : Cond.fieldLink RX2 10 "LaneRow$Kept" "first" "LLaneRow$Towers;" ∈ lw_g := wk_gq wk_m1 107 rfl rfl
set_option maxRecDepth 20000 in
theorem tw_171 : Cond.fieldLink RX11 77 "LaneRow$Kept" "first" "LLaneRow$Towers;" ∈ lw_g := wk_gq wk_m1 108 rfl rfl
set_option maxRecDepth 20000 in
theorem tw_172 : Cond.fieldLink RX2 16 "LaneRow$Kept" "second" "LLaneRow$Towers;" ∈ lw_g := wk_gq wk_m1 109 rfl rfl
set_option maxRecDepth 20000 in
theorem tw_173 : Cond.fieldLink RX11 192 "LaneRow$Kept" "second" "LLaneRow$Towers;" ∈ lw_g := wk_gq wk_m1 110 rfl rfl
set_option maxRecDepth 20000 in
theorem tw_174 : Cond.fieldLink RX2 22 "LaneRow$Kept" "seen" "LLaneRow$Seen;" ∈ lw_g := wk_gq wk_m1 111 rfl rfl
set_option maxRecDepth 20000 in
theorem tw_175 : Cond.fieldLink RX11 123 "LaneRow$Kept" "seen" "LLaneRow$Seen;" ∈ lw_g := wk_gq wk_m1 112 rfl rfl
set_option maxRecDepth 20000 in
theorem tw_176 : Cond.fieldLink RX2 34 "LaneRow$Kept" "asked" "I" ∈ lw_g := wk_gq wk_m1 113 rfl rfl
set_option maxRecDepth 20000 in
theorem tw_177 : Cond.fieldLink RX11 169 "LaneRow$Kept" "asked" "I" ∈ lw_g := wk_gq wk_m1 114 rfl rfl
set_option maxRecDepth 20000 in
theorem tw_178 : Cond.fieldLink RX2 37 "LaneRow$Kept" "looksOfAsked" "I" ∈ lw_g := wk_gq wk_m1 115 rfl rfl
set_option maxRecDepth 20000 in
theorem tw_179 : Cond.fieldLink RX11 172 "LaneRow$Kept" "looksOfAsked" "I" ∈ lw_g := wk_gq wk_m1 116 rfl rfl
set_option maxRecDepth 20000 in
theorem tw_180 : Cond.fieldLink RX2 40 "LaneRow$Kept" "changes" "I" ∈ lw_g := wk_gq wk_m1 117 rfl rfl
set_option maxRecDepth 20000 in
theorem tw_181 : Cond.fieldLink RX11 249 "LaneRow$Kept" "changes" "I" ∈ lw_g := wk_gq wk_m1 118 rfl rfl
set_option maxRecDepth 20000 in
theorem tw_195 : Cond.classLink RX11 29 RX10 ∈ lw_g := wk_gq wk_m1 132 rfl rfl
set_option maxRecDepth 20000 in
theorem tw_196 : Cond.instantiable RX10 3 ∈ lw_g := wk_gq wk_m1 133 rfl rfl
set_option maxRecDepth 20000 in
theorem tw_197 : Cond.methodLink RX11 31 yX10_init ∈ lw_g := wk_gq wk_m1 134 rfl rfl
set_option maxRecDepth 20000 in
theorem tw_198 : Cond.instanceMethod yX10_init ∈ lw_g := wk_gq wk_m1 135 rfl rfl
set_option maxRecDepth 20000 in
theorem tw_199 : Cond.code yX10_init cX10_init 1 none ∈ lw_g := wk_gq wk_m1 136 rfl rfl
set_option maxRecDepth 20000 in
theorem tw_200 : Cond.methodLink RX10 3 objectInit ∈ lw_g := wk_gq wk_m1 137 rfl rfl
set_option maxRecDepth 20000 in
theorem tw_201 : Cond.fieldLink RX10 19 "LaneRow$Walk" "number" "I" ∈ lw_g := wk_gq wk_m1 138 rfl rfl
set_option maxRecDepth 20000 in
theorem tw_202 : Cond.fieldLink RX11 154 "LaneRow$Walk" "number" "I" ∈ lw_g := wk_gq wk_m1 139 rfl rfl
set_option maxRecDepth 20000 in
theorem tw_203 : Cond.fieldLink RX10 24 "LaneRow$Walk" "lane" "I" ∈ lw_g := wk_gq wk_m1 140 rfl rfl
set_option maxRecDepth 20000 in
theorem tw_204 : Cond.fieldLink RX11 160 "LaneRow$Walk" "lane" "I" ∈ lw_g := wk_gq wk_m1 141 rfl rfl
set_option maxRecDepth 20000 in
theorem tw_205 : Cond.fieldLink RX9 44 "LaneRow$Walk" "looks" "I" ∈ lw_g := wk_gq wk_m1 142 rfl rfl
set_option maxRecDepth 20000 in
theorem tw_206 : Cond.fieldLink RX10 27 "LaneRow$Walk" "looks" "I" ∈ lw_g := wk_gq wk_m1 143 rfl rfl
set_option maxRecDepth 20000 in
theorem tw_207 : Cond.fieldLink RX11 157 "LaneRow$Walk" "looks" "I" ∈ lw_g := wk_gq wk_m1 144 rfl rfl
set_option maxRecDepth 20000 in
theorem tw_215 : Cond.classLink RX11 36 RX9 ∈ lw_g := wk_gq wk_m1 152 rfl rfl
set_option maxRecDepth 20000 in
theorem tw_216 : Cond.instantiable RX9 8 ∈ lw_g := wk_gq wk_m1 153 rfl rfl
set_option maxRecDepth 20000 in
theorem tw_217 : Cond.methodLink RX11 38 yX9_init ∈ lw_g := wk_gq wk_m1 154 rfl rfl
set_option maxRecDepth 20000 in
theorem tw_218 : Cond.instanceMethod yX9_init ∈ lw_g := wk_gq wk_m1 155 rfl rfl
set_option maxRecDepth 20000 in
theorem tw_219 : Cond.code yX9_init cX9_init 1 none ∈ lw_g := wk_gq wk_m1 156 rfl rfl
set_option maxRecDepth 20000 in
theorem tw_220 : Cond.methodLink RX9 3 objectInit ∈ lw_g := wk_gq wk_m1 157 rfl rfl
set_option maxRecDepth 20000 in
theorem tw_221 : Cond.classLink RX9 9 RX10 ∈ lw_g := wk_gq wk_m1 158 rfl rfl
set_option maxRecDepth 20000 in
theorem tw_222 : Cond.methodLink RX9 11 yX10_init ∈ lw_g := wk_gq wk_m1 159 rfl rfl
set_option maxRecDepth 20000 in
theorem tw_223 : Cond.fieldLink RX9 12 "LaneRow$Trial" "walk" "LLaneRow$Walk;" ∈ lw_g := wk_gq wk_m1 160 rfl rfl
set_option maxRecDepth 20000 in
theorem tw_224 : Cond.fieldLink RX9 18 "LaneRow$Trial" "tried" "[I" ∈ lw_g := wk_gq wk_m1 161 rfl rfl
set_option maxRecDepth 20000 in
theorem tw_225 : Cond.fieldLink RX9 22 "LaneRow$Trial" "bestHeights" "[I" ∈ lw_g := wk_gq wk_m1 162 rfl rfl
set_option maxRecDepth 20000 in
theorem tw_226 : Cond.fieldLink RX9 25 "LaneRow$Trial" "looks" "[I" ∈ lw_g := wk_gq wk_m1 163 rfl rfl
set_option maxRecDepth 20000 in
theorem tw_227 : Cond.fieldLink RX9 46 "LaneRow$Trial" "least" "I" ∈ lw_g := wk_gq wk_m1 164 rfl rfl
set_option maxRecDepth 20000 in
theorem tw_228 : Cond.fieldLink RX11 212 "LaneRow$Trial" "least" "I" ∈ lw_g := wk_gq wk_m1 165 rfl rfl
set_option maxRecDepth 20000 in
theorem tw_229 : Cond.fieldLink RX9 49 "LaneRow$Trial" "bestLinks" "I" ∈ lw_g := wk_gq wk_m1 166 rfl rfl
set_option maxRecDepth 20000 in
theorem tw_230 : Cond.fieldLink RX11 215 "LaneRow$Trial" "bestLinks" "I" ∈ lw_g := wk_gq wk_m1 167 rfl rfl
set_option maxRecDepth 20000 in
theorem tw_231 : Cond.fieldLink RX9 72 "LaneRow$Trial" "changeNumber" "I" ∈ lw_g := wk_gq wk_m1 168 rfl rfl
set_option maxRecDepth 20000 in
theorem tw_232 : Cond.fieldLink RX11 225 "LaneRow$Trial" "changeNumber" "I" ∈ lw_g := wk_gq wk_m1 169 rfl rfl
set_option maxRecDepth 20000 in
theorem tw_233 : Cond.fieldLink RX9 75 "LaneRow$Trial" "changeHeight" "I" ∈ lw_g := wk_gq wk_m1 170 rfl rfl
set_option maxRecDepth 20000 in
theorem tw_234 : Cond.fieldLink RX11 228 "LaneRow$Trial" "changeHeight" "I" ∈ lw_g := wk_gq wk_m1 171 rfl rfl
set_option maxRecDepth 20000 in
theorem tw_252 : Cond.fieldLink RX11 10 "LaneRow" "page" "LLaneRow$Text;" ∈ lw_g := wk_gq wk_m1 189 rfl rfl
set_option maxRecDepth 20000 in
theorem tw_253 : Cond.fieldLink RX11 16 "LaneRow" "written" "LLaneRow$Text;" ∈ lw_g := wk_gq wk_m1 190 rfl rfl
set_option maxRecDepth 20000 in
theorem tw_254 : Cond.fieldLink RX11 22 "LaneRow" "now" "LLaneRow$Kept;" ∈ lw_g := wk_gq wk_m1 191 rfl rfl
set_option maxRecDepth 20000 in
theorem tw_255 : Cond.fieldLink RX11 26 "LaneRow" "kept" "LLaneRow$Kept;" ∈ lw_g := wk_gq wk_m1 192 rfl rfl
set_option maxRecDepth 20000 in
theorem tw_256 : Cond.fieldLink RX11 32 "LaneRow" "walk" "LLaneRow$Walk;" ∈ lw_g := wk_gq wk_m1 193 rfl rfl
set_option maxRecDepth 20000 in
theorem tw_257 : Cond.fieldLink RX11 39 "LaneRow" "trial" "LLaneRow$Trial;" ∈ lw_g := wk_gq wk_m1 194 rfl rfl
set_option maxRecDepth 20000 in
theorem tw_258 : Cond.fieldLink RX11 71 "LaneRow" "law" "LLaneRow$Law;" ∈ lw_g := wk_gq wk_m1 195 rfl rfl
set_option maxRecDepth 20000 in
theorem tw_259 : Cond.fieldLink RX11 88 "LaneRow" "rowsRead" "I" ∈ lw_g := wk_gq wk_m1 196 rfl rfl
set_option maxRecDepth 20000 in
theorem tw_260 : Cond.fieldLink RX11 246 "LaneRow" "rowOfImage" "I" ∈ lw_g := wk_gq wk_m1 197 rfl rfl
set_option maxRecDepth 20000 in
theorem tw_261 : Cond.fieldLink RX11 206 "LaneRow" "bestsDone" "I" ∈ lw_g := wk_gq wk_m1 198 rfl rfl
set_option maxRecDepth 20000 in
theorem tw_283 : Cond.methodLink RL 13 yX11_letter ∈ lw_g := wk_gq wk_m1 220 rfl rfl
set_option maxRecDepth 20000 in
theorem tw_284 : Cond.instanceMethod yX11_letter ∈ lw_g := wk_gq wk_m1 221 rfl rfl
set_option maxRecDepth 20000 in
theorem tw_285 : Cond.selects RX11 yX11_letter yX11_letter ∈ lw_g := wk_gq wk_m1 222 rfl rfl
set_option maxRecDepth 20000 in
theorem tw_286 : Cond.code yX11_letter cX11_letter 2 (some .int) ∈ lw_g := wk_gq wk_m1 223 rfl rfl
set_option maxRecDepth 20000 in
theorem tw_287 : Cond.methodLink RX11 47 yX6_add ∈ lw_g := wk_gq wk_m1 224 rfl rfl
set_option maxRecDepth 20000 in
theorem tw_288 : Cond.instanceMethod yX6_add ∈ lw_g := wk_gq wk_m1 225 rfl rfl
set_option maxRecDepth 20000 in
theorem tw_289 : Cond.selects RX6 yX6_add yX6_add ∈ lw_g := wk_gq wk_m1 226 rfl rfl
set_option maxRecDepth 20000 in
theorem tw_290 : Cond.code yX6_add cX6_add 2 (some .int) ∈ lw_g := wk_gq wk_m1 227 rfl rfl
set_option maxRecDepth 20000 in
theorem tw_291 : Cond.methodLink RL 18 yX11_blank ∈ lw_g := wk_gq wk_m1 228 rfl rfl
set_option maxRecDepth 20000 in
theorem tw_292 : Cond.instanceMethod yX11_blank ∈ lw_g := wk_gq wk_m1 229 rfl rfl
set_option maxRecDepth 20000 in
theorem tw_293 : Cond.selects RX11 yX11_blank yX11_blank ∈ lw_g := wk_gq wk_m1 230 rfl rfl
set_option maxRecDepth 20000 in
theorem tw_294 : Cond.code yX11_blank cX11_blank 1 (some .int) ∈ lw_g := wk_gq wk_m1 231 rfl rfl
set_option maxRecDepth 20000 in
theorem tw_295 : Cond.methodLink RX11 51 yX6_clear ∈ lw_g := wk_gq wk_m1 232 rfl rfl
set_option maxRecDepth 20000 in
theorem tw_296 : Cond.instanceMethod yX6_clear ∈ lw_g := wk_gq wk_m1 233 rfl rfl
set_option maxRecDepth 20000 in
theorem tw_297 : Cond.selects RX6 yX6_clear yX6_clear ∈ lw_g := wk_gq wk_m1 234 rfl rfl
set_option maxRecDepth 20000 in
theorem tw_298 : Cond.code yX6_clear cX6_clear 2 (some .int) ∈ lw_g := wk_gq wk_m1 235 rfl rfl
set_option maxRecDepth 20000 in
theorem tw_299 : Cond.methodLink RL 23 yX11_fault ∈ lw_g := wk_gq wk_m1 236 rfl rfl
set_option maxRecDepth 20000 in
theorem tw_300 : Cond.instanceMethod yX11_fault ∈ lw_g := wk_gq wk_m1 237 rfl rfl
set_option maxRecDepth 20000 in
theorem tw_301 : Cond.selects RX11 yX11_fault yX11_fault ∈ lw_g := wk_gq wk_m1 238 rfl rfl
set_option maxRecDepth 20000 in
theorem tw_302 : Cond.code yX11_fault cX11_fault 1 (some .int) ∈ lw_g := wk_gq wk_m1 239 rfl rfl
set_option maxRecDepth 20000 in
theorem tw_303 : Cond.methodLink RX11 55 yX6_firstFault ∈ lw_g := wk_gq wk_m2 0 rfl rfl
set_option maxRecDepth 20000 in
theorem tw_304 : Cond.instanceMethod yX6_firstFault ∈ lw_g := wk_gq wk_m2 1 rfl rfl
set_option maxRecDepth 20000 in
theorem tw_305 : Cond.selects RX6 yX6_firstFault yX6_firstFault ∈ lw_g := wk_gq wk_m2 2 rfl rfl
set_option maxRecDepth 20000 in
theorem tw_306 : Cond.code yX6_firstFault cX6_firstFault 5 (some .int) ∈ lw_g := wk_gq wk_m2 3 rfl rfl
set_option maxRecDepth 20000 in
theorem tw_307 : Cond.methodLink RX6 49 yX6_signsOfKey ∈ lw_g := wk_gq wk_m2 4 rfl rfl
set_option maxRecDepth 20000 in
theorem tw_309 : Cond.instanceMethod yX6_signsOfKey ∈ lw_g := wk_gq wk_m2 6 rfl rfl
set_option maxRecDepth 20000 in
theorem tw_310 : Cond.code yX6_signsOfKey cX6_signsOfKey 1 (some .int) ∈ lw_g := wk_gq wk_m2 7 rfl rfl
set_option maxRecDepth 20000 in
theorem tw_311 : Cond.methodLink RX6 52 yX6_fits ∈ lw_g := wk_gq wk_m2 8 rfl rfl
set_option maxRecDepth 20000 in
theorem tw_313 : Cond.instanceMethod yX6_fits ∈ lw_g := wk_gq wk_m2 10 rfl rfl
set_option maxRecDepth 20000 in
theorem tw_314 : Cond.code yX6_fits cX6_fits 6 (some .boolean) ∈ lw_g := wk_gq wk_m2 11 rfl rfl
set_option maxRecDepth 20000 in
theorem tw_315 : Cond.methodLink RX6 65 yX6_keyAt ∈ lw_g := wk_gq wk_m2 12 rfl rfl
set_option maxRecDepth 20000 in
theorem tw_317 : Cond.instanceMethod yX6_keyAt ∈ lw_g := wk_gq wk_m2 14 rfl rfl
set_option maxRecDepth 20000 in
theorem tw_318 : Cond.code yX6_keyAt cX6_keyAt 2 (some .int) ∈ lw_g := wk_gq wk_m2 15 rfl rfl
set_option maxRecDepth 20000 in
theorem tw_319 : Cond.methodLink RX6 62 yX6_digitAt ∈ lw_g := wk_gq wk_m2 16 rfl rfl
set_option maxRecDepth 20000 in
theorem tw_321 : Cond.instanceMethod yX6_digitAt ∈ lw_g := wk_gq wk_m2 18 rfl rfl
set_option maxRecDepth 20000 in
theorem tw_322 : Cond.code yX6_digitAt cX6_digitAt 2 (some .int) ∈ lw_g := wk_gq wk_m2 19 rfl rfl
set_option maxRecDepth 20000 in
theorem tw_323 : Cond.methodLink RL 27 yX11_row ∈ lw_g := wk_gq wk_m2 20 rfl rfl
set_option maxRecDepth 20000 in
theorem tw_324 : Cond.instanceMethod yX11_row ∈ lw_g := wk_gq wk_m2 21 rfl rfl
set_option maxRecDepth 20000 in
theorem tw_325 : Cond.selects RX11 yX11_row yX11_row ∈ lw_g := wk_gq wk_m2 22 rfl rfl
set_option maxRecDepth 20000 in
theorem tw_326 : Cond.code yX11_row cX11_row 1 (some .int) ∈ lw_g := wk_gq wk_m2 23 rfl rfl
set_option maxRecDepth 20000 in
theorem tw_327 : Cond.methodLink RX11 58 yX6_keysTold ∈ lw_g := wk_gq wk_m2 24 rfl rfl
set_option maxRecDepth 20000 in
theorem tw_328 : Cond.instanceMethod yX6_keysTold ∈ lw_g := wk_gq wk_m2 25 rfl rfl
set_option maxRecDepth 20000 in
theorem tw_329 : Cond.selects RX6 yX6_keysTold yX6_keysTold ∈ lw_g := wk_gq wk_m2 26 rfl rfl
set_option maxRecDepth 20000 in
theorem tw_330 : Cond.code yX6_keysTold cX6_keysTold 3 (some .int) ∈ lw_g := wk_gq wk_m2 27 rfl rfl
set_option maxRecDepth 20000 in
theorem tw_331 : Cond.methodLink RX6 56 yX6_firstFault ∈ lw_g := wk_gq wk_m2 28 rfl rfl
set_option maxRecDepth 20000 in
theorem tw_332 : Cond.methodLink RX11 65 yX3_bySign ∈ lw_g := wk_gq wk_m2 29 rfl rfl
set_option maxRecDepth 20000 in
theorem tw_333 : Cond.static yX3_bySign ∈ lw_g := wk_gq wk_m2 30 rfl rfl
set_option maxRecDepth 20000 in
theorem tw_334 : Cond.code yX3_bySign cX3_bySign 1 (some (.object "LaneRow$Law")) ∈ lw_g := wk_gq wk_m2 31 rfl rfl
set_option maxRecDepth 20000 in
theorem tw_335 : Cond.classLink RX3 9 RX3 ∈ lw_g := wk_gq wk_m2 32 rfl rfl
set_option maxRecDepth 20000 in
theorem tw_336 : Cond.instantiable RX3 0 ∈ lw_g := wk_gq wk_m2 33 rfl rfl
set_option maxRecDepth 20000 in
theorem tw_337 : Cond.methodLink RX3 11 yX3_init ∈ lw_g := wk_gq wk_m2 34 rfl rfl
set_option maxRecDepth 20000 in
theorem tw_338 : Cond.instanceMethod yX3_init ∈ lw_g := wk_gq wk_m2 35 rfl rfl
set_option maxRecDepth 20000 in
theorem tw_339 : Cond.code yX3_init cX3_init 1 none ∈ lw_g := wk_gq wk_m2 36 rfl rfl
set_option maxRecDepth 20000 in
theorem tw_340 : Cond.methodLink RX3 3 objectInit ∈ lw_g := wk_gq wk_m2 37 rfl rfl
set_option maxRecDepth 20000 in
theorem tw_342 : Cond.classLink RX3 12 RX1 ∈ lw_g := wk_gq wk_m2 39 rfl rfl
set_option maxRecDepth 20000 in
theorem tw_343 : Cond.instantiable RX1 0 ∈ lw_g := wk_gq wk_m2 40 rfl rfl
set_option maxRecDepth 20000 in
theorem tw_344 : Cond.methodLink RX3 14 yX1_init ∈ lw_g := wk_gq wk_m2 41 rfl rfl
set_option maxRecDepth 20000 in
theorem tw_345 : Cond.instanceMethod yX1_init ∈ lw_g := wk_gq wk_m2 42 rfl rfl
set_option maxRecDepth 20000 in
theorem tw_346 : Cond.code yX1_init cX1_init 1 none ∈ lw_g := wk_gq wk_m2 43 rfl rfl
set_option maxRecDepth 20000 in
theorem tw_347 : Cond.methodLink RX1 1 yX3_init ∈ lw_g := wk_gq wk_m2 44 rfl rfl
set_option maxRecDepth 20000 in
theorem tw_349 : Cond.classLink RX3 15 RX5 ∈ lw_g := wk_gq wk_m2 46 rfl rfl
set_option maxRecDepth 20000 in
theorem tw_350 : Cond.instantiable RX5 0 ∈ lw_g := wk_gq wk_m2 47 rfl rfl
set_option maxRecDepth 20000 in
theorem tw_351 : Cond.methodLink RX3 17 yX5_init ∈ lw_g := wk_gq wk_m2 48 rfl rfl
set_option maxRecDepth 20000 in
theorem tw_352 : Cond.instanceMethod yX5_init ∈ lw_g := wk_gq wk_m2 49 rfl rfl
set_option maxRecDepth 20000 in
theorem tw_353 : Cond.code yX5_init cX5_init 1 none ∈ lw_g := wk_gq wk_m2 50 rfl rfl
set_option maxRecDepth 20000 in
theorem tw_354 : Cond.methodLink RX5 1 yX3_init ∈ lw_g := wk_gq wk_m2 51 rfl rfl
set_option maxRecDepth 20000 in
theorem tw_356 : Cond.classLink RX3 18 RX0 ∈ lw_g := wk_gq wk_m2 53 rfl rfl
set_option maxRecDepth 20000 in
theorem tw_357 : Cond.instantiable RX0 0 ∈ lw_g := wk_gq wk_m2 54 rfl rfl
set_option maxRecDepth 20000 in
theorem tw_358 : Cond.methodLink RX3 20 yX0_init ∈ lw_g := wk_gq wk_m2 55 rfl rfl
set_option maxRecDepth 20000 in
theorem tw_359 : Cond.instanceMethod yX0_init ∈ lw_g := wk_gq wk_m2 56 rfl rfl
set_option maxRecDepth 20000 in
theorem tw_360 : Cond.code yX0_init cX0_init 1 none ∈ lw_g := wk_gq wk_m2 57 rfl rfl
set_option maxRecDepth 20000 in
theorem tw_361 : Cond.methodLink RX0 1 yX3_init ∈ lw_g := wk_gq wk_m2 58 rfl rfl
set_option maxRecDepth 20000 in
theorem tw_363 : Cond.classLink RX3 21 RX7 ∈ lw_g := wk_gq wk_m2 60 rfl rfl
set_option maxRecDepth 20000 in
theorem tw_364 : Cond.instantiable RX7 0 ∈ lw_g := wk_gq wk_m2 61 rfl rfl
set_option maxRecDepth 20000 in
theorem tw_365 : Cond.methodLink RX3 23 yX7_init ∈ lw_g := wk_gq wk_m2 62 rfl rfl
set_option maxRecDepth 20000 in
theorem tw_366 : Cond.instanceMethod yX7_init ∈ lw_g := wk_gq wk_m2 63 rfl rfl
set_option maxRecDepth 20000 in
theorem tw_367 : Cond.code yX7_init cX7_init 1 none ∈ lw_g := wk_gq wk_m2 64 rfl rfl
set_option maxRecDepth 20000 in
theorem tw_368 : Cond.methodLink RX7 1 yX1_init ∈ lw_g := wk_gq wk_m2 65 rfl rfl
set_option maxRecDepth 20000 in
theorem tw_370 : Cond.methodLink RX11 75 yX2_clear ∈ lw_g := wk_gq wk_m2 67 rfl rfl
set_option maxRecDepth 20000 in
theorem tw_371 : Cond.instanceMethod yX2_clear ∈ lw_g := wk_gq wk_m2 68 rfl rfl
set_option maxRecDepth 20000 in
theorem tw_372 : Cond.selects RX2 yX2_clear yX2_clear ∈ lw_g := wk_gq wk_m2 69 rfl rfl
set_option maxRecDepth 20000 in
theorem tw_373 : Cond.code yX2_clear cX2_clear 1 none ∈ lw_g := wk_gq wk_m2 70 rfl rfl
set_option maxRecDepth 20000 in
theorem tw_374 : Cond.methodLink RX2 30 yX4_clear ∈ lw_g := wk_gq wk_m2 71 rfl rfl
set_option maxRecDepth 20000 in
theorem tw_375 : Cond.instanceMethod yX4_clear ∈ lw_g := wk_gq wk_m2 72 rfl rfl
set_option maxRecDepth 20000 in
theorem tw_376 : Cond.selects RX4 yX4_clear yX4_clear ∈ lw_g := wk_gq wk_m2 73 rfl rfl
set_option maxRecDepth 20000 in
theorem tw_377 : Cond.code yX4_clear cX4_clear 2 (some .int) ∈ lw_g := wk_gq wk_m2 74 rfl rfl
set_option maxRecDepth 20000 in
theorem tw_378 : Cond.methodLink RX11 81 yX6_tellTo ∈ lw_g := wk_gq wk_m2 75 rfl rfl
set_option maxRecDepth 20000 in
theorem tw_379 : Cond.instanceMethod yX6_tellTo ∈ lw_g := wk_gq wk_m2 76 rfl rfl
set_option maxRecDepth 20000 in
theorem tw_380 : Cond.selects RX6 yX6_tellTo yX6_tellTo ∈ lw_g := wk_gq wk_m2 77 rfl rfl
set_option maxRecDepth 20000 in
theorem tw_381 : Cond.code yX6_tellTo cX6_tellTo 7 none ∈ lw_g := wk_gq wk_m2 78 rfl rfl
set_option maxRecDepth 20000 in
theorem tw_382 : Cond.methodLink RX6 59 yX6_keysTold ∈ lw_g := wk_gq wk_m2 79 rfl rfl
set_option maxRecDepth 20000 in
theorem tw_383 : Cond.methodLink RX6 68 yX8_insert ∈ lw_g := wk_gq wk_m2 80 rfl rfl
set_option maxRecDepth 20000 in
theorem tw_384 : Cond.instanceMethod yX8_insert ∈ lw_g := wk_gq wk_m2 81 rfl rfl
set_option maxRecDepth 20000 in
theorem tw_385 : Cond.selects RX8 yX8_insert yX8_insert ∈ lw_g := wk_gq wk_m2 82 rfl rfl
set_option maxRecDepth 20000 in
theorem tw_386 : Cond.code yX8_insert cX8_insert 6 none ∈ lw_g := wk_gq wk_m2 83 rfl rfl
set_option maxRecDepth 20000 in
theorem tw_387 : Cond.methodLink RX8 32 yX8_fill ∈ lw_g := wk_gq wk_m2 84 rfl rfl
set_option maxRecDepth 20000 in
theorem tw_389 : Cond.instanceMethod yX8_fill ∈ lw_g := wk_gq wk_m2 86 rfl rfl
set_option maxRecDepth 20000 in
theorem tw_390 : Cond.code yX8_fill cX8_fill 4 none ∈ lw_g := wk_gq wk_m2 87 rfl rfl
set_option maxRecDepth 20000 in
theorem tw_391 : Cond.methodLink RX11 85 yX11_raiseTowers ∈ lw_g := wk_gq wk_m2 88 rfl rfl
set_option maxRecDepth 20000 in
theorem tw_393 : Cond.instanceMethod yX11_raiseTowers ∈ lw_g := wk_gq wk_m2 90 rfl rfl
set_option maxRecDepth 20000 in
theorem tw_394 : Cond.code yX11_raiseTowers cX11_raiseTowers 3 none ∈ lw_g := wk_gq wk_m2 91 rfl rfl
set_option maxRecDepth 20000 in
theorem tw_395 : Cond.methodLink RX11 309 yX3_heightOf ∈ lw_g := wk_gq wk_m2 92 rfl rfl
set_option maxRecDepth 20000 in
theorem tw_396 : Cond.instanceMethod yX3_heightOf ∈ lw_g := wk_gq wk_m2 93 rfl rfl
set_option maxRecDepth 20000 in
theorem tw_397 : Cond.selects RX3 yX3_heightOf yX3_heightOf ∈ lw_g := wk_gq wk_m2 94 rfl rfl
set_option maxRecDepth 20000 in
theorem tw_398 : Cond.sameMethod RX3 RX3 "heightOf" "(III)I" ∈ lw_g := wk_gq wk_m2 95 rfl rfl
set_option maxRecDepth 20000 in
theorem tw_399 : Cond.selects RX0 yX3_heightOf yX0_heightOf ∈ lw_g := wk_gq wk_m2 96 rfl rfl
set_option maxRecDepth 20000 in
theorem tw_400 : Cond.instanceMethod yX0_heightOf ∈ lw_g := wk_gq wk_m2 97 rfl rfl
set_option maxRecDepth 20000 in
theorem tw_401 : Cond.code yX0_heightOf cX0_heightOf 4 (some .int) ∈ lw_g := wk_gq wk_m2 98 rfl rfl
set_option maxRecDepth 20000 in
theorem tw_402 : Cond.methodLink RX0 7 ⟨"LaneRow$Even", "heightByDivisor", "(II)I"⟩ ∈ lw_g := wk_gq wk_m2 99 rfl rfl
set_option maxRecDepth 20000 in
theorem tw_403 : Cond.sameMethod RX0 RX3 "heightByDivisor" "(II)I" ∈ lw_g := wk_gq wk_m2 100 rfl rfl
set_option maxRecDepth 20000 in
theorem tw_404 : Cond.static yX3_heightByDivisor ∈ lw_g := wk_gq wk_m2 101 rfl rfl
set_option maxRecDepth 20000 in
theorem tw_405 : Cond.code yX3_heightByDivisor cX3_heightByDivisor 4 (some .int) ∈ lw_g := wk_gq wk_m2 102 rfl rfl
set_option maxRecDepth 20000 in
theorem tw_406 : Cond.selects RX1 yX3_heightOf yX1_heightOf ∈ lw_g := wk_gq wk_m2 103 rfl rfl
set_option maxRecDepth 20000 in
theorem tw_407 : Cond.instanceMethod yX1_heightOf ∈ lw_g := wk_gq wk_m2 104 rfl rfl
set_option maxRecDepth 20000 in
theorem tw_408 : Cond.code yX1_heightOf cX1_heightOf 4 (some .int) ∈ lw_g := wk_gq wk_m2 105 rfl rfl
set_option maxRecDepth 20000 in
theorem tw_409 : Cond.methodLink RX1 7 ⟨"LaneRow$Halves", "heightByDivisor", "(II)I"⟩ ∈ lw_g := wk_gq wk_m2 106 rfl rfl
set_option maxRecDepth 20000 in
theorem tw_410 : Cond.sameMethod RX1 RX3 "heightByDivisor" "(II)I" ∈ lw_g := wk_gq wk_m2 107 rfl rfl
set_option maxRecDepth 20000 in
theorem tw_411 : Cond.selects RX5 yX3_heightOf yX5_heightOf ∈ lw_g := wk_gq wk_m2 108 rfl rfl
set_option maxRecDepth 20000 in
theorem tw_412 : Cond.instanceMethod yX5_heightOf ∈ lw_g := wk_gq wk_m2 109 rfl rfl
set_option maxRecDepth 20000 in
theorem tw_413 : Cond.code yX5_heightOf cX5_heightOf 4 (some .int) ∈ lw_g := wk_gq wk_m2 110 rfl rfl
set_option maxRecDepth 20000 in
theorem tw_414 : Cond.selects RX7 yX3_heightOf yX7_heightOf ∈ lw_g := wk_gq wk_m2 111 rfl rfl
set_option maxRecDepth 20000 in
theorem tw_415 : Cond.instanceMethod yX7_heightOf ∈ lw_g := wk_gq wk_m2 112 rfl rfl
set_option maxRecDepth 20000 in
theorem tw_416 : Cond.code yX7_heightOf cX7_heightOf 4 (some .int) ∈ lw_g := wk_gq wk_m2 113 rfl rfl
set_option maxRecDepth 20000 in
theorem tw_417 : Cond.methodLink RX7 7 ⟨"LaneRow$Thirds", "heightByDivisor", "(II)I"⟩ ∈ lw_g := wk_gq wk_m2 114 rfl rfl
set_option maxRecDepth 20000 in
theorem tw_418 : Cond.sameMethod RX7 RX3 "heightByDivisor" "(II)I" ∈ lw_g := wk_gq wk_m2 115 rfl rfl
set_option maxRecDepth 20000 in
theorem tw_419 : Cond.code yX3_heightOf cX3_heightOf 4 (some .int) ∈ lw_g := wk_gq wk_m2 116 rfl rfl
set_option maxRecDepth 20000 in
theorem tw_420 : Cond.methodLink RL 31 yX11_tape ∈ lw_g := wk_gq wk_m2 117 rfl rfl
set_option maxRecDepth 20000 in
theorem tw_421 : Cond.instanceMethod yX11_tape ∈ lw_g := wk_gq wk_m2 118 rfl rfl
set_option maxRecDepth 20000 in
theorem tw_422 : Cond.selects RX11 yX11_tape yX11_tape ∈ lw_g := wk_gq wk_m2 119 rfl rfl
set_option maxRecDepth 20000 in
theorem tw_423 : Cond.code yX11_tape cX11_tape 2 (some .int) ∈ lw_g := wk_gq wk_m2 120 rfl rfl
set_option maxRecDepth 20000 in
theorem tw_424 : Cond.methodLink RX11 94 yX6_write ∈ lw_g := wk_gq wk_m2 121 rfl rfl
set_option maxRecDepth 20000 in
theorem tw_425 : Cond.instanceMethod yX6_write ∈ lw_g := wk_gq wk_m2 122 rfl rfl
set_option maxRecDepth 20000 in
theorem tw_426 : Cond.selects RX6 yX6_write yX6_write ∈ lw_g := wk_gq wk_m2 123 rfl rfl
set_option maxRecDepth 20000 in
theorem tw_427 : Cond.code yX6_write cX6_write 4 none ∈ lw_g := wk_gq wk_m2 124 rfl rfl
set_option maxRecDepth 20000 in
theorem tw_428 : Cond.methodLink RX6 19 yX6_clear ∈ lw_g := wk_gq wk_m2 125 rfl rfl
set_option maxRecDepth 20000 in
theorem tw_429 : Cond.methodLink RX6 23 yX3_sign ∈ lw_g := wk_gq wk_m2 126 rfl rfl
set_option maxRecDepth 20000 in
theorem tw_430 : Cond.instanceMethod yX3_sign ∈ lw_g := wk_gq wk_m2 127 rfl rfl
set_option maxRecDepth 20000 in
theorem tw_431 : Cond.selects RX3 yX3_sign yX3_sign ∈ lw_g := wk_gq wk_m2 128 rfl rfl
set_option maxRecDepth 20000 in
theorem tw_432 : Cond.sameMethod RX3 RX3 "sign" "()C" ∈ lw_g := wk_gq wk_m2 129 rfl rfl
set_option maxRecDepth 20000 in
theorem tw_433 : Cond.selects RX0 yX3_sign yX0_sign ∈ lw_g := wk_gq wk_m2 130 rfl rfl
set_option maxRecDepth 20000 in
theorem tw_434 : Cond.instanceMethod yX0_sign ∈ lw_g := wk_gq wk_m2 131 rfl rfl
set_option maxRecDepth 20000 in
theorem tw_435 : Cond.code yX0_sign cX0_sign 1 (some .char) ∈ lw_g := wk_gq wk_m2 132 rfl rfl
set_option maxRecDepth 20000 in
theorem tw_436 : Cond.selects RX1 yX3_sign yX1_sign ∈ lw_g := wk_gq wk_m2 133 rfl rfl
set_option maxRecDepth 20000 in
theorem tw_437 : Cond.instanceMethod yX1_sign ∈ lw_g := wk_gq wk_m2 134 rfl rfl
set_option maxRecDepth 20000 in
theorem tw_438 : Cond.code yX1_sign cX1_sign 1 (some .char) ∈ lw_g := wk_gq wk_m2 135 rfl rfl
set_option maxRecDepth 20000 in
theorem tw_439 : Cond.selects RX5 yX3_sign yX5_sign ∈ lw_g := wk_gq wk_m2 136 rfl rfl
set_option maxRecDepth 20000 in
theorem tw_440 : Cond.instanceMethod yX5_sign ∈ lw_g := wk_gq wk_m2 137 rfl rfl
set_option maxRecDepth 20000 in
theorem tw_441 : Cond.code yX5_sign cX5_sign 1 (some .char) ∈ lw_g := wk_gq wk_m2 138 rfl rfl
set_option maxRecDepth 20000 in
theorem tw_442 : Cond.selects RX7 yX3_sign yX7_sign ∈ lw_g := wk_gq wk_m2 139 rfl rfl
set_option maxRecDepth 20000 in
theorem tw_443 : Cond.instanceMethod yX7_sign ∈ lw_g := wk_gq wk_m2 140 rfl rfl
set_option maxRecDepth 20000 in
theorem tw_444 : Cond.code yX7_sign cX7_sign 1 (some .char) ∈ lw_g := wk_gq wk_m2 141 rfl rfl
set_option maxRecDepth 20000 in
theorem tw_445 : Cond.code yX3_sign cX3_sign 1 (some .char) ∈ lw_g := wk_gq wk_m2 142 rfl rfl
set_option maxRecDepth 20000 in
theorem tw_446 : Cond.methodLink RX6 29 yX6_add ∈ lw_g := wk_gq wk_m2 143 rfl rfl
set_option maxRecDepth 20000 in
theorem tw_447 : Cond.methodLink RX6 42 yX3_tellsHeights ∈ lw_g := wk_gq wk_m2 144 rfl rfl
set_option maxRecDepth 20000 in
theorem tw_448 : Cond.instanceMethod yX3_tellsHeights ∈ lw_g := wk_gq wk_m2 145 rfl rfl
set_option maxRecDepth 20000 in
theorem tw_449 : Cond.selects RX3 yX3_tellsHeights yX3_tellsHeights ∈ lw_g := wk_gq wk_m2 146 rfl rfl
set_option maxRecDepth 20000 in
theorem tw_450 : Cond.sameMethod RX3 RX3 "tellsHeights" "()Z" ∈ lw_g := wk_gq wk_m2 147 rfl rfl
set_option maxRecDepth 20000 in
theorem tw_451 : Cond.selects RX0 yX3_tellsHeights yX0_tellsHeights ∈ lw_g := wk_gq wk_m2 148 rfl rfl
set_option maxRecDepth 20000 in
theorem tw_452 : Cond.instanceMethod yX0_tellsHeights ∈ lw_g := wk_gq wk_m2 149 rfl rfl
set_option maxRecDepth 20000 in
theorem tw_453 : Cond.code yX0_tellsHeights cX0_tellsHeights 1 (some .boolean) ∈ lw_g := wk_gq wk_m2 150 rfl rfl
set_option maxRecDepth 20000 in
theorem tw_454 : Cond.selects RX1 yX3_tellsHeights yX1_tellsHeights ∈ lw_g := wk_gq wk_m2 151 rfl rfl
set_option maxRecDepth 20000 in
theorem tw_455 : Cond.instanceMethod yX1_tellsHeights ∈ lw_g := wk_gq wk_m2 152 rfl rfl
set_option maxRecDepth 20000 in
theorem tw_456 : Cond.code yX1_tellsHeights cX1_tellsHeights 1 (some .boolean) ∈ lw_g := wk_gq wk_m2 153 rfl rfl
set_option maxRecDepth 20000 in
theorem tw_457 : Cond.selects RX5 yX3_tellsHeights yX5_tellsHeights ∈ lw_g := wk_gq wk_m2 154 rfl rfl
set_option maxRecDepth 20000 in
theorem tw_458 : Cond.instanceMethod yX5_tellsHeights ∈ lw_g := wk_gq wk_m2 155 rfl rfl
set_option maxRecDepth 20000 in
theorem tw_459 : Cond.code yX5_tellsHeights cX5_tellsHeights 1 (some .boolean) ∈ lw_g := wk_gq wk_m2 156 rfl rfl
set_option maxRecDepth 20000 in
theorem tw_460 : Cond.selects RX7 yX3_tellsHeights yX1_tellsHeights ∈ lw_g := wk_gq wk_m2 157 rfl rfl
set_option maxRecDepth 20000 in
theorem tw_461 : Cond.code yX3_tellsHeights cX3_tellsHeights 1 (some .boolean) ∈ lw_g := wk_gq wk_m2 158 rfl rfl
set_option maxRecDepth 20000 in
theorem tw_462 : Cond.methodLink RL 35 yX11_as ∈ lw_g := wk_gq wk_m2 159 rfl rfl
set_option maxRecDepth 20000 in
theorem tw_463 : Cond.instanceMethod yX11_as ∈ lw_g := wk_gq wk_m2 160 rfl rfl
set_option maxRecDepth 20000 in
theorem tw_464 : Cond.selects RX11 yX11_as yX11_as ∈ lw_g := wk_gq wk_m2 161 rfl rfl
set_option maxRecDepth 20000 in
theorem tw_465 : Cond.code yX11_as cX11_as 2 (some .int) ∈ lw_g := wk_gq wk_m2 162 rfl rfl
set_option maxRecDepth 20000 in
theorem tw_466 : Cond.methodLink RX11 98 yX11_isKind ∈ lw_g := wk_gq wk_m2 163 rfl rfl
set_option maxRecDepth 20000 in
theorem tw_468 : Cond.instanceMethod yX11_isKind ∈ lw_g := wk_gq wk_m2 165 rfl rfl
set_option maxRecDepth 20000 in
theorem tw_469 : Cond.code yX11_isKind cX11_isKind 2 (some .boolean) ∈ lw_g := wk_gq wk_m2 166 rfl rfl
set_option maxRecDepth 20000 in
theorem tw_470 : Cond.classLink RX11 295 RX1 ∈ lw_g := wk_gq wk_m2 167 rfl rfl
set_option maxRecDepth 20000 in
theorem tw_471 : Cond.classLink RX11 297 RX5 ∈ lw_g := wk_gq wk_m2 168 rfl rfl
set_option maxRecDepth 20000 in
theorem tw_472 : Cond.classLink RX11 299 RX0 ∈ lw_g := wk_gq wk_m2 169 rfl rfl
set_option maxRecDepth 20000 in
theorem tw_473 : Cond.classLink RX11 301 RX7 ∈ lw_g := wk_gq wk_m2 170 rfl rfl
set_option maxRecDepth 20000 in
theorem tw_474 : Cond.methodLink RL 39 yX11_key ∈ lw_g := wk_gq wk_m2 171 rfl rfl
set_option maxRecDepth 20000 in
theorem tw_475 : Cond.instanceMethod yX11_key ∈ lw_g := wk_gq wk_m2 172 rfl rfl
set_option maxRecDepth 20000 in
theorem tw_476 : Cond.selects RX11 yX11_key yX11_key ∈ lw_g := wk_gq wk_m2 173 rfl rfl
set_option maxRecDepth 20000 in
theorem tw_477 : Cond.code yX11_key cX11_key 4 (some .int) ∈ lw_g := wk_gq wk_m2 174 rfl rfl
set_option maxRecDepth 20000 in
theorem tw_478 : Cond.methodLink RX11 102 yX11_namesNoKey ∈ lw_g := wk_gq wk_m2 175 rfl rfl
set_option maxRecDepth 20000 in
theorem tw_480 : Cond.instanceMethod yX11_namesNoKey ∈ lw_g := wk_gq wk_m2 177 rfl rfl
set_option maxRecDepth 20000 in
theorem tw_481 : Cond.code yX11_namesNoKey cX11_namesNoKey 2 (some .boolean) ∈ lw_g := wk_gq wk_m2 178 rfl rfl
set_option maxRecDepth 20000 in
theorem tw_482 : Cond.methodLink RX11 117 yX11_looksFor ∈ lw_g := wk_gq wk_m2 179 rfl rfl
set_option maxRecDepth 20000 in
theorem tw_484 : Cond.instanceMethod yX11_looksFor ∈ lw_g := wk_gq wk_m2 181 rfl rfl
set_option maxRecDepth 20000 in
theorem tw_485 : Cond.code yX11_looksFor cX11_looksFor 2 (some .int) ∈ lw_g := wk_gq wk_m2 182 rfl rfl
set_option maxRecDepth 20000 in
theorem tw_486 : Cond.methodLink RX11 150 yX10_go ∈ lw_g := wk_gq wk_m2 183 rfl rfl
set_option maxRecDepth 20000 in
theorem tw_487 : Cond.instanceMethod yX10_go ∈ lw_g := wk_gq wk_m2 184 rfl rfl
set_option maxRecDepth 20000 in
theorem tw_488 : Cond.selects RX10 yX10_go yX10_go ∈ lw_g := wk_gq wk_m2 185 rfl rfl
set_option maxRecDepth 20000 in
theorem tw_489 : Cond.code yX10_go cX10_go 10 none ∈ lw_g := wk_gq wk_m2 186 rfl rfl
set_option maxRecDepth 20000 in
theorem tw_490 : Cond.methodLink RX10 15 yX8_highestOf ∈ lw_g := wk_gq wk_m2 187 rfl rfl
set_option maxRecDepth 20000 in
theorem tw_491 : Cond.instanceMethod yX8_highestOf ∈ lw_g := wk_gq wk_m2 188 rfl rfl
set_option maxRecDepth 20000 in
theorem tw_492 : Cond.selects RX8 yX8_highestOf yX8_highestOf ∈ lw_g := wk_gq wk_m2 189 rfl rfl
set_option maxRecDepth 20000 in
theorem tw_493 : Cond.code yX8_highestOf cX8_highestOf 4 (some .int) ∈ lw_g := wk_gq wk_m2 190 rfl rfl
set_option maxRecDepth 20000 in
theorem tw_494 : Cond.methodLink RX8 52 yJ9_max_7cf53 ∈ lw_g := wk_gq wk_m2 191 rfl rfl
set_option maxRecDepth 20000 in
theorem tw_495 : Cond.static yJ9_max_7cf53 ∈ lw_g := wk_gq wk_m2 192 rfl rfl
set_option maxRecDepth 20000 in
theorem tw_496 : Cond.code yJ9_max_7cf53 cJ9_max_7cf53 2 (some .int) ∈ lw_g := wk_gq wk_m2 193 rfl rfl
set_option maxRecDepth 20000 in
theorem tw_497 : Cond.methodLink RX10 34 yX8_nextInLane ∈ lw_g := wk_gq wk_m2 194 rfl rfl
set_option maxRecDepth 20000 in
theorem tw_498 : Cond.instanceMethod yX8_nextInLane ∈ lw_g := wk_gq wk_m2 195 rfl rfl
set_option maxRecDepth 20000 in
theorem tw_499 : Cond.selects RX8 yX8_nextInLane yX8_nextInLane ∈ lw_g := wk_gq wk_m2 196 rfl rfl
set_option maxRecDepth 20000 in
theorem tw_500 : Cond.code yX8_nextInLane cX8_nextInLane 5 (some .int) ∈ lw_g := wk_gq wk_m2 197 rfl rfl
set_option maxRecDepth 20000 in
theorem tw_501 : Cond.methodLink RX11 120 yX11_laneOf ∈ lw_g := wk_gq wk_m2 198 rfl rfl
set_option maxRecDepth 20000 in
theorem tw_503 : Cond.instanceMethod yX11_laneOf ∈ lw_g := wk_gq wk_m2 200 rfl rfl
set_option maxRecDepth 20000 in
theorem tw_504 : Cond.code yX11_laneOf cX11_laneOf 2 (some .int) ∈ lw_g := wk_gq wk_m2 201 rfl rfl
set_option maxRecDepth 20000 in
theorem tw_505 : Cond.methodLink RX11 127 yX9_heightsLeft ∈ lw_g := wk_gq wk_m2 202 rfl rfl
set_option maxRecDepth 20000 in
theorem tw_506 : Cond.instanceMethod yX9_heightsLeft ∈ lw_g := wk_gq wk_m2 203 rfl rfl
set_option maxRecDepth 20000 in
theorem tw_507 : Cond.selects RX9 yX9_heightsLeft yX9_heightsLeft ∈ lw_g := wk_gq wk_m2 204 rfl rfl
set_option maxRecDepth 20000 in
theorem tw_508 : Cond.code yX9_heightsLeft cX9_heightsLeft 6 (some .int) ∈ lw_g := wk_gq wk_m2 205 rfl rfl
set_option maxRecDepth 20000 in
theorem tw_509 : Cond.methodLink RX9 68 yX9_copyHeights ∈ lw_g := wk_gq wk_m2 206 rfl rfl
set_option maxRecDepth 20000 in
theorem tw_510 : Cond.static yX9_copyHeights ∈ lw_g := wk_gq wk_m2 207 rfl rfl
set_option maxRecDepth 20000 in
theorem tw_511 : Cond.code yX9_copyHeights cX9_copyHeights 4 none ∈ lw_g := wk_gq wk_m2 208 rfl rfl
set_option maxRecDepth 20000 in
theorem tw_512 : Cond.methodLink RX9 84 yX9_agrees ∈ lw_g := wk_gq wk_m2 209 rfl rfl
set_option maxRecDepth 20000 in
theorem tw_514 : Cond.instanceMethod yX9_agrees ∈ lw_g := wk_gq wk_m2 211 rfl rfl
set_option maxRecDepth 20000 in
theorem tw_515 : Cond.code yX9_agrees cX9_agrees 5 (some .boolean) ∈ lw_g := wk_gq wk_m2 212 rfl rfl
set_option maxRecDepth 20000 in
theorem tw_516 : Cond.methodLink RX9 40 yX10_go ∈ lw_g := wk_gq wk_m2 213 rfl rfl
set_option maxRecDepth 20000 in
theorem tw_517 : Cond.methodLink RX11 131 yX9_bestTry ∈ lw_g := wk_gq wk_m2 214 rfl rfl
set_option maxRecDepth 20000 in
theorem tw_518 : Cond.instanceMethod yX9_bestTry ∈ lw_g := wk_gq wk_m2 215 rfl rfl
set_option maxRecDepth 20000 in
theorem tw_519 : Cond.selects RX9 yX9_bestTry yX9_bestTry ∈ lw_g := wk_gq wk_m2 216 rfl rfl
set_option maxRecDepth 20000 in
theorem tw_520 : Cond.code yX9_bestTry cX9_bestTry 9 (some .int) ∈ lw_g := wk_gq wk_m2 217 rfl rfl
set_option maxRecDepth 20000 in
theorem tw_521 : Cond.methodLink RX9 98 yX9_heightsLeft ∈ lw_g := wk_gq wk_m2 218 rfl rfl
set_option maxRecDepth 20000 in
theorem tw_522 : Cond.methodLink RX9 102 yX9_leftAtWorst ∈ lw_g := wk_gq wk_m2 219 rfl rfl
set_option maxRecDepth 20000 in
theorem tw_524 : Cond.instanceMethod yX9_leftAtWorst ∈ lw_g := wk_gq wk_m2 221 rfl rfl
set_option maxRecDepth 20000 in
theorem tw_525 : Cond.code yX9_leftAtWorst cX9_leftAtWorst 7 (some .int) ∈ lw_g := wk_gq wk_m2 222 rfl rfl
set_option maxRecDepth 20000 in
theorem tw_526 : Cond.methodLink RX9 106 yX9_alike ∈ lw_g := wk_gq wk_m2 223 rfl rfl
set_option maxRecDepth 20000 in
theorem tw_528 : Cond.instanceMethod yX9_alike ∈ lw_g := wk_gq wk_m2 225 rfl rfl
set_option maxRecDepth 20000 in
theorem tw_529 : Cond.code yX9_alike cX9_alike 6 (some .int) ∈ lw_g := wk_gq wk_m2 226 rfl rfl
set_option maxRecDepth 20000 in
theorem tw_530 : Cond.methodLink RX9 110 yJ9_max_7cf53 ∈ lw_g := wk_gq wk_m2 227 rfl rfl
set_option maxRecDepth 20000 in
theorem tw_531 : Cond.methodLink RX11 134 yX8_widthFrom ∈ lw_g := wk_gq wk_m2 228 rfl rfl
set_option maxRecDepth 20000 in
theorem tw_532 : Cond.instanceMethod yX8_widthFrom ∈ lw_g := wk_gq wk_m2 229 rfl rfl
set_option maxRecDepth 20000 in
theorem tw_533 : Cond.selects RX8 yX8_widthFrom yX8_widthFrom ∈ lw_g := wk_gq wk_m2 230 rfl rfl
set_option maxRecDepth 20000 in
theorem tw_534 : Cond.code yX8_widthFrom cX8_widthFrom 4 (some .int) ∈ lw_g := wk_gq wk_m2 231 rfl rfl
set_option maxRecDepth 20000 in
theorem tw_535 : Cond.methodLink RX8 40 yX8_nextInLane ∈ lw_g := wk_gq wk_m2 232 rfl rfl
set_option maxRecDepth 20000 in
theorem tw_536 : Cond.methodLink RX8 44 yX8_reaches ∈ lw_g := wk_gq wk_m2 233 rfl rfl
set_option maxRecDepth 20000 in
theorem tw_538 : Cond.instanceMethod yX8_reaches ∈ lw_g := wk_gq wk_m2 235 rfl rfl
set_option maxRecDepth 20000 in
theorem tw_539 : Cond.code yX8_reaches cX8_reaches 3 (some .boolean) ∈ lw_g := wk_gq wk_m2 236 rfl rfl
set_option maxRecDepth 20000 in
theorem tw_540 : Cond.methodLink RX11 138 yX8_weightFrom ∈ lw_g := wk_gq wk_m2 237 rfl rfl
set_option maxRecDepth 20000 in
theorem tw_541 : Cond.instanceMethod yX8_weightFrom ∈ lw_g := wk_gq wk_m2 238 rfl rfl
set_option maxRecDepth 20000 in
theorem tw_542 : Cond.selects RX8 yX8_weightFrom yX8_weightFrom ∈ lw_g := wk_gq wk_m2 239 rfl rfl
set_option maxRecDepth 20000 in
theorem tw_543 : Cond.code yX8_weightFrom cX8_weightFrom 6 (some .int) ∈ lw_g := wk_gq wk_m3 0 rfl rfl
set_option maxRecDepth 20000 in
theorem tw_544 : Cond.methodLink RL 44 yX11_lane ∈ lw_g := wk_gq wk_m3 1 rfl rfl
set_option maxRecDepth 20000 in
theorem tw_545 : Cond.instanceMethod yX11_lane ∈ lw_g := wk_gq wk_m3 2 rfl rfl
set_option maxRecDepth 20000 in
theorem tw_546 : Cond.selects RX11 yX11_lane yX11_lane ∈ lw_g := wk_gq wk_m3 3 rfl rfl
set_option maxRecDepth 20000 in
theorem tw_547 : Cond.code yX11_lane cX11_lane 3 (some .int) ∈ lw_g := wk_gq wk_m3 4 rfl rfl
set_option maxRecDepth 20000 in
theorem tw_548 : Cond.methodLink RX11 141 yX8_keysInLane ∈ lw_g := wk_gq wk_m3 5 rfl rfl
set_option maxRecDepth 20000 in
theorem tw_549 : Cond.instanceMethod yX8_keysInLane ∈ lw_g := wk_gq wk_m3 6 rfl rfl
set_option maxRecDepth 20000 in
theorem tw_550 : Cond.selects RX8 yX8_keysInLane yX8_keysInLane ∈ lw_g := wk_gq wk_m3 7 rfl rfl
set_option maxRecDepth 20000 in
theorem tw_551 : Cond.code yX8_keysInLane cX8_keysInLane 4 (some .int) ∈ lw_g := wk_gq wk_m3 8 rfl rfl
set_option maxRecDepth 20000 in
theorem tw_552 : Cond.methodLink RX11 144 yX8_greatestWidth ∈ lw_g := wk_gq wk_m3 9 rfl rfl
set_option maxRecDepth 20000 in
theorem tw_553 : Cond.instanceMethod yX8_greatestWidth ∈ lw_g := wk_gq wk_m3 10 rfl rfl
set_option maxRecDepth 20000 in
theorem tw_554 : Cond.selects RX8 yX8_greatestWidth yX8_greatestWidth ∈ lw_g := wk_gq wk_m3 11 rfl rfl
set_option maxRecDepth 20000 in
theorem tw_555 : Cond.code yX8_greatestWidth cX8_greatestWidth 4 (some .int) ∈ lw_g := wk_gq wk_m3 12 rfl rfl
set_option maxRecDepth 20000 in
theorem tw_556 : Cond.methodLink RX8 48 yX8_widthFrom ∈ lw_g := wk_gq wk_m3 13 rfl rfl
set_option maxRecDepth 20000 in
theorem tw_557 : Cond.methodLink RL 48 yX11_find ∈ lw_g := wk_gq wk_m3 14 rfl rfl
set_option maxRecDepth 20000 in
theorem tw_558 : Cond.instanceMethod yX11_find ∈ lw_g := wk_gq wk_m3 15 rfl rfl
set_option maxRecDepth 20000 in
theorem tw_559 : Cond.selects RX11 yX11_find yX11_find ∈ lw_g := wk_gq wk_m3 16 rfl rfl
set_option maxRecDepth 20000 in
theorem tw_560 : Cond.code yX11_find cX11_find 3 (some .int) ∈ lw_g := wk_gq wk_m3 17 rfl rfl
set_option maxRecDepth 20000 in
theorem tw_561 : Cond.methodLink RX11 147 yX11_isNoKey ∈ lw_g := wk_gq wk_m3 18 rfl rfl
set_option maxRecDepth 20000 in
theorem tw_562 : Cond.static yX11_isNoKey ∈ lw_g := wk_gq wk_m3 19 rfl rfl
set_option maxRecDepth 20000 in
theorem tw_563 : Cond.code yX11_isNoKey cX11_isNoKey 1 (some .boolean) ∈ lw_g := wk_gq wk_m3 20 rfl rfl
set_option maxRecDepth 20000 in
theorem tw_564 : Cond.methodLink RX11 163 yX11_valueOf ∈ lw_g := wk_gq wk_m3 21 rfl rfl
set_option maxRecDepth 20000 in
theorem tw_566 : Cond.instanceMethod yX11_valueOf ∈ lw_g := wk_gq wk_m3 23 rfl rfl
set_option maxRecDepth 20000 in
theorem tw_567 : Cond.code yX11_valueOf cX11_valueOf 2 (some .int) ∈ lw_g := wk_gq wk_m3 24 rfl rfl
set_option maxRecDepth 20000 in
theorem tw_568 : Cond.methodLink RL 52 yX11_nth ∈ lw_g := wk_gq wk_m3 25 rfl rfl
set_option maxRecDepth 20000 in
theorem tw_569 : Cond.instanceMethod yX11_nth ∈ lw_g := wk_gq wk_m3 26 rfl rfl
set_option maxRecDepth 20000 in
theorem tw_570 : Cond.selects RX11 yX11_nth yX11_nth ∈ lw_g := wk_gq wk_m3 27 rfl rfl
set_option maxRecDepth 20000 in
theorem tw_571 : Cond.code yX11_nth cX11_nth 4 (some .int) ∈ lw_g := wk_gq wk_m3 28 rfl rfl
set_option maxRecDepth 20000 in
theorem tw_572 : Cond.methodLink RL 56 yX11_sum ∈ lw_g := wk_gq wk_m3 29 rfl rfl
set_option maxRecDepth 20000 in
theorem tw_573 : Cond.instanceMethod yX11_sum ∈ lw_g := wk_gq wk_m3 30 rfl rfl
set_option maxRecDepth 20000 in
theorem tw_574 : Cond.selects RX11 yX11_sum yX11_sum ∈ lw_g := wk_gq wk_m3 31 rfl rfl
set_option maxRecDepth 20000 in
theorem tw_575 : Cond.code yX11_sum cX11_sum 3 (some .int) ∈ lw_g := wk_gq wk_m3 32 rfl rfl
set_option maxRecDepth 20000 in
theorem tw_576 : Cond.methodLink RX11 166 yX8_valuesBetween ∈ lw_g := wk_gq wk_m3 33 rfl rfl
set_option maxRecDepth 20000 in
theorem tw_577 : Cond.instanceMethod yX8_valuesBetween ∈ lw_g := wk_gq wk_m3 34 rfl rfl
set_option maxRecDepth 20000 in
theorem tw_578 : Cond.selects RX8 yX8_valuesBetween yX8_valuesBetween ∈ lw_g := wk_gq wk_m3 35 rfl rfl
set_option maxRecDepth 20000 in
theorem tw_579 : Cond.code yX8_valuesBetween cX8_valuesBetween 5 (some .int) ∈ lw_g := wk_gq wk_m3 36 rfl rfl
set_option maxRecDepth 20000 in
theorem tw_580 : Cond.methodLink RL 60 yX11_finger ∈ lw_g := wk_gq wk_m3 37 rfl rfl
set_option maxRecDepth 20000 in
theorem tw_581 : Cond.instanceMethod yX11_finger ∈ lw_g := wk_gq wk_m3 38 rfl rfl
set_option maxRecDepth 20000 in
theorem tw_582 : Cond.selects RX11 yX11_finger yX11_finger ∈ lw_g := wk_gq wk_m3 39 rfl rfl
set_option maxRecDepth 20000 in
theorem tw_583 : Cond.code yX11_finger cX11_finger 4 (some .int) ∈ lw_g := wk_gq wk_m3 40 rfl rfl
set_option maxRecDepth 20000 in
theorem tw_584 : Cond.methodLink RL 65 yX11_ask ∈ lw_g := wk_gq wk_m3 41 rfl rfl
set_option maxRecDepth 20000 in
theorem tw_585 : Cond.instanceMethod yX11_ask ∈ lw_g := wk_gq wk_m3 42 rfl rfl
set_option maxRecDepth 20000 in
theorem tw_586 : Cond.selects RX11 yX11_ask yX11_ask ∈ lw_g := wk_gq wk_m3 43 rfl rfl
set_option maxRecDepth 20000 in
theorem tw_587 : Cond.code yX11_ask cX11_ask 3 (some .int) ∈ lw_g := wk_gq wk_m3 44 rfl rfl
set_option maxRecDepth 20000 in
theorem tw_588 : Cond.methodLink RL 69 yX11_put ∈ lw_g := wk_gq wk_m3 45 rfl rfl
set_option maxRecDepth 20000 in
theorem tw_589 : Cond.instanceMethod yX11_put ∈ lw_g := wk_gq wk_m3 46 rfl rfl
set_option maxRecDepth 20000 in
theorem tw_590 : Cond.selects RX11 yX11_put yX11_put ∈ lw_g := wk_gq wk_m3 47 rfl rfl
set_option maxRecDepth 20000 in
theorem tw_591 : Cond.code yX11_put cX11_put 7 (some .int) ∈ lw_g := wk_gq wk_m3 48 rfl rfl
set_option maxRecDepth 20000 in
theorem tw_592 : Cond.methodLink RX11 175 yX8_firstNotLess ∈ lw_g := wk_gq wk_m3 49 rfl rfl
set_option maxRecDepth 20000 in
theorem tw_593 : Cond.instanceMethod yX8_firstNotLess ∈ lw_g := wk_gq wk_m3 50 rfl rfl
set_option maxRecDepth 20000 in
theorem tw_594 : Cond.selects RX8 yX8_firstNotLess yX8_firstNotLess ∈ lw_g := wk_gq wk_m3 51 rfl rfl
set_option maxRecDepth 20000 in
theorem tw_595 : Cond.code yX8_firstNotLess cX8_firstNotLess 3 (some .int) ∈ lw_g := wk_gq wk_m3 52 rfl rfl
set_option maxRecDepth 20000 in
theorem tw_596 : Cond.methodLink RX11 178 yX8_insert ∈ lw_g := wk_gq wk_m3 53 rfl rfl
set_option maxRecDepth 20000 in
theorem tw_597 : Cond.methodLink RX11 182 yX11_changeIsMade ∈ lw_g := wk_gq wk_m3 54 rfl rfl
set_option maxRecDepth 20000 in
theorem tw_599 : Cond.instanceMethod yX11_changeIsMade ∈ lw_g := wk_gq wk_m3 56 rfl rfl
set_option maxRecDepth 20000 in
theorem tw_600 : Cond.code yX11_changeIsMade cX11_changeIsMade 1 none ∈ lw_g := wk_gq wk_m3 57 rfl rfl
set_option maxRecDepth 20000 in
theorem tw_601 : Cond.methodLink RL 73 yX11_remove ∈ lw_g := wk_gq wk_m3 58 rfl rfl
set_option maxRecDepth 20000 in
theorem tw_602 : Cond.instanceMethod yX11_remove ∈ lw_g := wk_gq wk_m3 59 rfl rfl
set_option maxRecDepth 20000 in
theorem tw_603 : Cond.selects RX11 yX11_remove yX11_remove ∈ lw_g := wk_gq wk_m3 60 rfl rfl
set_option maxRecDepth 20000 in
theorem tw_604 : Cond.code yX11_remove cX11_remove 5 (some .int) ∈ lw_g := wk_gq wk_m3 61 rfl rfl
set_option maxRecDepth 20000 in
theorem tw_605 : Cond.methodLink RX11 185 yX8_numberOf ∈ lw_g := wk_gq wk_m3 62 rfl rfl
set_option maxRecDepth 20000 in
theorem tw_606 : Cond.instanceMethod yX8_numberOf ∈ lw_g := wk_gq wk_m3 63 rfl rfl
set_option maxRecDepth 20000 in
theorem tw_607 : Cond.selects RX8 yX8_numberOf yX8_numberOf ∈ lw_g := wk_gq wk_m3 64 rfl rfl
set_option maxRecDepth 20000 in
theorem tw_608 : Cond.code yX8_numberOf cX8_numberOf 3 (some .int) ∈ lw_g := wk_gq wk_m3 65 rfl rfl
set_option maxRecDepth 20000 in
theorem tw_609 : Cond.methodLink RX8 36 yX8_firstNotLess ∈ lw_g := wk_gq wk_m3 66 rfl rfl
set_option maxRecDepth 20000 in
theorem tw_610 : Cond.methodLink RX11 188 yX8_takeOut ∈ lw_g := wk_gq wk_m3 67 rfl rfl
set_option maxRecDepth 20000 in
theorem tw_611 : Cond.instanceMethod yX8_takeOut ∈ lw_g := wk_gq wk_m3 68 rfl rfl
set_option maxRecDepth 20000 in
theorem tw_612 : Cond.selects RX8 yX8_takeOut yX8_takeOut ∈ lw_g := wk_gq wk_m3 69 rfl rfl
set_option maxRecDepth 20000 in
theorem tw_613 : Cond.code yX8_takeOut cX8_takeOut 3 none ∈ lw_g := wk_gq wk_m3 70 rfl rfl
set_option maxRecDepth 20000 in
theorem tw_614 : Cond.methodLink RL 77 yX11_split ∈ lw_g := wk_gq wk_m3 71 rfl rfl
set_option maxRecDepth 20000 in
theorem tw_615 : Cond.instanceMethod yX11_split ∈ lw_g := wk_gq wk_m3 72 rfl rfl
set_option maxRecDepth 20000 in
theorem tw_616 : Cond.selects RX11 yX11_split yX11_split ∈ lw_g := wk_gq wk_m3 73 rfl rfl
set_option maxRecDepth 20000 in
theorem tw_617 : Cond.code yX11_split cX11_split 4 (some .int) ∈ lw_g := wk_gq wk_m3 74 rfl rfl
set_option maxRecDepth 20000 in
theorem tw_618 : Cond.methodLink RX11 195 yX8_append ∈ lw_g := wk_gq wk_m3 75 rfl rfl
set_option maxRecDepth 20000 in
theorem tw_619 : Cond.instanceMethod yX8_append ∈ lw_g := wk_gq wk_m3 76 rfl rfl
set_option maxRecDepth 20000 in
theorem tw_620 : Cond.selects RX8 yX8_append yX8_append ∈ lw_g := wk_gq wk_m3 77 rfl rfl
set_option maxRecDepth 20000 in
theorem tw_621 : Cond.code yX8_append cX8_append 4 none ∈ lw_g := wk_gq wk_m3 78 rfl rfl
set_option maxRecDepth 20000 in
theorem tw_622 : Cond.methodLink RL 81 yX11_join ∈ lw_g := wk_gq wk_m3 79 rfl rfl
set_option maxRecDepth 20000 in
theorem tw_623 : Cond.instanceMethod yX11_join ∈ lw_g := wk_gq wk_m3 80 rfl rfl
set_option maxRecDepth 20000 in
theorem tw_624 : Cond.selects RX11 yX11_join yX11_join ∈ lw_g := wk_gq wk_m3 81 rfl rfl
set_option maxRecDepth 20000 in
theorem tw_625 : Cond.code yX11_join cX11_join 3 (some .int) ∈ lw_g := wk_gq wk_m3 82 rfl rfl
set_option maxRecDepth 20000 in
theorem tw_626 : Cond.methodLink RX11 199 yX8_lastKey ∈ lw_g := wk_gq wk_m3 83 rfl rfl
set_option maxRecDepth 20000 in
theorem tw_627 : Cond.instanceMethod yX8_lastKey ∈ lw_g := wk_gq wk_m3 84 rfl rfl
set_option maxRecDepth 20000 in
theorem tw_628 : Cond.selects RX8 yX8_lastKey yX8_lastKey ∈ lw_g := wk_gq wk_m3 85 rfl rfl
set_option maxRecDepth 20000 in
theorem tw_629 : Cond.code yX8_lastKey cX8_lastKey 1 (some .int) ∈ lw_g := wk_gq wk_m3 86 rfl rfl
set_option maxRecDepth 20000 in
theorem tw_630 : Cond.methodLink RL 85 yX11_cost ∈ lw_g := wk_gq wk_m3 87 rfl rfl
set_option maxRecDepth 20000 in
theorem tw_631 : Cond.instanceMethod yX11_cost ∈ lw_g := wk_gq wk_m3 88 rfl rfl
set_option maxRecDepth 20000 in
theorem tw_632 : Cond.selects RX11 yX11_cost yX11_cost ∈ lw_g := wk_gq wk_m3 89 rfl rfl
set_option maxRecDepth 20000 in
theorem tw_633 : Cond.code yX11_cost cX11_cost 1 (some .int) ∈ lw_g := wk_gq wk_m3 90 rfl rfl
set_option maxRecDepth 20000 in
theorem tw_634 : Cond.methodLink RX11 202 yX9_costOf ∈ lw_g := wk_gq wk_m3 91 rfl rfl
set_option maxRecDepth 20000 in
theorem tw_635 : Cond.instanceMethod yX9_costOf ∈ lw_g := wk_gq wk_m3 92 rfl rfl
set_option maxRecDepth 20000 in
theorem tw_636 : Cond.selects RX9 yX9_costOf yX9_costOf ∈ lw_g := wk_gq wk_m3 93 rfl rfl
set_option maxRecDepth 20000 in
theorem tw_637 : Cond.code yX9_costOf cX9_costOf 5 (some .int) ∈ lw_g := wk_gq wk_m3 94 rfl rfl
set_option maxRecDepth 20000 in
theorem tw_638 : Cond.methodLink RL 89 yX11_best ∈ lw_g := wk_gq wk_m3 95 rfl rfl
set_option maxRecDepth 20000 in
theorem tw_639 : Cond.instanceMethod yX11_best ∈ lw_g := wk_gq wk_m3 96 rfl rfl
set_option maxRecDepth 20000 in
theorem tw_640 : Cond.selects RX11 yX11_best yX11_best ∈ lw_g := wk_gq wk_m3 97 rfl rfl
set_option maxRecDepth 20000 in
theorem tw_641 : Cond.code yX11_best cX11_best 4 (some .int) ∈ lw_g := wk_gq wk_m3 98 rfl rfl
set_option maxRecDepth 20000 in
theorem tw_642 : Cond.methodLink RX11 209 yX9_seekBest ∈ lw_g := wk_gq wk_m3 99 rfl rfl
set_option maxRecDepth 20000 in
theorem tw_643 : Cond.instanceMethod yX9_seekBest ∈ lw_g := wk_gq wk_m3 100 rfl rfl
set_option maxRecDepth 20000 in
theorem tw_644 : Cond.selects RX9 yX9_seekBest yX9_seekBest ∈ lw_g := wk_gq wk_m3 101 rfl rfl
set_option maxRecDepth 20000 in
theorem tw_645 : Cond.code yX9_seekBest cX9_seekBest 6 none ∈ lw_g := wk_gq wk_m3 102 rfl rfl
set_option maxRecDepth 20000 in
theorem tw_646 : Cond.methodLink RX9 52 yX8_linksOf ∈ lw_g := wk_gq wk_m3 103 rfl rfl
set_option maxRecDepth 20000 in
theorem tw_647 : Cond.instanceMethod yX8_linksOf ∈ lw_g := wk_gq wk_m3 104 rfl rfl
set_option maxRecDepth 20000 in
theorem tw_648 : Cond.selects RX8 yX8_linksOf yX8_linksOf ∈ lw_g := wk_gq wk_m3 105 rfl rfl
set_option maxRecDepth 20000 in
theorem tw_649 : Cond.code yX8_linksOf cX8_linksOf 4 (some .int) ∈ lw_g := wk_gq wk_m3 106 rfl rfl
set_option maxRecDepth 20000 in
theorem tw_650 : Cond.methodLink RX9 56 yX9_weigh ∈ lw_g := wk_gq wk_m3 107 rfl rfl
set_option maxRecDepth 20000 in
theorem tw_652 : Cond.instanceMethod yX9_weigh ∈ lw_g := wk_gq wk_m3 109 rfl rfl
set_option maxRecDepth 20000 in
theorem tw_653 : Cond.code yX9_weigh cX9_weigh 4 none ∈ lw_g := wk_gq wk_m3 110 rfl rfl
set_option maxRecDepth 20000 in
theorem tw_654 : Cond.methodLink RX9 64 yX9_costOf ∈ lw_g := wk_gq wk_m3 111 rfl rfl
set_option maxRecDepth 20000 in
theorem tw_655 : Cond.methodLink RX9 60 yX9_nextWay ∈ lw_g := wk_gq wk_m3 112 rfl rfl
set_option maxRecDepth 20000 in
theorem tw_657 : Cond.instanceMethod yX9_nextWay ∈ lw_g := wk_gq wk_m3 114 rfl rfl
set_option maxRecDepth 20000 in
theorem tw_658 : Cond.code yX9_nextWay cX9_nextWay 3 (some .boolean) ∈ lw_g := wk_gq wk_m3 115 rfl rfl
set_option maxRecDepth 20000 in
theorem tw_659 : Cond.methodLink RX11 218 yX9_bestHeight ∈ lw_g := wk_gq wk_m3 116 rfl rfl
set_option maxRecDepth 20000 in
theorem tw_660 : Cond.instanceMethod yX9_bestHeight ∈ lw_g := wk_gq wk_m3 117 rfl rfl
set_option maxRecDepth 20000 in
theorem tw_661 : Cond.selects RX9 yX9_bestHeight yX9_bestHeight ∈ lw_g := wk_gq wk_m3 118 rfl rfl
set_option maxRecDepth 20000 in
theorem tw_662 : Cond.code yX9_bestHeight cX9_bestHeight 3 (some .int) ∈ lw_g := wk_gq wk_m3 119 rfl rfl
set_option maxRecDepth 20000 in
theorem tw_663 : Cond.methodLink RL 93 yX11_change ∈ lw_g := wk_gq wk_m3 120 rfl rfl
set_option maxRecDepth 20000 in
theorem tw_664 : Cond.instanceMethod yX11_change ∈ lw_g := wk_gq wk_m3 121 rfl rfl
set_option maxRecDepth 20000 in
theorem tw_665 : Cond.selects RX11 yX11_change yX11_change ∈ lw_g := wk_gq wk_m3 122 rfl rfl
set_option maxRecDepth 20000 in
theorem tw_666 : Cond.code yX11_change cX11_change 2 (some .int) ∈ lw_g := wk_gq wk_m3 123 rfl rfl
set_option maxRecDepth 20000 in
theorem tw_667 : Cond.methodLink RX11 222 yX9_seekChange ∈ lw_g := wk_gq wk_m3 124 rfl rfl
set_option maxRecDepth 20000 in
theorem tw_668 : Cond.instanceMethod yX9_seekChange ∈ lw_g := wk_gq wk_m3 125 rfl rfl
set_option maxRecDepth 20000 in
theorem tw_669 : Cond.selects RX9 yX9_seekChange yX9_seekChange ∈ lw_g := wk_gq wk_m3 126 rfl rfl
set_option maxRecDepth 20000 in
theorem tw_670 : Cond.code yX9_seekChange cX9_seekChange 4 none ∈ lw_g := wk_gq wk_m3 127 rfl rfl
set_option maxRecDepth 20000 in
theorem tw_671 : Cond.methodLink RX9 81 yX9_weighChange ∈ lw_g := wk_gq wk_m3 128 rfl rfl
set_option maxRecDepth 20000 in
theorem tw_673 : Cond.instanceMethod yX9_weighChange ∈ lw_g := wk_gq wk_m3 130 rfl rfl
set_option maxRecDepth 20000 in
theorem tw_674 : Cond.code yX9_weighChange cX9_weighChange 4 none ∈ lw_g := wk_gq wk_m3 131 rfl rfl
set_option maxRecDepth 20000 in
theorem tw_675 : Cond.methodLink RL 97 yX11_see ∈ lw_g := wk_gq wk_m3 132 rfl rfl
set_option maxRecDepth 20000 in
theorem tw_676 : Cond.instanceMethod yX11_see ∈ lw_g := wk_gq wk_m3 133 rfl rfl
set_option maxRecDepth 20000 in
theorem tw_677 : Cond.selects RX11 yX11_see yX11_see ∈ lw_g := wk_gq wk_m3 134 rfl rfl
set_option maxRecDepth 20000 in
theorem tw_678 : Cond.code yX11_see cX11_see 4 (some .int) ∈ lw_g := wk_gq wk_m3 135 rfl rfl
set_option maxRecDepth 20000 in
theorem tw_679 : Cond.methodLink RX11 234 yX4_add ∈ lw_g := wk_gq wk_m3 136 rfl rfl
set_option maxRecDepth 20000 in
theorem tw_680 : Cond.instanceMethod yX4_add ∈ lw_g := wk_gq wk_m3 137 rfl rfl
set_option maxRecDepth 20000 in
theorem tw_681 : Cond.selects RX4 yX4_add yX4_add ∈ lw_g := wk_gq wk_m3 138 rfl rfl
set_option maxRecDepth 20000 in
theorem tw_682 : Cond.code yX4_add cX4_add 4 (some .int) ∈ lw_g := wk_gq wk_m3 139 rfl rfl
set_option maxRecDepth 20000 in
theorem tw_683 : Cond.methodLink RL 101 yX11_forget ∈ lw_g := wk_gq wk_m3 140 rfl rfl
set_option maxRecDepth 20000 in
theorem tw_684 : Cond.instanceMethod yX11_forget ∈ lw_g := wk_gq wk_m3 141 rfl rfl
set_option maxRecDepth 20000 in
theorem tw_685 : Cond.selects RX11 yX11_forget yX11_forget ∈ lw_g := wk_gq wk_m3 142 rfl rfl
set_option maxRecDepth 20000 in
theorem tw_686 : Cond.code yX11_forget cX11_forget 1 (some .int) ∈ lw_g := wk_gq wk_m3 143 rfl rfl
set_option maxRecDepth 20000 in
theorem tw_687 : Cond.methodLink RX11 237 yX4_clear ∈ lw_g := wk_gq wk_m3 144 rfl rfl
set_option maxRecDepth 20000 in
theorem tw_688 : Cond.methodLink RL 105 yX11_rounds ∈ lw_g := wk_gq wk_m3 145 rfl rfl
set_option maxRecDepth 20000 in
theorem tw_689 : Cond.instanceMethod yX11_rounds ∈ lw_g := wk_gq wk_m3 146 rfl rfl
set_option maxRecDepth 20000 in
theorem tw_690 : Cond.selects RX11 yX11_rounds yX11_rounds ∈ lw_g := wk_gq wk_m3 147 rfl rfl
set_option maxRecDepth 20000 in
theorem tw_691 : Cond.code yX11_rounds cX11_rounds 8 (some .int) ∈ lw_g := wk_gq wk_m3 148 rfl rfl
set_option maxRecDepth 20000 in
theorem tw_692 : Cond.methodLink RX11 238 yX11_seedBehind ∈ lw_g := wk_gq wk_m3 149 rfl rfl
set_option maxRecDepth 20000 in
theorem tw_693 : Cond.static yX11_seedBehind ∈ lw_g := wk_gq wk_m3 150 rfl rfl
set_option maxRecDepth 20000 in
theorem tw_694 : Cond.code yX11_seedBehind cX11_seedBehind 1 (some .int) ∈ lw_g := wk_gq wk_m3 151 rfl rfl
set_option maxRecDepth 20000 in
theorem tw_695 : Cond.constantLong RX11 303 1103515245 ∈ lw_g := wk_gq wk_m3 152 rfl rfl
set_option maxRecDepth 20000 in
theorem tw_696 : Cond.constantLong RX11 305 12345 ∈ lw_g := wk_gq wk_m3 153 rfl rfl
set_option maxRecDepth 20000 in
theorem tw_697 : Cond.constantLong RX11 307 2147483647 ∈ lw_g := wk_gq wk_m3 154 rfl rfl
set_option maxRecDepth 20000 in
theorem tw_698 : Cond.constant RX11 241 65536 ∈ lw_g := wk_gq wk_m3 155 rfl rfl
set_option maxRecDepth 20000 in
theorem tw_699 : Cond.methodLink RL 109 yX11_image ∈ lw_g := wk_gq wk_m3 156 rfl rfl
set_option maxRecDepth 20000 in
theorem tw_700 : Cond.instanceMethod yX11_image ∈ lw_g := wk_gq wk_m3 157 rfl rfl
set_option maxRecDepth 20000 in
theorem tw_701 : Cond.selects RX11 yX11_image yX11_image ∈ lw_g := wk_gq wk_m3 158 rfl rfl
set_option maxRecDepth 20000 in
theorem tw_702 : Cond.code yX11_image cX11_image 1 (some .int) ∈ lw_g := wk_gq wk_m3 159 rfl rfl
set_option maxRecDepth 20000 in
theorem tw_703 : Cond.methodLink RX11 242 yX2_copyFrom ∈ lw_g := wk_gq wk_m3 160 rfl rfl
set_option maxRecDepth 20000 in
theorem tw_704 : Cond.instanceMethod yX2_copyFrom ∈ lw_g := wk_gq wk_m3 161 rfl rfl
set_option maxRecDepth 20000 in
theorem tw_705 : Cond.selects RX2 yX2_copyFrom yX2_copyFrom ∈ lw_g := wk_gq wk_m3 162 rfl rfl
set_option maxRecDepth 20000 in
theorem tw_706 : Cond.code yX2_copyFrom cX2_copyFrom 2 none ∈ lw_g := wk_gq wk_m3 163 rfl rfl
set_option maxRecDepth 20000 in
theorem tw_707 : Cond.methodLink RX2 43 yX8_copyFrom ∈ lw_g := wk_gq wk_m3 164 rfl rfl
set_option maxRecDepth 20000 in
theorem tw_708 : Cond.instanceMethod yX8_copyFrom ∈ lw_g := wk_gq wk_m3 165 rfl rfl
set_option maxRecDepth 20000 in
theorem tw_709 : Cond.selects RX8 yX8_copyFrom yX8_copyFrom ∈ lw_g := wk_gq wk_m3 166 rfl rfl
set_option maxRecDepth 20000 in
theorem tw_710 : Cond.code yX8_copyFrom cX8_copyFrom 2 none ∈ lw_g := wk_gq wk_m3 167 rfl rfl
set_option maxRecDepth 20000 in
theorem tw_711 : Cond.methodLink RX8 28 yX8_append ∈ lw_g := wk_gq wk_m3 168 rfl rfl
set_option maxRecDepth 20000 in
theorem tw_712 : Cond.methodLink RX2 47 yX4_copyFrom ∈ lw_g := wk_gq wk_m3 169 rfl rfl
set_option maxRecDepth 20000 in
theorem tw_713 : Cond.instanceMethod yX4_copyFrom ∈ lw_g := wk_gq wk_m3 170 rfl rfl
set_option maxRecDepth 20000 in
theorem tw_714 : Cond.selects RX4 yX4_copyFrom yX4_copyFrom ∈ lw_g := wk_gq wk_m3 171 rfl rfl
set_option maxRecDepth 20000 in
theorem tw_715 : Cond.code yX4_copyFrom cX4_copyFrom 3 none ∈ lw_g := wk_gq wk_m3 172 rfl rfl
set_option maxRecDepth 20000 in
theorem tw_716 : Cond.methodLink RX4 25 yX4_add ∈ lw_g := wk_gq wk_m3 173 rfl rfl
set_option maxRecDepth 20000 in
theorem tw_717 : Cond.methodLink RL 113 yX11_restore ∈ lw_g := wk_gq wk_m3 174 rfl rfl
set_option maxRecDepth 20000 in
theorem tw_718 : Cond.instanceMethod yX11_restore ∈ lw_g := wk_gq wk_m3 175 rfl rfl
set_option maxRecDepth 20000 in
theorem tw_719 : Cond.selects RX11 yX11_restore yX11_restore ∈ lw_g := wk_gq wk_m3 176 rfl rfl
set_option maxRecDepth 20000 in
theorem tw_720 : Cond.code yX11_restore cX11_restore 1 (some .int) ∈ lw_g := wk_gq wk_m3 177 rfl rfl
set_option maxRecDepth 20000 in
theorem tw_721 : Cond.methodLink RL 117 yX11_count ∈ lw_g := wk_gq wk_m3 178 rfl rfl
set_option maxRecDepth 20000 in
theorem tw_722 : Cond.instanceMethod yX11_count ∈ lw_g := wk_gq wk_m3 179 rfl rfl
set_option maxRecDepth 20000 in
theorem tw_723 : Cond.selects RX11 yX11_count yX11_count ∈ lw_g := wk_gq wk_m3 180 rfl rfl
set_option maxRecDepth 20000 in
theorem tw_724 : Cond.code yX11_count cX11_count 2 (some .int) ∈ lw_g := wk_gq wk_m3 181 rfl rfl
set_option maxRecDepth 20000 in
theorem tw_725 : Cond.methodLink RX11 252 yX8_highestOf ∈ lw_g := wk_gq wk_m3 182 rfl rfl
set_option maxRecDepth 20000 in
theorem tw_726 : Cond.methodLink RX11 256 yX8_linksOf ∈ lw_g := wk_gq wk_m3 183 rfl rfl
set_option maxRecDepth 20000 in
theorem tw_727 : Cond.methodLink RX11 259 yX8_allHeat ∈ lw_g := wk_gq wk_m3 184 rfl rfl
set_option maxRecDepth 20000 in
theorem tw_728 : Cond.instanceMethod yX8_allHeat ∈ lw_g := wk_gq wk_m3 185 rfl rfl
set_option maxRecDepth 20000 in
theorem tw_729 : Cond.selects RX8 yX8_allHeat yX8_allHeat ∈ lw_g := wk_gq wk_m3 186 rfl rfl
set_option maxRecDepth 20000 in
theorem tw_730 : Cond.code yX8_allHeat cX8_allHeat 3 (some .int) ∈ lw_g := wk_gq wk_m3 187 rfl rfl
set_option maxRecDepth 20000 in
theorem tw_731 : Cond.methodLink RL 121 yX11_digest ∈ lw_g := wk_gq wk_m3 188 rfl rfl
set_option maxRecDepth 20000 in
theorem tw_732 : Cond.instanceMethod yX11_digest ∈ lw_g := wk_gq wk_m3 189 rfl rfl
set_option maxRecDepth 20000 in
theorem tw_733 : Cond.selects RX11 yX11_digest yX11_digest ∈ lw_g := wk_gq wk_m3 190 rfl rfl
set_option maxRecDepth 20000 in
theorem tw_734 : Cond.code yX11_digest cX11_digest 4 (some .long) ∈ lw_g := wk_gq wk_m3 191 rfl rfl
set_option maxRecDepth 20000 in
theorem tw_735 : Cond.constantLong RX11 262 1151 ∈ lw_g := wk_gq wk_m3 192 rfl rfl
set_option maxRecDepth 20000 in
theorem tw_736 : Cond.methodLink RX11 264 yX11_withKey ∈ lw_g := wk_gq wk_m3 193 rfl rfl
set_option maxRecDepth 20000 in
theorem tw_738 : Cond.instanceMethod yX11_withKey ∈ lw_g := wk_gq wk_m3 195 rfl rfl
set_option maxRecDepth 20000 in
theorem tw_739 : Cond.code yX11_withKey cX11_withKey 7 (some .long) ∈ lw_g := wk_gq wk_m3 196 rfl rfl
set_option maxRecDepth 20000 in
theorem tw_740 : Cond.constantLong RX11 279 31 ∈ lw_g := wk_gq wk_m3 197 rfl rfl
set_option maxRecDepth 20000 in
theorem tw_741 : Cond.methodLink RX11 284 yX11_key ∈ lw_g := wk_gq wk_m3 198 rfl rfl
set_option maxRecDepth 20000 in
theorem tw_742 : Cond.methodLink RX11 268 yX11_withLanes ∈ lw_g := wk_gq wk_m3 199 rfl rfl
set_option maxRecDepth 20000 in
theorem tw_744 : Cond.instanceMethod yX11_withLanes ∈ lw_g := wk_gq wk_m3 201 rfl rfl
set_option maxRecDepth 20000 in
theorem tw_745 : Cond.code yX11_withLanes cX11_withLanes 7 (some .long) ∈ lw_g := wk_gq wk_m3 202 rfl rfl
set_option maxRecDepth 20000 in
theorem tw_746 : Cond.methodLink RX11 287 yX11_lane ∈ lw_g := wk_gq wk_m3 203 rfl rfl
set_option maxRecDepth 20000 in
theorem tw_747 : Cond.methodLink RX11 272 yX11_withRow ∈ lw_g := wk_gq wk_m3 204 rfl rfl
set_option maxRecDepth 20000 in
theorem tw_749 : Cond.instanceMethod yX11_withRow ∈ lw_g := wk_gq wk_m3 206 rfl rfl
set_option maxRecDepth 20000 in
theorem tw_750 : Cond.code yX11_withRow cX11_withRow 6 (some .long) ∈ lw_g := wk_gq wk_m3 207 rfl rfl
set_option maxRecDepth 20000 in
theorem tw_751 : Cond.methodLink RX11 289 yX11_nth ∈ lw_g := wk_gq wk_m3 208 rfl rfl
set_option maxRecDepth 20000 in
theorem tw_752 : Cond.methodLink RX11 292 yX11_cost ∈ lw_g := wk_gq wk_m3 209 rfl rfl
set_option maxRecDepth 20000 in
theorem tw_753 : Cond.methodLink RX11 275 yX11_withCodes ∈ lw_g := wk_gq wk_m3 210 rfl rfl
set_option maxRecDepth 20000 in
theorem tw_754 : Cond.static yX11_withCodes ∈ lw_g := wk_gq wk_m3 211 rfl rfl
set_option maxRecDepth 20000 in
theorem tw_755 : Cond.code yX11_withCodes cX11_withCodes 7 (some .long) ∈ lw_g := wk_gq wk_m3 212 rfl rfl
set_option maxRecDepth 20000 in
theorem tw_756 : Cond.methodLink RX11 281 yX11_count ∈ lw_g := wk_gq wk_m3 213 rfl rfl
set_option maxRecDepth 20000 in
theorem tw_757 : Cond.classLink RL 10 RX12 ∈ lw_g := wk_gq wk_m3 214 rfl rfl
set_option maxRecDepth 20000 in
theorem tw_758 : Cond.instantiable RX12 44 ∈ lw_g := wk_gq wk_m3 215 rfl rfl
set_option maxRecDepth 20000 in
theorem tw_759 : Cond.methodLink RL 12 yX12_init ∈ lw_g := wk_gq wk_m3 216 rfl rfl
set_option maxRecDepth 20000 in
theorem tw_760 : Cond.instanceMethod yX12_init ∈ lw_g := wk_gq wk_m3 217 rfl rfl
set_option maxRecDepth 20000 in
theorem tw_761 : Cond.code yX12_init cX12_init 1 none ∈ lw_g := wk_gq wk_m3 218 rfl rfl
set_option maxRecDepth 20000 in
theorem tw_762 : Cond.methodLink RX12 1 objectInit ∈ lw_g := wk_gq wk_m3 219 rfl rfl
set_option maxRecDepth 20000 in
theorem tw_763 : Cond.fieldLink RX12 7 "LaneRowModel" "page" "[I" ∈ lw_g := wk_gq wk_m3 220 rfl rfl
set_option maxRecDepth 20000 in
theorem tw_764 : Cond.fieldLink RX12 86 "LaneRowModel" "pageMany" "I" ∈ lw_g := wk_gq wk_m3 221 rfl rfl
set_option maxRecDepth 20000 in
theorem tw_765 : Cond.fieldLink RX12 118 "LaneRowModel" "law" "I" ∈ lw_g := wk_gq wk_m3 222 rfl rfl
set_option maxRecDepth 20000 in
theorem tw_766 : Cond.fieldLink RX12 121 "LaneRowModel" "many" "I" ∈ lw_g := wk_gq wk_m3 223 rfl rfl
set_option maxRecDepth 20000 in
theorem tw_767 : Cond.fieldLink RX12 130 "LaneRowModel" "asked" "I" ∈ lw_g := wk_gq wk_m3 224 rfl rfl
set_option maxRecDepth 20000 in
theorem tw_768 : Cond.fieldLink RX12 133 "LaneRowModel" "looksAll" "I" ∈ lw_g := wk_gq wk_m3 225 rfl rfl
set_option maxRecDepth 20000 in
theorem tw_769 : Cond.fieldLink RX12 136 "LaneRowModel" "changes" "I" ∈ lw_g := wk_gq wk_m3 226 rfl rfl
set_option maxRecDepth 20000 in
theorem tw_770 : Cond.fieldLink RX12 142 "LaneRowModel" "rowsRead" "I" ∈ lw_g := wk_gq wk_m3 227 rfl rfl
set_option maxRecDepth 20000 in
theorem tw_771 : Cond.fieldLink RX12 13 "LaneRowModel" "keys" "[I" ∈ lw_g := wk_gq wk_m3 228 rfl rfl
set_option maxRecDepth 20000 in
theorem tw_772 : Cond.fieldLink RX12 16 "LaneRowModel" "values" "[I" ∈ lw_g := wk_gq wk_m3 229 rfl rfl
set_option maxRecDepth 20000 in
theorem tw_773 : Cond.fieldLink RX12 19 "LaneRowModel" "heights" "[I" ∈ lw_g := wk_gq wk_m3 230 rfl rfl
set_option maxRecDepth 20000 in
theorem tw_774 : Cond.fieldLink RX12 22 "LaneRowModel" "heats" "[I" ∈ lw_g := wk_gq wk_m3 231 rfl rfl
set_option maxRecDepth 20000 in
theorem tw_775 : Cond.fieldLink RX12 127 "LaneRowModel" "secondMany" "I" ∈ lw_g := wk_gq wk_m3 232 rfl rfl
set_option maxRecDepth 20000 in
theorem tw_776 : Cond.fieldLink RX12 25 "LaneRowModel" "secondKeys" "[I" ∈ lw_g := wk_gq wk_m3 233 rfl rfl
set_option maxRecDepth 20000 in
theorem tw_777 : Cond.fieldLink RX12 28 "LaneRowModel" "secondValues" "[I" ∈ lw_g := wk_gq wk_m3 234 rfl rfl
set_option maxRecDepth 20000 in
theorem tw_778 : Cond.fieldLink RX12 31 "LaneRowModel" "secondHeights" "[I" ∈ lw_g := wk_gq wk_m3 235 rfl rfl
set_option maxRecDepth 20000 in
theorem tw_779 : Cond.fieldLink RX12 34 "LaneRowModel" "secondHeats" "[I" ∈ lw_g := wk_gq wk_m3 236 rfl rfl
set_option maxRecDepth 20000 in
theorem tw_780 : Cond.fieldLink RX12 158 "LaneRowModel" "foundAt" "I" ∈ lw_g := wk_gq wk_m3 237 rfl rfl
set_option maxRecDepth 20000 in
theorem tw_781 : Cond.fieldLink RX12 161 "LaneRowModel" "foundLooks" "I" ∈ lw_g := wk_gq wk_m3 238 rfl rfl
set_option maxRecDepth 20000 in
theorem tw_782 : Cond.fieldLink RX12 164 "LaneRowModel" "foundLane" "I" ∈ lw_g := wk_gq wk_m3 239 rfl rfl
set_option maxRecDepth 20000 in
theorem tw_783 : Cond.fieldLink RX12 273 "LaneRowModel" "bestsDone" "I" ∈ lw_g := wk_gq wk_m4 0 rfl rfl
set_option maxRecDepth 20000 in
theorem tw_784 : Cond.fieldLink RX12 37 "LaneRowModel" "saved" "[I" ∈ lw_g := wk_gq wk_m4 1 rfl rfl
set_option maxRecDepth 20000 in
theorem tw_785 : Cond.fieldLink RX12 40 "LaneRowModel" "bestHeights" "[I" ∈ lw_g := wk_gq wk_m4 2 rfl rfl
set_option maxRecDepth 20000 in
theorem tw_786 : Cond.fieldLink RX12 139 "LaneRowModel" "seenMany" "I" ∈ lw_g := wk_gq wk_m4 3 rfl rfl
set_option maxRecDepth 20000 in
theorem tw_787 : Cond.fieldLink RX12 43 "LaneRowModel" "sights" "[I" ∈ lw_g := wk_gq wk_m4 4 rfl rfl
set_option maxRecDepth 20000 in
theorem tw_788 : Cond.fieldLink RX12 46 "LaneRowModel" "by" "[I" ∈ lw_g := wk_gq wk_m4 5 rfl rfl
set_option maxRecDepth 20000 in
theorem tw_789 : Cond.fieldLink RX12 291 "LaneRowModel" "seedNow" "I" ∈ lw_g := wk_gq wk_m4 6 rfl rfl
set_option maxRecDepth 20000 in
theorem tw_790 : Cond.fieldLink RX12 76 "LaneRowModel" "keptRow" "I" ∈ lw_g := wk_gq wk_m4 7 rfl rfl
set_option maxRecDepth 20000 in
theorem tw_791 : Cond.fieldLink RX12 304 "LaneRowModel" "keptMany" "I" ∈ lw_g := wk_gq wk_m4 8 rfl rfl
set_option maxRecDepth 20000 in
theorem tw_792 : Cond.fieldLink RX12 307 "LaneRowModel" "keptSecond" "I" ∈ lw_g := wk_gq wk_m4 9 rfl rfl
set_option maxRecDepth 20000 in
theorem tw_793 : Cond.fieldLink RX12 310 "LaneRowModel" "keptAsked" "I" ∈ lw_g := wk_gq wk_m4 10 rfl rfl
set_option maxRecDepth 20000 in
theorem tw_794 : Cond.fieldLink RX12 313 "LaneRowModel" "keptLooks" "I" ∈ lw_g := wk_gq wk_m4 11 rfl rfl
set_option maxRecDepth 20000 in
theorem tw_795 : Cond.fieldLink RX12 316 "LaneRowModel" "keptChanges" "I" ∈ lw_g := wk_gq wk_m4 12 rfl rfl
set_option maxRecDepth 20000 in
theorem tw_796 : Cond.fieldLink RX12 319 "LaneRowModel" "keptSeen" "I" ∈ lw_g := wk_gq wk_m4 13 rfl rfl
set_option maxRecDepth 20000 in
theorem tw_797 : Cond.fieldLink RX12 49 "LaneRowModel" "keptKeys" "[I" ∈ lw_g := wk_gq wk_m4 14 rfl rfl
set_option maxRecDepth 20000 in
theorem tw_798 : Cond.fieldLink RX12 52 "LaneRowModel" "keptValues" "[I" ∈ lw_g := wk_gq wk_m4 15 rfl rfl
set_option maxRecDepth 20000 in
theorem tw_799 : Cond.fieldLink RX12 55 "LaneRowModel" "keptHeights" "[I" ∈ lw_g := wk_gq wk_m4 16 rfl rfl
set_option maxRecDepth 20000 in
theorem tw_800 : Cond.fieldLink RX12 58 "LaneRowModel" "keptHeats" "[I" ∈ lw_g := wk_gq wk_m4 17 rfl rfl
set_option maxRecDepth 20000 in
theorem tw_801 : Cond.fieldLink RX12 61 "LaneRowModel" "keptKeys2" "[I" ∈ lw_g := wk_gq wk_m4 18 rfl rfl
set_option maxRecDepth 20000 in
theorem tw_802 : Cond.fieldLink RX12 64 "LaneRowModel" "keptValues2" "[I" ∈ lw_g := wk_gq wk_m4 19 rfl rfl
set_option maxRecDepth 20000 in
theorem tw_803 : Cond.fieldLink RX12 67 "LaneRowModel" "keptHeights2" "[I" ∈ lw_g := wk_gq wk_m4 20 rfl rfl
set_option maxRecDepth 20000 in
theorem tw_804 : Cond.fieldLink RX12 70 "LaneRowModel" "keptHeats2" "[I" ∈ lw_g := wk_gq wk_m4 21 rfl rfl
set_option maxRecDepth 20000 in
theorem tw_805 : Cond.fieldLink RX12 73 "LaneRowModel" "keptSights" "[I" ∈ lw_g := wk_gq wk_m4 22 rfl rfl
set_option maxRecDepth 20000 in
theorem tw_806 : Cond.fieldLink RX12 331 "LaneRowModel" "hash" "J" ∈ lw_g := wk_gq wk_m4 23 rfl rfl
set_option maxRecDepth 20000 in
theorem tw_896 : Cond.methodLink RL 17 yX12_letter ∈ lw_g := wk_gq wk_m4 113 rfl rfl
set_option maxRecDepth 20000 in
theorem tw_897 : Cond.instanceMethod yX12_letter ∈ lw_g := wk_gq wk_m4 114 rfl rfl
set_option maxRecDepth 20000 in
theorem tw_898 : Cond.selects RX12 yX12_letter yX12_letter ∈ lw_g := wk_gq wk_m4 115 rfl rfl
set_option maxRecDepth 20000 in
theorem tw_899 : Cond.code yX12_letter cX12_letter 2 (some .int) ∈ lw_g := wk_gq wk_m4 116 rfl rfl
set_option maxRecDepth 20000 in
theorem tw_900 : Cond.constantLong RX12 80 126 ∈ lw_g := wk_gq wk_m4 117 rfl rfl
set_option maxRecDepth 20000 in
theorem tw_901 : Cond.methodLink RX12 82 yX12_in ∈ lw_g := wk_gq wk_m4 118 rfl rfl
set_option maxRecDepth 20000 in
theorem tw_902 : Cond.static yX12_in ∈ lw_g := wk_gq wk_m4 119 rfl rfl
set_option maxRecDepth 20000 in
theorem tw_903 : Cond.code yX12_in cX12_in 6 (some .boolean) ∈ lw_g := wk_gq wk_m4 120 rfl rfl
set_option maxRecDepth 20000 in
theorem tw_904 : Cond.methodLink RL 22 yX12_blank ∈ lw_g := wk_gq wk_m4 121 rfl rfl
set_option maxRecDepth 20000 in
theorem tw_905 : Cond.instanceMethod yX12_blank ∈ lw_g := wk_gq wk_m4 122 rfl rfl
set_option maxRecDepth 20000 in
theorem tw_906 : Cond.selects RX12 yX12_blank yX12_blank ∈ lw_g := wk_gq wk_m4 123 rfl rfl
set_option maxRecDepth 20000 in
theorem tw_907 : Cond.code yX12_blank cX12_blank 2 (some .int) ∈ lw_g := wk_gq wk_m4 124 rfl rfl
set_option maxRecDepth 20000 in
theorem tw_908 : Cond.methodLink RL 26 yX12_fault ∈ lw_g := wk_gq wk_m4 125 rfl rfl
set_option maxRecDepth 20000 in
theorem tw_909 : Cond.instanceMethod yX12_fault ∈ lw_g := wk_gq wk_m4 126 rfl rfl
set_option maxRecDepth 20000 in
theorem tw_910 : Cond.selects RX12 yX12_fault yX12_fault ∈ lw_g := wk_gq wk_m4 127 rfl rfl
set_option maxRecDepth 20000 in
theorem tw_911 : Cond.code yX12_fault cX12_fault 1 (some .int) ∈ lw_g := wk_gq wk_m4 128 rfl rfl
set_option maxRecDepth 20000 in
theorem tw_912 : Cond.methodLink RX12 115 yX12_faultOf ∈ lw_g := wk_gq wk_m4 129 rfl rfl
set_option maxRecDepth 20000 in
theorem tw_914 : Cond.instanceMethod yX12_faultOf ∈ lw_g := wk_gq wk_m4 131 rfl rfl
set_option maxRecDepth 20000 in
theorem tw_915 : Cond.code yX12_faultOf cX12_faultOf 2 (some .int) ∈ lw_g := wk_gq wk_m4 132 rfl rfl
set_option maxRecDepth 20000 in
theorem tw_916 : Cond.methodLink RX12 112 yX12_isGood ∈ lw_g := wk_gq wk_m4 133 rfl rfl
set_option maxRecDepth 20000 in
theorem tw_918 : Cond.instanceMethod yX12_isGood ∈ lw_g := wk_gq wk_m4 135 rfl rfl
set_option maxRecDepth 20000 in
theorem tw_919 : Cond.code yX12_isGood cX12_isGood 2 (some .boolean) ∈ lw_g := wk_gq wk_m4 136 rfl rfl
set_option maxRecDepth 20000 in
theorem tw_920 : Cond.methodLink RX12 105 yX12_lawBy ∈ lw_g := wk_gq wk_m4 137 rfl rfl
set_option maxRecDepth 20000 in
theorem tw_921 : Cond.static yX12_lawBy ∈ lw_g := wk_gq wk_m4 138 rfl rfl
set_option maxRecDepth 20000 in
theorem tw_922 : Cond.code yX12_lawBy cX12_lawBy 1 (some .int) ∈ lw_g := wk_gq wk_m4 139 rfl rfl
set_option maxRecDepth 20000 in
theorem tw_923 : Cond.methodLink RX12 108 yX12_isKeyLetter ∈ lw_g := wk_gq wk_m4 140 rfl rfl
set_option maxRecDepth 20000 in
theorem tw_925 : Cond.instanceMethod yX12_isKeyLetter ∈ lw_g := wk_gq wk_m4 142 rfl rfl
set_option maxRecDepth 20000 in
theorem tw_926 : Cond.code yX12_isKeyLetter cX12_isKeyLetter 5 (some .boolean) ∈ lw_g := wk_gq wk_m4 143 rfl rfl
set_option maxRecDepth 20000 in
theorem tw_927 : Cond.methodLink RX12 89 yX12_wide ∈ lw_g := wk_gq wk_m4 144 rfl rfl
set_option maxRecDepth 20000 in
theorem tw_929 : Cond.instanceMethod yX12_wide ∈ lw_g := wk_gq wk_m4 146 rfl rfl
set_option maxRecDepth 20000 in
theorem tw_930 : Cond.code yX12_wide cX12_wide 1 (some .int) ∈ lw_g := wk_gq wk_m4 147 rfl rfl
set_option maxRecDepth 20000 in
theorem tw_931 : Cond.constantLong RX12 93 48 ∈ lw_g := wk_gq wk_m4 148 rfl rfl
set_option maxRecDepth 20000 in
theorem tw_932 : Cond.constantLong RX12 95 57 ∈ lw_g := wk_gq wk_m4 149 rfl rfl
set_option maxRecDepth 20000 in
theorem tw_933 : Cond.methodLink RX12 97 yX12_keyAt ∈ lw_g := wk_gq wk_m4 150 rfl rfl
set_option maxRecDepth 20000 in
theorem tw_935 : Cond.instanceMethod yX12_keyAt ∈ lw_g := wk_gq wk_m4 152 rfl rfl
set_option maxRecDepth 20000 in
theorem tw_936 : Cond.code yX12_keyAt cX12_keyAt 2 (some .int) ∈ lw_g := wk_gq wk_m4 153 rfl rfl
set_option maxRecDepth 20000 in
theorem tw_937 : Cond.constantLong RX12 101 49 ∈ lw_g := wk_gq wk_m4 154 rfl rfl
set_option maxRecDepth 20000 in
theorem tw_938 : Cond.constantLong RX12 103 52 ∈ lw_g := wk_gq wk_m4 155 rfl rfl
set_option maxRecDepth 20000 in
theorem tw_939 : Cond.methodLink RL 30 yX12_row ∈ lw_g := wk_gq wk_m4 156 rfl rfl
set_option maxRecDepth 20000 in
theorem tw_940 : Cond.instanceMethod yX12_row ∈ lw_g := wk_gq wk_m4 157 rfl rfl
set_option maxRecDepth 20000 in
theorem tw_941 : Cond.selects RX12 yX12_row yX12_row ∈ lw_g := wk_gq wk_m4 158 rfl rfl
set_option maxRecDepth 20000 in
theorem tw_942 : Cond.code yX12_row cX12_row 4 (some .int) ∈ lw_g := wk_gq wk_m4 159 rfl rfl
set_option maxRecDepth 20000 in
theorem tw_943 : Cond.methodLink RX12 124 yX12_layHeights ∈ lw_g := wk_gq wk_m4 160 rfl rfl
set_option maxRecDepth 20000 in
theorem tw_945 : Cond.instanceMethod yX12_layHeights ∈ lw_g := wk_gq wk_m4 162 rfl rfl
set_option maxRecDepth 20000 in
theorem tw_946 : Cond.code yX12_layHeights cX12_layHeights 2 none ∈ lw_g := wk_gq wk_m4 163 rfl rfl
set_option maxRecDepth 20000 in
theorem tw_947 : Cond.methodLink RX12 152 yX12_heightBy ∈ lw_g := wk_gq wk_m4 164 rfl rfl
set_option maxRecDepth 20000 in
theorem tw_949 : Cond.instanceMethod yX12_heightBy ∈ lw_g := wk_gq wk_m4 166 rfl rfl
set_option maxRecDepth 20000 in
theorem tw_950 : Cond.code yX12_heightBy cX12_heightBy 3 (some .int) ∈ lw_g := wk_gq wk_m4 167 rfl rfl
set_option maxRecDepth 20000 in
theorem tw_951 : Cond.methodLink RX12 145 yX12_divides ∈ lw_g := wk_gq wk_m4 168 rfl rfl
set_option maxRecDepth 20000 in
theorem tw_952 : Cond.static yX12_divides ∈ lw_g := wk_gq wk_m4 169 rfl rfl
set_option maxRecDepth 20000 in
theorem tw_953 : Cond.code yX12_divides cX12_divides 4 (some .int) ∈ lw_g := wk_gq wk_m4 170 rfl rfl
set_option maxRecDepth 20000 in
theorem tw_954 : Cond.methodLink RX12 149 yX12_topped ∈ lw_g := wk_gq wk_m4 171 rfl rfl
set_option maxRecDepth 20000 in
theorem tw_955 : Cond.static yX12_topped ∈ lw_g := wk_gq wk_m4 172 rfl rfl
set_option maxRecDepth 20000 in
theorem tw_956 : Cond.code yX12_topped cX12_topped 1 (some .int) ∈ lw_g := wk_gq wk_m4 173 rfl rfl
set_option maxRecDepth 20000 in
theorem tw_957 : Cond.methodLink RL 51 yX12_find ∈ lw_g := wk_gq wk_m4 174 rfl rfl
set_option maxRecDepth 20000 in
theorem tw_958 : Cond.instanceMethod yX12_find ∈ lw_g := wk_gq wk_m4 175 rfl rfl
set_option maxRecDepth 20000 in
theorem tw_959 : Cond.selects RX12 yX12_find yX12_find ∈ lw_g := wk_gq wk_m4 176 rfl rfl
set_option maxRecDepth 20000 in
theorem tw_960 : Cond.code yX12_find cX12_find 3 (some .int) ∈ lw_g := wk_gq wk_m4 177 rfl rfl
set_option maxRecDepth 20000 in
theorem tw_961 : Cond.methodLink RX12 180 yX12_isKey ∈ lw_g := wk_gq wk_m4 178 rfl rfl
set_option maxRecDepth 20000 in
theorem tw_962 : Cond.static yX12_isKey ∈ lw_g := wk_gq wk_m4 179 rfl rfl
set_option maxRecDepth 20000 in
theorem tw_963 : Cond.code yX12_isKey cX12_isKey 1 (some .boolean) ∈ lw_g := wk_gq wk_m4 180 rfl rfl
set_option maxRecDepth 20000 in
theorem tw_964 : Cond.constantLong RX12 178 99 ∈ lw_g := wk_gq wk_m4 181 rfl rfl
set_option maxRecDepth 20000 in
theorem tw_965 : Cond.constantLong RX12 183 3 ∈ lw_g := wk_gq wk_m4 182 rfl rfl
set_option maxRecDepth 20000 in
theorem tw_966 : Cond.methodLink RX12 185 yX12_lacks ∈ lw_g := wk_gq wk_m4 183 rfl rfl
set_option maxRecDepth 20000 in
theorem tw_968 : Cond.instanceMethod yX12_lacks ∈ lw_g := wk_gq wk_m4 185 rfl rfl
set_option maxRecDepth 20000 in
theorem tw_969 : Cond.code yX12_lacks cX12_lacks 1 (some .boolean) ∈ lw_g := wk_gq wk_m4 186 rfl rfl
set_option maxRecDepth 20000 in
theorem tw_970 : Cond.methodLink RX12 174 yX12_lookFor ∈ lw_g := wk_gq wk_m4 187 rfl rfl
set_option maxRecDepth 20000 in
theorem tw_972 : Cond.instanceMethod yX12_lookFor ∈ lw_g := wk_gq wk_m4 189 rfl rfl
set_option maxRecDepth 20000 in
theorem tw_973 : Cond.code yX12_lookFor cX12_lookFor 2 none ∈ lw_g := wk_gq wk_m4 190 rfl rfl
set_option maxRecDepth 20000 in
theorem tw_974 : Cond.methodLink RX12 167 yX12_lanes ∈ lw_g := wk_gq wk_m4 191 rfl rfl
set_option maxRecDepth 20000 in
theorem tw_976 : Cond.instanceMethod yX12_lanes ∈ lw_g := wk_gq wk_m4 193 rfl rfl
set_option maxRecDepth 20000 in
theorem tw_977 : Cond.code yX12_lanes cX12_lanes 3 (some .int) ∈ lw_g := wk_gq wk_m4 194 rfl rfl
set_option maxRecDepth 20000 in
theorem tw_978 : Cond.methodLink RX12 170 yX12_look ∈ lw_g := wk_gq wk_m4 195 rfl rfl
set_option maxRecDepth 20000 in
theorem tw_980 : Cond.instanceMethod yX12_look ∈ lw_g := wk_gq wk_m4 197 rfl rfl
set_option maxRecDepth 20000 in
theorem tw_981 : Cond.code yX12_look cX12_look 8 none ∈ lw_g := wk_gq wk_m4 198 rfl rfl
set_option maxRecDepth 20000 in
theorem tw_982 : Cond.methodLink RX12 155 yX12_nextIn ∈ lw_g := wk_gq wk_m4 199 rfl rfl
set_option maxRecDepth 20000 in
theorem tw_984 : Cond.instanceMethod yX12_nextIn ∈ lw_g := wk_gq wk_m4 201 rfl rfl
set_option maxRecDepth 20000 in
theorem tw_985 : Cond.code yX12_nextIn cX12_nextIn 4 (some .int) ∈ lw_g := wk_gq wk_m4 202 rfl rfl
set_option maxRecDepth 20000 in
theorem tw_986 : Cond.methodLink RX12 189 yX12_tellFound ∈ lw_g := wk_gq wk_m4 203 rfl rfl
set_option maxRecDepth 20000 in
theorem tw_988 : Cond.instanceMethod yX12_tellFound ∈ lw_g := wk_gq wk_m4 205 rfl rfl
set_option maxRecDepth 20000 in
theorem tw_989 : Cond.code yX12_tellFound cX12_tellFound 2 (some .int) ∈ lw_g := wk_gq wk_m4 206 rfl rfl
set_option maxRecDepth 20000 in
theorem tw_990 : Cond.methodLink RL 55 yX12_nth ∈ lw_g := wk_gq wk_m4 207 rfl rfl
set_option maxRecDepth 20000 in
theorem tw_991 : Cond.instanceMethod yX12_nth ∈ lw_g := wk_gq wk_m4 208 rfl rfl
set_option maxRecDepth 20000 in
theorem tw_992 : Cond.selects RX12 yX12_nth yX12_nth ∈ lw_g := wk_gq wk_m4 209 rfl rfl
set_option maxRecDepth 20000 in
theorem tw_993 : Cond.code yX12_nth cX12_nth 3 (some .int) ∈ lw_g := wk_gq wk_m4 210 rfl rfl
set_option maxRecDepth 20000 in
theorem tw_994 : Cond.methodLink RX12 192 yX12_isNumber ∈ lw_g := wk_gq wk_m4 211 rfl rfl
set_option maxRecDepth 20000 in
theorem tw_996 : Cond.instanceMethod yX12_isNumber ∈ lw_g := wk_gq wk_m4 213 rfl rfl
set_option maxRecDepth 20000 in
theorem tw_997 : Cond.code yX12_isNumber cX12_isNumber 2 (some .boolean) ∈ lw_g := wk_gq wk_m4 214 rfl rfl
set_option maxRecDepth 20000 in
theorem tw_998 : Cond.constantLong RX12 195 2 ∈ lw_g := wk_gq wk_m4 215 rfl rfl
set_option maxRecDepth 20000 in
theorem tw_999 : Cond.methodLink RX12 197 yX12_lookNumber ∈ lw_g := wk_gq wk_m4 216 rfl rfl
set_option maxRecDepth 20000 in
theorem tw_1001 : Cond.instanceMethod yX12_lookNumber ∈ lw_g := wk_gq wk_m4 218 rfl rfl
set_option maxRecDepth 20000 in
theorem tw_1002 : Cond.code yX12_lookNumber cX12_lookNumber 5 none ∈ lw_g := wk_gq wk_m4 219 rfl rfl
set_option maxRecDepth 20000 in
theorem tw_1003 : Cond.methodLink RL 59 yX12_sum ∈ lw_g := wk_gq wk_m4 220 rfl rfl
set_option maxRecDepth 20000 in
theorem tw_1004 : Cond.instanceMethod yX12_sum ∈ lw_g := wk_gq wk_m4 221 rfl rfl
set_option maxRecDepth 20000 in
theorem tw_1005 : Cond.selects RX12 yX12_sum yX12_sum ∈ lw_g := wk_gq wk_m4 222 rfl rfl
set_option maxRecDepth 20000 in
theorem tw_1006 : Cond.code yX12_sum cX12_sum 5 (some .int) ∈ lw_g := wk_gq wk_m4 223 rfl rfl
set_option maxRecDepth 20000 in
theorem tw_1007 : Cond.methodLink RL 64 yX12_finger ∈ lw_g := wk_gq wk_m4 224 rfl rfl
set_option maxRecDepth 20000 in
theorem tw_1008 : Cond.instanceMethod yX12_finger ∈ lw_g := wk_gq wk_m4 225 rfl rfl
set_option maxRecDepth 20000 in
theorem tw_1009 : Cond.selects RX12 yX12_finger yX12_finger ∈ lw_g := wk_gq wk_m4 226 rfl rfl
set_option maxRecDepth 20000 in
theorem tw_1010 : Cond.code yX12_finger cX12_finger 4 (some .int) ∈ lw_g := wk_gq wk_m4 227 rfl rfl
set_option maxRecDepth 20000 in
theorem tw_1011 : Cond.methodLink RL 68 yX12_ask ∈ lw_g := wk_gq wk_m4 228 rfl rfl
set_option maxRecDepth 20000 in
theorem tw_1012 : Cond.instanceMethod yX12_ask ∈ lw_g := wk_gq wk_m4 229 rfl rfl
set_option maxRecDepth 20000 in
theorem tw_1013 : Cond.selects RX12 yX12_ask yX12_ask ∈ lw_g := wk_gq wk_m4 230 rfl rfl
set_option maxRecDepth 20000 in
theorem tw_1014 : Cond.code yX12_ask cX12_ask 2 (some .int) ∈ lw_g := wk_gq wk_m4 231 rfl rfl
set_option maxRecDepth 20000 in
theorem tw_1015 : Cond.methodLink RL 43 yX12_key ∈ lw_g := wk_gq wk_m4 232 rfl rfl
set_option maxRecDepth 20000 in
theorem tw_1016 : Cond.instanceMethod yX12_key ∈ lw_g := wk_gq wk_m4 233 rfl rfl
set_option maxRecDepth 20000 in
theorem tw_1017 : Cond.selects RX12 yX12_key yX12_key ∈ lw_g := wk_gq wk_m4 234 rfl rfl
set_option maxRecDepth 20000 in
theorem tw_1018 : Cond.code yX12_key cX12_key 3 (some .int) ∈ lw_g := wk_gq wk_m4 235 rfl rfl
set_option maxRecDepth 20000 in
theorem tw_1019 : Cond.methodLink RX12 223 yX12_tellKey ∈ lw_g := wk_gq wk_m4 236 rfl rfl
set_option maxRecDepth 20000 in
theorem tw_1021 : Cond.instanceMethod yX12_tellKey ∈ lw_g := wk_gq wk_m4 238 rfl rfl
set_option maxRecDepth 20000 in
theorem tw_1022 : Cond.code yX12_tellKey cX12_tellKey 3 (some .int) ∈ lw_g := wk_gq wk_m4 239 rfl rfl
set_option maxRecDepth 20000 in
theorem tw_1023 : Cond.constantLong RX12 200 10 ∈ lw_g := wk_gq wk_m5 0 rfl rfl
set_option maxRecDepth 20000 in
theorem tw_1024 : Cond.constantLong RX12 202 13 ∈ lw_g := wk_gq wk_m5 1 rfl rfl
set_option maxRecDepth 20000 in
theorem tw_1025 : Cond.methodLink RX12 204 yX12_widthOf ∈ lw_g := wk_gq wk_m5 2 rfl rfl
set_option maxRecDepth 20000 in
theorem tw_1027 : Cond.instanceMethod yX12_widthOf ∈ lw_g := wk_gq wk_m5 4 rfl rfl
set_option maxRecDepth 20000 in
theorem tw_1028 : Cond.code yX12_widthOf cX12_widthOf 4 (some .int) ∈ lw_g := wk_gq wk_m5 5 rfl rfl
set_option maxRecDepth 20000 in
theorem tw_1029 : Cond.constantLong RX12 207 20 ∈ lw_g := wk_gq wk_m5 6 rfl rfl
set_option maxRecDepth 20000 in
theorem tw_1030 : Cond.constantLong RX12 209 23 ∈ lw_g := wk_gq wk_m5 7 rfl rfl
set_option maxRecDepth 20000 in
theorem tw_1031 : Cond.methodLink RX12 211 yX12_weightOf ∈ lw_g := wk_gq wk_m5 8 rfl rfl
set_option maxRecDepth 20000 in
theorem tw_1033 : Cond.instanceMethod yX12_weightOf ∈ lw_g := wk_gq wk_m5 10 rfl rfl
set_option maxRecDepth 20000 in
theorem tw_1034 : Cond.code yX12_weightOf cX12_weightOf 6 (some .int) ∈ lw_g := wk_gq wk_m5 11 rfl rfl
set_option maxRecDepth 20000 in
theorem tw_1035 : Cond.methodLink RX12 214 yX12_looksFor ∈ lw_g := wk_gq wk_m5 12 rfl rfl
set_option maxRecDepth 20000 in
theorem tw_1037 : Cond.instanceMethod yX12_looksFor ∈ lw_g := wk_gq wk_m5 14 rfl rfl
set_option maxRecDepth 20000 in
theorem tw_1038 : Cond.code yX12_looksFor cX12_looksFor 2 (some .int) ∈ lw_g := wk_gq wk_m5 15 rfl rfl
set_option maxRecDepth 20000 in
theorem tw_1039 : Cond.methodLink RX12 217 yX12_heightsOf ∈ lw_g := wk_gq wk_m5 16 rfl rfl
set_option maxRecDepth 20000 in
theorem tw_1041 : Cond.instanceMethod yX12_heightsOf ∈ lw_g := wk_gq wk_m5 18 rfl rfl
set_option maxRecDepth 20000 in
theorem tw_1042 : Cond.code yX12_heightsOf cX12_heightsOf 6 (some .int) ∈ lw_g := wk_gq wk_m5 19 rfl rfl
set_option maxRecDepth 20000 in
theorem tw_1043 : Cond.methodLink RX12 282 yX12_looksIf ∈ lw_g := wk_gq wk_m5 20 rfl rfl
set_option maxRecDepth 20000 in
theorem tw_1045 : Cond.instanceMethod yX12_looksIf ∈ lw_g := wk_gq wk_m5 22 rfl rfl
set_option maxRecDepth 20000 in
theorem tw_1046 : Cond.code yX12_looksIf cX12_looksIf 6 (some .int) ∈ lw_g := wk_gq wk_m5 23 rfl rfl
set_option maxRecDepth 20000 in
theorem tw_1047 : Cond.methodLink RX12 220 yX12_tryOf ∈ lw_g := wk_gq wk_m5 24 rfl rfl
set_option maxRecDepth 20000 in
theorem tw_1049 : Cond.instanceMethod yX12_tryOf ∈ lw_g := wk_gq wk_m5 26 rfl rfl
set_option maxRecDepth 20000 in
theorem tw_1050 : Cond.code yX12_tryOf cX12_tryOf 7 (some .int) ∈ lw_g := wk_gq wk_m5 27 rfl rfl
set_option maxRecDepth 20000 in
theorem tw_1051 : Cond.methodLink RX12 286 yX12_worstBy ∈ lw_g := wk_gq wk_m5 28 rfl rfl
set_option maxRecDepth 20000 in
theorem tw_1053 : Cond.instanceMethod yX12_worstBy ∈ lw_g := wk_gq wk_m5 30 rfl rfl
set_option maxRecDepth 20000 in
theorem tw_1054 : Cond.code yX12_worstBy cX12_worstBy 8 (some .int) ∈ lw_g := wk_gq wk_m5 31 rfl rfl
set_option maxRecDepth 20000 in
theorem tw_1055 : Cond.methodLink RL 47 yX12_lane ∈ lw_g := wk_gq wk_m5 32 rfl rfl
set_option maxRecDepth 20000 in
theorem tw_1056 : Cond.instanceMethod yX12_lane ∈ lw_g := wk_gq wk_m5 33 rfl rfl
set_option maxRecDepth 20000 in
theorem tw_1057 : Cond.selects RX12 yX12_lane yX12_lane ∈ lw_g := wk_gq wk_m5 34 rfl rfl
set_option maxRecDepth 20000 in
theorem tw_1058 : Cond.code yX12_lane cX12_lane 3 (some .int) ∈ lw_g := wk_gq wk_m5 35 rfl rfl
set_option maxRecDepth 20000 in
theorem tw_1059 : Cond.methodLink RX12 232 yX12_tellLane ∈ lw_g := wk_gq wk_m5 36 rfl rfl
set_option maxRecDepth 20000 in
theorem tw_1061 : Cond.instanceMethod yX12_tellLane ∈ lw_g := wk_gq wk_m5 38 rfl rfl
set_option maxRecDepth 20000 in
theorem tw_1062 : Cond.code yX12_tellLane cX12_tellLane 3 (some .int) ∈ lw_g := wk_gq wk_m5 39 rfl rfl
set_option maxRecDepth 20000 in
theorem tw_1063 : Cond.methodLink RX12 226 yX12_inLane ∈ lw_g := wk_gq wk_m5 40 rfl rfl
set_option maxRecDepth 20000 in
theorem tw_1065 : Cond.instanceMethod yX12_inLane ∈ lw_g := wk_gq wk_m5 42 rfl rfl
set_option maxRecDepth 20000 in
theorem tw_1066 : Cond.code yX12_inLane cX12_inLane 4 (some .int) ∈ lw_g := wk_gq wk_m5 43 rfl rfl
set_option maxRecDepth 20000 in
theorem tw_1067 : Cond.methodLink RX12 229 yX12_widest ∈ lw_g := wk_gq wk_m5 44 rfl rfl
set_option maxRecDepth 20000 in
theorem tw_1069 : Cond.instanceMethod yX12_widest ∈ lw_g := wk_gq wk_m5 46 rfl rfl
set_option maxRecDepth 20000 in
theorem tw_1070 : Cond.code yX12_widest cX12_widest 5 (some .int) ∈ lw_g := wk_gq wk_m5 47 rfl rfl
set_option maxRecDepth 20000 in
theorem tw_1071 : Cond.methodLink RL 38 yX12_as ∈ lw_g := wk_gq wk_m5 48 rfl rfl
set_option maxRecDepth 20000 in
theorem tw_1072 : Cond.instanceMethod yX12_as ∈ lw_g := wk_gq wk_m5 49 rfl rfl
set_option maxRecDepth 20000 in
theorem tw_1073 : Cond.selects RX12 yX12_as yX12_as ∈ lw_g := wk_gq wk_m5 50 rfl rfl
set_option maxRecDepth 20000 in
theorem tw_1074 : Cond.code yX12_as cX12_as 3 (some .int) ∈ lw_g := wk_gq wk_m5 51 rfl rfl
set_option maxRecDepth 20000 in
theorem tw_1075 : Cond.constantLong RX12 235 4 ∈ lw_g := wk_gq wk_m5 52 rfl rfl
set_option maxRecDepth 20000 in
theorem tw_1076 : Cond.methodLink RL 34 yX12_tape ∈ lw_g := wk_gq wk_m5 53 rfl rfl
set_option maxRecDepth 20000 in
theorem tw_1077 : Cond.instanceMethod yX12_tape ∈ lw_g := wk_gq wk_m5 54 rfl rfl
set_option maxRecDepth 20000 in
theorem tw_1078 : Cond.selects RX12 yX12_tape yX12_tape ∈ lw_g := wk_gq wk_m5 55 rfl rfl
set_option maxRecDepth 20000 in
theorem tw_1079 : Cond.code yX12_tape cX12_tape 2 (some .int) ∈ lw_g := wk_gq wk_m5 56 rfl rfl
set_option maxRecDepth 20000 in
theorem tw_1080 : Cond.constantLong RX12 240 50 ∈ lw_g := wk_gq wk_m5 57 rfl rfl
set_option maxRecDepth 20000 in
theorem tw_1081 : Cond.methodLink RX12 242 yX12_tapeAt ∈ lw_g := wk_gq wk_m5 58 rfl rfl
set_option maxRecDepth 20000 in
theorem tw_1083 : Cond.instanceMethod yX12_tapeAt ∈ lw_g := wk_gq wk_m5 60 rfl rfl
set_option maxRecDepth 20000 in
theorem tw_1084 : Cond.code yX12_tapeAt cX12_tapeAt 6 (some .int) ∈ lw_g := wk_gq wk_m5 61 rfl rfl
set_option maxRecDepth 20000 in
theorem tw_1085 : Cond.methodLink RX12 237 yX12_signOf ∈ lw_g := wk_gq wk_m5 62 rfl rfl
set_option maxRecDepth 20000 in
theorem tw_1086 : Cond.static yX12_signOf ∈ lw_g := wk_gq wk_m5 63 rfl rfl
set_option maxRecDepth 20000 in
theorem tw_1087 : Cond.code yX12_signOf cX12_signOf 1 (some .int) ∈ lw_g := wk_gq wk_m5 64 rfl rfl
set_option maxRecDepth 20000 in
theorem tw_1088 : Cond.methodLink RL 72 yX12_put ∈ lw_g := wk_gq wk_m5 65 rfl rfl
set_option maxRecDepth 20000 in
theorem tw_1089 : Cond.instanceMethod yX12_put ∈ lw_g := wk_gq wk_m5 66 rfl rfl
set_option maxRecDepth 20000 in
theorem tw_1090 : Cond.selects RX12 yX12_put yX12_put ∈ lw_g := wk_gq wk_m5 67 rfl rfl
set_option maxRecDepth 20000 in
theorem tw_1091 : Cond.code yX12_put cX12_put 6 (some .int) ∈ lw_g := wk_gq wk_m5 68 rfl rfl
set_option maxRecDepth 20000 in
theorem tw_1092 : Cond.constantLong RX12 248 9 ∈ lw_g := wk_gq wk_m5 69 rfl rfl
set_option maxRecDepth 20000 in
theorem tw_1093 : Cond.methodLink RX12 250 yX12_isThere ∈ lw_g := wk_gq wk_m5 70 rfl rfl
set_option maxRecDepth 20000 in
theorem tw_1095 : Cond.instanceMethod yX12_isThere ∈ lw_g := wk_gq wk_m5 72 rfl rfl
set_option maxRecDepth 20000 in
theorem tw_1096 : Cond.code yX12_isThere cX12_isThere 3 (some .boolean) ∈ lw_g := wk_gq wk_m5 73 rfl rfl
set_option maxRecDepth 20000 in
theorem tw_1097 : Cond.methodLink RX12 245 yX12_placeOf ∈ lw_g := wk_gq wk_m5 74 rfl rfl
set_option maxRecDepth 20000 in
theorem tw_1099 : Cond.instanceMethod yX12_placeOf ∈ lw_g := wk_gq wk_m5 76 rfl rfl
set_option maxRecDepth 20000 in
theorem tw_1100 : Cond.code yX12_placeOf cX12_placeOf 3 (some .int) ∈ lw_g := wk_gq wk_m5 77 rfl rfl
set_option maxRecDepth 20000 in
theorem tw_1101 : Cond.methodLink RX12 253 yX12_moveUp ∈ lw_g := wk_gq wk_m5 78 rfl rfl
set_option maxRecDepth 20000 in
theorem tw_1103 : Cond.instanceMethod yX12_moveUp ∈ lw_g := wk_gq wk_m5 80 rfl rfl
set_option maxRecDepth 20000 in
theorem tw_1104 : Cond.code yX12_moveUp cX12_moveUp 3 none ∈ lw_g := wk_gq wk_m5 81 rfl rfl
set_option maxRecDepth 20000 in
theorem tw_1105 : Cond.methodLink RL 76 yX12_remove ∈ lw_g := wk_gq wk_m5 82 rfl rfl
set_option maxRecDepth 20000 in
theorem tw_1106 : Cond.instanceMethod yX12_remove ∈ lw_g := wk_gq wk_m5 83 rfl rfl
set_option maxRecDepth 20000 in
theorem tw_1107 : Cond.selects RX12 yX12_remove yX12_remove ∈ lw_g := wk_gq wk_m5 84 rfl rfl
set_option maxRecDepth 20000 in
theorem tw_1108 : Cond.code yX12_remove cX12_remove 4 (some .int) ∈ lw_g := wk_gq wk_m5 85 rfl rfl
set_option maxRecDepth 20000 in
theorem tw_1109 : Cond.methodLink RX12 256 yX12_moveDown ∈ lw_g := wk_gq wk_m5 86 rfl rfl
set_option maxRecDepth 20000 in
theorem tw_1111 : Cond.instanceMethod yX12_moveDown ∈ lw_g := wk_gq wk_m5 88 rfl rfl
set_option maxRecDepth 20000 in
theorem tw_1112 : Cond.code yX12_moveDown cX12_moveDown 3 none ∈ lw_g := wk_gq wk_m5 89 rfl rfl
set_option maxRecDepth 20000 in
theorem tw_1113 : Cond.methodLink RL 80 yX12_split ∈ lw_g := wk_gq wk_m5 90 rfl rfl
set_option maxRecDepth 20000 in
theorem tw_1114 : Cond.instanceMethod yX12_split ∈ lw_g := wk_gq wk_m5 91 rfl rfl
set_option maxRecDepth 20000 in
theorem tw_1115 : Cond.selects RX12 yX12_split yX12_split ∈ lw_g := wk_gq wk_m5 92 rfl rfl
set_option maxRecDepth 20000 in
theorem tw_1116 : Cond.code yX12_split cX12_split 4 (some .int) ∈ lw_g := wk_gq wk_m5 93 rfl rfl
set_option maxRecDepth 20000 in
theorem tw_1117 : Cond.methodLink RL 84 yX12_join ∈ lw_g := wk_gq wk_m5 94 rfl rfl
set_option maxRecDepth 20000 in
theorem tw_1118 : Cond.instanceMethod yX12_join ∈ lw_g := wk_gq wk_m5 95 rfl rfl
set_option maxRecDepth 20000 in
theorem tw_1119 : Cond.selects RX12 yX12_join yX12_join ∈ lw_g := wk_gq wk_m5 96 rfl rfl
set_option maxRecDepth 20000 in
theorem tw_1120 : Cond.code yX12_join cX12_join 2 (some .int) ∈ lw_g := wk_gq wk_m5 97 rfl rfl
set_option maxRecDepth 20000 in
theorem tw_1121 : Cond.methodLink RL 88 yX12_cost ∈ lw_g := wk_gq wk_m5 98 rfl rfl
set_option maxRecDepth 20000 in
theorem tw_1122 : Cond.instanceMethod yX12_cost ∈ lw_g := wk_gq wk_m5 99 rfl rfl
set_option maxRecDepth 20000 in
theorem tw_1123 : Cond.selects RX12 yX12_cost yX12_cost ∈ lw_g := wk_gq wk_m5 100 rfl rfl
set_option maxRecDepth 20000 in
theorem tw_1124 : Cond.code yX12_cost cX12_cost 1 (some .int) ∈ lw_g := wk_gq wk_m5 101 rfl rfl
set_option maxRecDepth 20000 in
theorem tw_1125 : Cond.methodLink RX12 259 yX12_costOf ∈ lw_g := wk_gq wk_m5 102 rfl rfl
set_option maxRecDepth 20000 in
theorem tw_1127 : Cond.instanceMethod yX12_costOf ∈ lw_g := wk_gq wk_m5 104 rfl rfl
set_option maxRecDepth 20000 in
theorem tw_1128 : Cond.code yX12_costOf cX12_costOf 3 (some .int) ∈ lw_g := wk_gq wk_m5 105 rfl rfl
set_option maxRecDepth 20000 in
theorem tw_1129 : Cond.methodLink RL 92 yX12_best ∈ lw_g := wk_gq wk_m5 106 rfl rfl
set_option maxRecDepth 20000 in
theorem tw_1130 : Cond.instanceMethod yX12_best ∈ lw_g := wk_gq wk_m5 107 rfl rfl
set_option maxRecDepth 20000 in
theorem tw_1131 : Cond.selects RX12 yX12_best yX12_best ∈ lw_g := wk_gq wk_m5 108 rfl rfl
set_option maxRecDepth 20000 in
theorem tw_1132 : Cond.code yX12_best cX12_best 3 (some .int) ∈ lw_g := wk_gq wk_m5 109 rfl rfl
set_option maxRecDepth 20000 in
theorem tw_1133 : Cond.constantLong RX12 269 18 ∈ lw_g := wk_gq wk_m5 110 rfl rfl
set_option maxRecDepth 20000 in
theorem tw_1134 : Cond.constantLong RX12 271 15 ∈ lw_g := wk_gq wk_m5 111 rfl rfl
set_option maxRecDepth 20000 in
theorem tw_1135 : Cond.methodLink RX12 276 yX12_bestOf ∈ lw_g := wk_gq wk_m5 112 rfl rfl
set_option maxRecDepth 20000 in
theorem tw_1137 : Cond.instanceMethod yX12_bestOf ∈ lw_g := wk_gq wk_m5 114 rfl rfl
set_option maxRecDepth 20000 in
theorem tw_1138 : Cond.code yX12_bestOf cX12_bestOf 9 (some .int) ∈ lw_g := wk_gq wk_m5 115 rfl rfl
set_option maxRecDepth 20000 in
theorem tw_1139 : Cond.methodLink RX12 262 yX12_copy ∈ lw_g := wk_gq wk_m5 116 rfl rfl
set_option maxRecDepth 20000 in
theorem tw_1140 : Cond.static yX12_copy ∈ lw_g := wk_gq wk_m5 117 rfl rfl
set_option maxRecDepth 20000 in
theorem tw_1141 : Cond.code yX12_copy cX12_copy 3 none ∈ lw_g := wk_gq wk_m5 118 rfl rfl
set_option maxRecDepth 20000 in
theorem tw_1142 : Cond.methodLink RX12 266 yX12_linksOf ∈ lw_g := wk_gq wk_m5 119 rfl rfl
set_option maxRecDepth 20000 in
theorem tw_1144 : Cond.instanceMethod yX12_linksOf ∈ lw_g := wk_gq wk_m5 121 rfl rfl
set_option maxRecDepth 20000 in
theorem tw_1145 : Cond.code yX12_linksOf cX12_linksOf 3 (some .int) ∈ lw_g := wk_gq wk_m5 122 rfl rfl
set_option maxRecDepth 20000 in
theorem tw_1146 : Cond.methodLink RL 96 yX12_change ∈ lw_g := wk_gq wk_m5 123 rfl rfl
set_option maxRecDepth 20000 in
theorem tw_1147 : Cond.instanceMethod yX12_change ∈ lw_g := wk_gq wk_m5 124 rfl rfl
set_option maxRecDepth 20000 in
theorem tw_1148 : Cond.selects RX12 yX12_change yX12_change ∈ lw_g := wk_gq wk_m5 125 rfl rfl
set_option maxRecDepth 20000 in
theorem tw_1149 : Cond.code yX12_change cX12_change 2 (some .int) ∈ lw_g := wk_gq wk_m5 126 rfl rfl
set_option maxRecDepth 20000 in
theorem tw_1150 : Cond.methodLink RX12 279 yX12_changeOf ∈ lw_g := wk_gq wk_m5 127 rfl rfl
set_option maxRecDepth 20000 in
theorem tw_1152 : Cond.instanceMethod yX12_changeOf ∈ lw_g := wk_gq wk_m5 129 rfl rfl
set_option maxRecDepth 20000 in
theorem tw_1153 : Cond.code yX12_changeOf cX12_changeOf 9 (some .int) ∈ lw_g := wk_gq wk_m5 130 rfl rfl
set_option maxRecDepth 20000 in
theorem tw_1154 : Cond.methodLink RL 100 yX12_see ∈ lw_g := wk_gq wk_m5 131 rfl rfl
set_option maxRecDepth 20000 in
theorem tw_1155 : Cond.instanceMethod yX12_see ∈ lw_g := wk_gq wk_m5 132 rfl rfl
set_option maxRecDepth 20000 in
theorem tw_1156 : Cond.selects RX12 yX12_see yX12_see ∈ lw_g := wk_gq wk_m5 133 rfl rfl
set_option maxRecDepth 20000 in
theorem tw_1157 : Cond.code yX12_see cX12_see 4 (some .int) ∈ lw_g := wk_gq wk_m5 134 rfl rfl
set_option maxRecDepth 20000 in
theorem tw_1158 : Cond.methodLink RL 104 yX12_forget ∈ lw_g := wk_gq wk_m5 135 rfl rfl
set_option maxRecDepth 20000 in
theorem tw_1159 : Cond.instanceMethod yX12_forget ∈ lw_g := wk_gq wk_m5 136 rfl rfl
set_option maxRecDepth 20000 in
theorem tw_1160 : Cond.selects RX12 yX12_forget yX12_forget ∈ lw_g := wk_gq wk_m5 137 rfl rfl
set_option maxRecDepth 20000 in
theorem tw_1161 : Cond.code yX12_forget cX12_forget 2 (some .int) ∈ lw_g := wk_gq wk_m5 138 rfl rfl
set_option maxRecDepth 20000 in
theorem tw_1162 : Cond.methodLink RL 108 yX12_rounds ∈ lw_g := wk_gq wk_m5 139 rfl rfl
set_option maxRecDepth 20000 in
theorem tw_1163 : Cond.instanceMethod yX12_rounds ∈ lw_g := wk_gq wk_m5 140 rfl rfl
set_option maxRecDepth 20000 in
theorem tw_1164 : Cond.selects RX12 yX12_rounds yX12_rounds ∈ lw_g := wk_gq wk_m5 141 rfl rfl
set_option maxRecDepth 20000 in
theorem tw_1165 : Cond.code yX12_rounds cX12_rounds 7 (some .int) ∈ lw_g := wk_gq wk_m5 142 rfl rfl
set_option maxRecDepth 20000 in
theorem tw_1166 : Cond.constantLong RX12 299 60 ∈ lw_g := wk_gq wk_m5 143 rfl rfl
set_option maxRecDepth 20000 in
theorem tw_1167 : Cond.methodLink RX12 301 yX12_draw ∈ lw_g := wk_gq wk_m5 144 rfl rfl
set_option maxRecDepth 20000 in
theorem tw_1169 : Cond.instanceMethod yX12_draw ∈ lw_g := wk_gq wk_m5 146 rfl rfl
set_option maxRecDepth 20000 in
theorem tw_1170 : Cond.code yX12_draw cX12_draw 2 (some .int) ∈ lw_g := wk_gq wk_m5 147 rfl rfl
set_option maxRecDepth 20000 in
theorem tw_1171 : Cond.constantLong RX12 289 1103515245 ∈ lw_g := wk_gq wk_m5 148 rfl rfl
set_option maxRecDepth 20000 in
theorem tw_1172 : Cond.constantLong RX12 294 12345 ∈ lw_g := wk_gq wk_m5 149 rfl rfl
set_option maxRecDepth 20000 in
theorem tw_1173 : Cond.constantLong RX12 296 2147483647 ∈ lw_g := wk_gq wk_m5 150 rfl rfl
set_option maxRecDepth 20000 in
theorem tw_1174 : Cond.constant RX12 298 65536 ∈ lw_g := wk_gq wk_m5 151 rfl rfl
set_option maxRecDepth 20000 in
theorem tw_1175 : Cond.methodLink RL 112 yX12_image ∈ lw_g := wk_gq wk_m5 152 rfl rfl
set_option maxRecDepth 20000 in
theorem tw_1176 : Cond.instanceMethod yX12_image ∈ lw_g := wk_gq wk_m5 153 rfl rfl
set_option maxRecDepth 20000 in
theorem tw_1177 : Cond.selects RX12 yX12_image yX12_image ∈ lw_g := wk_gq wk_m5 154 rfl rfl
set_option maxRecDepth 20000 in
theorem tw_1178 : Cond.code yX12_image cX12_image 1 (some .int) ∈ lw_g := wk_gq wk_m5 155 rfl rfl
set_option maxRecDepth 20000 in
theorem tw_1179 : Cond.methodLink RL 116 yX12_restore ∈ lw_g := wk_gq wk_m5 156 rfl rfl
set_option maxRecDepth 20000 in
theorem tw_1180 : Cond.instanceMethod yX12_restore ∈ lw_g := wk_gq wk_m5 157 rfl rfl
set_option maxRecDepth 20000 in
theorem tw_1181 : Cond.selects RX12 yX12_restore yX12_restore ∈ lw_g := wk_gq wk_m5 158 rfl rfl
set_option maxRecDepth 20000 in
theorem tw_1182 : Cond.code yX12_restore cX12_restore 1 (some .int) ∈ lw_g := wk_gq wk_m5 159 rfl rfl
set_option maxRecDepth 20000 in
theorem tw_1183 : Cond.methodLink RL 120 yX12_count ∈ lw_g := wk_gq wk_m5 160 rfl rfl
set_option maxRecDepth 20000 in
theorem tw_1184 : Cond.instanceMethod yX12_count ∈ lw_g := wk_gq wk_m5 161 rfl rfl
set_option maxRecDepth 20000 in
theorem tw_1185 : Cond.selects RX12 yX12_count yX12_count ∈ lw_g := wk_gq wk_m5 162 rfl rfl
set_option maxRecDepth 20000 in
theorem tw_1186 : Cond.code yX12_count cX12_count 2 (some .int) ∈ lw_g := wk_gq wk_m5 163 rfl rfl
set_option maxRecDepth 20000 in
theorem tw_1187 : Cond.methodLink RX12 326 yX12_countOf ∈ lw_g := wk_gq wk_m5 164 rfl rfl
set_option maxRecDepth 20000 in
theorem tw_1189 : Cond.instanceMethod yX12_countOf ∈ lw_g := wk_gq wk_m5 166 rfl rfl
set_option maxRecDepth 20000 in
theorem tw_1190 : Cond.code yX12_countOf cX12_countOf 2 (some .int) ∈ lw_g := wk_gq wk_m5 167 rfl rfl
set_option maxRecDepth 20000 in
theorem tw_1191 : Cond.methodLink RX12 322 yX12_sumOf ∈ lw_g := wk_gq wk_m5 168 rfl rfl
set_option maxRecDepth 20000 in
theorem tw_1193 : Cond.instanceMethod yX12_sumOf ∈ lw_g := wk_gq wk_m5 170 rfl rfl
set_option maxRecDepth 20000 in
theorem tw_1194 : Cond.code yX12_sumOf cX12_sumOf 4 (some .int) ∈ lw_g := wk_gq wk_m5 171 rfl rfl
set_option maxRecDepth 20000 in
theorem tw_1195 : Cond.methodLink RL 125 yX12_digest ∈ lw_g := wk_gq wk_m5 172 rfl rfl
set_option maxRecDepth 20000 in
theorem tw_1196 : Cond.instanceMethod yX12_digest ∈ lw_g := wk_gq wk_m5 173 rfl rfl
set_option maxRecDepth 20000 in
theorem tw_1197 : Cond.selects RX12 yX12_digest yX12_digest ∈ lw_g := wk_gq wk_m5 174 rfl rfl
set_option maxRecDepth 20000 in
theorem tw_1198 : Cond.code yX12_digest cX12_digest 2 (some .long) ∈ lw_g := wk_gq wk_m5 175 rfl rfl
set_option maxRecDepth 20000 in
theorem tw_1199 : Cond.constantLong RX12 339 1151 ∈ lw_g := wk_gq wk_m5 176 rfl rfl
set_option maxRecDepth 20000 in
theorem tw_1200 : Cond.methodLink RX12 341 yX12_sayKey ∈ lw_g := wk_gq wk_m5 177 rfl rfl
set_option maxRecDepth 20000 in
theorem tw_1202 : Cond.instanceMethod yX12_sayKey ∈ lw_g := wk_gq wk_m5 179 rfl rfl
set_option maxRecDepth 20000 in
theorem tw_1203 : Cond.code yX12_sayKey cX12_sayKey 3 none ∈ lw_g := wk_gq wk_m5 180 rfl rfl
set_option maxRecDepth 20000 in
theorem tw_1204 : Cond.methodLink RX12 335 yX12_say ∈ lw_g := wk_gq wk_m5 181 rfl rfl
set_option maxRecDepth 20000 in
theorem tw_1206 : Cond.instanceMethod yX12_say ∈ lw_g := wk_gq wk_m5 183 rfl rfl
set_option maxRecDepth 20000 in
theorem tw_1207 : Cond.code yX12_say cX12_say 3 none ∈ lw_g := wk_gq wk_m5 184 rfl rfl
set_option maxRecDepth 20000 in
theorem tw_1208 : Cond.constantLong RX12 329 31 ∈ lw_g := wk_gq wk_m5 185 rfl rfl
set_option maxRecDepth 20000 in
theorem tw_1209 : Cond.methodLink RX12 344 yX12_sayRow ∈ lw_g := wk_gq wk_m5 186 rfl rfl
set_option maxRecDepth 20000 in
theorem tw_1211 : Cond.instanceMethod yX12_sayRow ∈ lw_g := wk_gq wk_m5 188 rfl rfl
set_option maxRecDepth 20000 in
theorem tw_1212 : Cond.code yX12_sayRow cX12_sayRow 3 none ∈ lw_g := wk_gq wk_m5 189 rfl rfl
