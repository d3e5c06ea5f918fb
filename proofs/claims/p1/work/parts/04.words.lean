set_option maxRecDepth 20000 in
theorem inX0 : ∀ w ∈ u_ws RX0 TX0 0, w ∈ lw_g := fun _ h => absurd h List.not_mem_nil
set_option maxRecDepth 20000 in
theorem inX1 : ∀ w ∈ u_ws RX1 TX1 0, w ∈ lw_g := fun _ h => absurd h List.not_mem_nil
set_option maxRecDepth 20000 in
theorem inX2 : ∀ w ∈ u_ws RX2 TX2 6, w ∈ lw_g := List.forall_mem_cons.mpr ⟨wk_g 182 rfl rfl, List.forall_mem_cons.mpr ⟨wk_g 184 rfl rfl, List.forall_mem_cons.mpr ⟨wk_g 186 rfl rfl, List.forall_mem_cons.mpr ⟨wk_g 188 rfl rfl, List.forall_mem_cons.mpr ⟨wk_g 190 rfl rfl, List.forall_mem_cons.mpr ⟨wk_g 192 rfl rfl, fun _ h => absurd h List.not_mem_nil⟩⟩⟩⟩⟩⟩
set_option maxRecDepth 20000 in
theorem inX3 : ∀ w ∈ u_ws RX3 TX3 0, w ∈ lw_g := fun _ h => absurd h List.not_mem_nil
set_option maxRecDepth 20000 in
theorem inX4 : ∀ w ∈ u_ws RX4 TX4 4, w ∈ lw_g := List.forall_mem_cons.mpr ⟨wk_g 161 rfl rfl, List.forall_mem_cons.mpr ⟨wk_g 163 rfl rfl, List.forall_mem_cons.mpr ⟨wk_g 165 rfl rfl, List.forall_mem_cons.mpr ⟨wk_g 167 rfl rfl, fun _ h => absurd h List.not_mem_nil⟩⟩⟩⟩
set_option maxRecDepth 20000 in
theorem inX5 : ∀ w ∈ u_ws RX5 TX5 0, w ∈ lw_g := fun _ h => absurd h List.not_mem_nil
set_option maxRecDepth 20000 in
theorem inX6 : ∀ w ∈ u_ws RX6 TX6 2, w ∈ lw_g := List.forall_mem_cons.mpr ⟨wk_g 96 rfl rfl, List.forall_mem_cons.mpr ⟨wk_g 98 rfl rfl, fun _ h => absurd h List.not_mem_nil⟩⟩
set_option maxRecDepth 20000 in
theorem inX7 : ∀ w ∈ u_ws RX7 TX7 0, w ∈ lw_g := fun _ h => absurd h List.not_mem_nil
set_option maxRecDepth 20000 in
theorem inX8 : ∀ w ∈ u_ws RX8 TX8 5, w ∈ lw_g := List.forall_mem_cons.mpr ⟨wk_g 135 rfl rfl, List.forall_mem_cons.mpr ⟨wk_g 137 rfl rfl, List.forall_mem_cons.mpr ⟨wk_g 139 rfl rfl, List.forall_mem_cons.mpr ⟨wk_g 141 rfl rfl, List.forall_mem_cons.mpr ⟨wk_g 143 rfl rfl, fun _ h => absurd h List.not_mem_nil⟩⟩⟩⟩⟩
set_option maxRecDepth 20000 in
theorem inX9 : ∀ w ∈ u_ws RX9 TX9 8, w ∈ lw_g := List.forall_mem_cons.mpr ⟨wk_g 235 rfl rfl, List.forall_mem_cons.mpr ⟨wk_g 237 rfl rfl, List.forall_mem_cons.mpr ⟨wk_g 239 rfl rfl, List.forall_mem_cons.mpr ⟨wk_g 241 rfl rfl, List.forall_mem_cons.mpr ⟨wk_g 243 rfl rfl, List.forall_mem_cons.mpr ⟨wk_g 245 rfl rfl, List.forall_mem_cons.mpr ⟨wk_g 247 rfl rfl, List.forall_mem_cons.mpr ⟨wk_g 249 rfl rfl, fun _ h => absurd h List.not_mem_nil⟩⟩⟩⟩⟩⟩⟩⟩
set_option maxRecDepth 20000 in
theorem inX10 : ∀ w ∈ u_ws RX10 TX10 3, w ∈ lw_g := List.forall_mem_cons.mpr ⟨wk_g 208 rfl rfl, List.forall_mem_cons.mpr ⟨wk_g 210 rfl rfl, List.forall_mem_cons.mpr ⟨wk_g 212 rfl rfl, fun _ h => absurd h List.not_mem_nil⟩⟩⟩
set_option maxRecDepth 20000 in
theorem inX11 : ∀ w ∈ u_ws RX11 TX11 10, w ∈ lw_g := List.forall_mem_cons.mpr ⟨wk_g 262 rfl rfl, List.forall_mem_cons.mpr ⟨wk_g 264 rfl rfl, List.forall_mem_cons.mpr ⟨wk_g 266 rfl rfl, List.forall_mem_cons.mpr ⟨wk_g 268 rfl rfl, List.forall_mem_cons.mpr ⟨wk_g 270 rfl rfl, List.forall_mem_cons.mpr ⟨wk_g 272 rfl rfl, List.forall_mem_cons.mpr ⟨wk_g 274 rfl rfl, List.forall_mem_cons.mpr ⟨wk_g 276 rfl rfl, List.forall_mem_cons.mpr ⟨wk_g 278 rfl rfl, List.forall_mem_cons.mpr ⟨wk_g 280 rfl rfl, fun _ h => absurd h List.not_mem_nil⟩⟩⟩⟩⟩⟩⟩⟩⟩⟩
set_option maxRecDepth 20000 in
theorem inX12 : ∀ w ∈ u_ws RX12 TX12 44, w ∈ lw_g := List.forall_mem_cons.mpr ⟨wk_g 807 rfl rfl, List.forall_mem_cons.mpr ⟨wk_g 809 rfl rfl, List.forall_mem_cons.mpr ⟨wk_g 811 rfl rfl, List.forall_mem_cons.mpr ⟨wk_g 813 rfl rfl, List.forall_mem_cons.mpr ⟨wk_g 815 rfl rfl, List.forall_mem_cons.mpr ⟨wk_g 817 rfl rfl, List.forall_mem_cons.mpr ⟨wk_g 819 rfl rfl, List.forall_mem_cons.mpr ⟨wk_g 821 rfl rfl, List.forall_mem_cons.mpr ⟨wk_g 823 rfl rfl, List.forall_mem_cons.mpr ⟨wk_g 825 rfl rfl, List.forall_mem_cons.mpr ⟨wk_g 827 rfl rfl, List.forall_mem_cons.mpr ⟨wk_g 829 rfl rfl, List.forall_mem_cons.mpr ⟨wk_g 831 rfl rfl, List.forall_mem_cons.mpr ⟨wk_g 833 rfl rfl, List.forall_mem_cons.mpr ⟨wk_g 835 rfl rfl, List.forall_mem_cons.mpr ⟨wk_g 837 rfl rfl, List.forall_mem_cons.mpr ⟨wk_g 839 rfl rfl, List.forall_mem_cons.mpr ⟨wk_g 841 rfl rfl, List.forall_mem_cons.mpr ⟨wk_g 843 rfl rfl, List.forall_mem_cons.mpr ⟨wk_g 845 rfl rfl, List.forall_mem_cons.mpr ⟨wk_g 847 rfl rfl, List.forall_mem_cons.mpr ⟨wk_g 849 rfl rfl, List.forall_mem_cons.mpr ⟨wk_g 851 rfl rfl, List.forall_mem_cons.mpr ⟨wk_g 853 rfl rfl, List.forall_mem_cons.mpr ⟨wk_g 855 rfl rfl, List.forall_mem_cons.mpr ⟨wk_g 857 rfl rfl, List.forall_mem_cons.mpr ⟨wk_g 859 rfl rfl, List.forall_mem_cons.mpr ⟨wk_g 861 rfl rfl, List.forall_mem_cons.mpr ⟨wk_g 863 rfl rfl, List.forall_mem_cons.mpr ⟨wk_g 865 rfl rfl, List.forall_mem_cons.mpr ⟨wk_g 867 rfl rfl, List.forall_mem_cons.mpr ⟨wk_g 869 rfl rfl, List.forall_mem_cons.mpr ⟨wk_g 871 rfl rfl, List.forall_mem_cons.mpr ⟨wk_g 873 rfl rfl, List.forall_mem_cons.mpr ⟨wk_g 875 rfl rfl, List.forall_mem_cons.mpr ⟨wk_g 877 rfl rfl, List.forall_mem_cons.mpr ⟨wk_g 879 rfl rfl, List.forall_mem_cons.mpr ⟨wk_g 881 rfl rfl, List.forall_mem_cons.mpr ⟨wk_g 883 rfl rfl, List.forall_mem_cons.mpr ⟨wk_g 885 rfl rfl, List.forall_mem_cons.mpr ⟨wk_g 887 rfl rfl, List.forall_mem_cons.mpr ⟨wk_g 889 rfl rfl, List.forall_mem_cons.mpr ⟨wk_g 891 rfl rfl, List.forall_mem_cons.mpr ⟨wk_g 893 rfl rfl, fun _ h => absurd h List.not_mem_nil⟩⟩⟩⟩⟩⟩⟩⟩⟩⟩⟩⟩⟩⟩⟩⟩⟩⟩⟩⟩⟩⟩⟩⟩⟩⟩⟩⟩⟩⟩⟩⟩⟩⟩⟩⟩⟩⟩⟩⟩⟩⟩⟩⟩
set_option maxRecDepth 20000 in
theorem tw_0 : Cond.selects RX6 yX6_signsOfKey yX6_signsOfKey ∈ lw_g := wk_g 0 rfl rfl
set_option maxRecDepth 20000 in
theorem tw_7 : Cond.selects RX11 yX11_namesNoKey yX11_namesNoKey ∈ lw_g := wk_g 7 rfl rfl
set_option maxRecDepth 20000 in
theorem tw_22 : Cond.selects RX12 yX12_faultOf yX12_faultOf ∈ lw_g := wk_g 22 rfl rfl
set_option maxRecDepth 20000 in
theorem tw_25 : Cond.selects RX12 yX12_wide yX12_wide ∈ lw_g := wk_g 25 rfl rfl
set_option maxRecDepth 20000 in
theorem tw_29 : Cond.selects RX12 yX12_lacks yX12_lacks ∈ lw_g := wk_g 29 rfl rfl
set_option maxRecDepth 20000 in
theorem tw_31 : Cond.selects RX12 yX12_lanes yX12_lanes ∈ lw_g := wk_g 31 rfl rfl
set_option maxRecDepth 20000 in
theorem tw_35 : Cond.selects RX12 yX12_isNumber yX12_isNumber ∈ lw_g := wk_g 35 rfl rfl
set_option maxRecDepth 20000 in
theorem tw_50 : Cond.selects RX12 yX12_placeOf yX12_placeOf ∈ lw_g := wk_g 50 rfl rfl
set_option maxRecDepth 20000 in
theorem tw_55 : Cond.selects RX12 yX12_linksOf yX12_linksOf ∈ lw_g := wk_g 55 rfl rfl
set_option maxRecDepth 20000 in
theorem tw_58 : Cond.selects RX12 yX12_countOf yX12_countOf ∈ lw_g := wk_g 58 rfl rfl
set_option maxRecDepth 20000 in
theorem tw_59 : Cond.selects RX12 yX12_sumOf yX12_sumOf ∈ lw_g := wk_g 59 rfl rfl
set_option maxRecDepth 20000 in
theorem tw_61 : Cond.selects RX12 yX12_say yX12_say ∈ lw_g := wk_g 61 rfl rfl
set_option maxRecDepth 20000 in
theorem tw_64 : Cond.initialized RX11 ∈ lw_g := wk_g 64 rfl rfl
set_option maxRecDepth 20000 in
theorem tw_65 : Cond.initialized RX6 ∈ lw_g := wk_g 65 rfl rfl
set_option maxRecDepth 20000 in
theorem tw_66 : Cond.initialized RX2 ∈ lw_g := wk_g 66 rfl rfl
set_option maxRecDepth 20000 in
theorem tw_67 : Cond.initialized RX8 ∈ lw_g := wk_g 67 rfl rfl
set_option maxRecDepth 20000 in
theorem tw_68 : Cond.initialized RX4 ∈ lw_g := wk_g 68 rfl rfl
set_option maxRecDepth 20000 in
theorem tw_69 : Cond.initialized RX10 ∈ lw_g := wk_g 69 rfl rfl
set_option maxRecDepth 20000 in
theorem tw_70 : Cond.initialized RX9 ∈ lw_g := wk_g 70 rfl rfl
set_option maxRecDepth 20000 in
theorem tw_71 : Cond.initialized RX12 ∈ lw_g := wk_g 71 rfl rfl
set_option maxRecDepth 20000 in
theorem tw_78 : Cond.classLink RL 7 RX11 ∈ lw_g := wk_g 78 rfl rfl
set_option maxRecDepth 20000 in
theorem tw_79 : Cond.instantiable RX11 10 ∈ lw_g := wk_g 79 rfl rfl
set_option maxRecDepth 20000 in
theorem tw_80 : Cond.methodLink RL 9 yX11_init ∈ lw_g := wk_g 80 rfl rfl
set_option maxRecDepth 20000 in
theorem tw_81 : Cond.instanceMethod yX11_init ∈ lw_g := wk_g 81 rfl rfl
set_option maxRecDepth 20000 in
theorem tw_82 : Cond.code yX11_init cX11_init 1 none ∈ lw_g := wk_g 82 rfl rfl
set_option maxRecDepth 20000 in
theorem tw_83 : Cond.methodLink RX11 1 objectInit ∈ lw_g := wk_g 83 rfl rfl
set_option maxRecDepth 20000 in
theorem tw_84 : Cond.instanceMethod objectInit ∈ lw_g := wk_g 84 rfl rfl
set_option maxRecDepth 20000 in
theorem tw_85 : Cond.code objectInit ⟨#[0xb1]⟩ 1 none ∈ lw_g := wk_g 85 rfl rfl
set_option maxRecDepth 20000 in
theorem tw_86 : Cond.classLink RX11 7 RX6 ∈ lw_g := wk_g 86 rfl rfl
set_option maxRecDepth 20000 in
theorem tw_87 : Cond.instantiable RX6 2 ∈ lw_g := wk_g 87 rfl rfl
set_option maxRecDepth 20000 in
theorem tw_88 : Cond.methodLink RX11 9 yX6_init ∈ lw_g := wk_g 88 rfl rfl
set_option maxRecDepth 20000 in
theorem tw_89 : Cond.instanceMethod yX6_init ∈ lw_g := wk_g 89 rfl rfl
set_option maxRecDepth 20000 in
theorem tw_90 : Cond.code yX6_init cX6_init 1 none ∈ lw_g := wk_g 90 rfl rfl
set_option maxRecDepth 20000 in
theorem tw_91 : Cond.methodLink RX6 3 objectInit ∈ lw_g := wk_g 91 rfl rfl
set_option maxRecDepth 20000 in
theorem tw_92 : Cond.fieldLink RX6 9 "LaneRow$Text" "codes" "[I" ∈ lw_g := wk_g 92 rfl rfl
set_option maxRecDepth 20000 in
theorem tw_93 : Cond.fieldLink RX11 61 "LaneRow$Text" "codes" "[I" ∈ lw_g := wk_g 93 rfl rfl
set_option maxRecDepth 20000 in
theorem tw_94 : Cond.fieldLink RX6 15 "LaneRow$Text" "size" "I" ∈ lw_g := wk_g 94 rfl rfl
set_option maxRecDepth 20000 in
theorem tw_95 : Cond.fieldLink RX11 43 "LaneRow$Text" "size" "I" ∈ lw_g := wk_g 95 rfl rfl
set_option maxRecDepth 20000 in
theorem tw_101 : Cond.arrayClass .int ∈ lw_g := wk_g 101 rfl rfl
set_option maxRecDepth 20000 in
theorem tw_102 : Cond.classLink RX11 19 RX2 ∈ lw_g := wk_g 102 rfl rfl
set_option maxRecDepth 20000 in
theorem tw_103 : Cond.instantiable RX2 6 ∈ lw_g := wk_g 103 rfl rfl
set_option maxRecDepth 20000 in
theorem tw_104 : Cond.methodLink RX11 21 yX2_init ∈ lw_g := wk_g 104 rfl rfl
set_option maxRecDepth 20000 in
theorem tw_105 : Cond.instanceMethod yX2_init ∈ lw_g := wk_g 105 rfl rfl
set_option maxRecDepth 20000 in
theorem tw_106 : Cond.code yX2_init cX2_init 1 none ∈ lw_g := wk_g 106 rfl rfl
set_option maxRecDepth 20000 in
theorem tw_107 : Cond.methodLink RX2 1 objectInit ∈ lw_g := wk_g 107 rfl rfl
set_option maxRecDepth 20000 in
theorem tw_108 : Cond.classLink RX2 7 RX8 ∈ lw_g := wk_g 108 rfl rfl
set_option maxRecDepth 20000 in
theorem tw_109 : Cond.instantiable RX8 5 ∈ lw_g := wk_g 109 rfl rfl
set_option maxRecDepth 20000 in
theorem tw_110 : Cond.methodLink RX2 9 yX8_init ∈ lw_g := wk_g 110 rfl rfl
set_option maxRecDepth 20000 in
theorem tw_111 : Cond.instanceMethod yX8_init ∈ lw_g := wk_g 111 rfl rfl
set_option maxRecDepth 20000 in
theorem tw_112 : Cond.code yX8_init cX8_init 1 none ∈ lw_g := wk_g 112 rfl rfl
set_option maxRecDepth 20000 in
theorem tw_113 : Cond.methodLink RX8 3 objectInit ∈ lw_g := wk_g 113 rfl rfl
set_option maxRecDepth 20000 in
theorem tw_114 : Cond.fieldLink RX8 9 "LaneRow$Towers" "keys" "[I" ∈ lw_g := wk_g 114 rfl rfl
set_option maxRecDepth 20000 in
theorem tw_119 : Cond.fieldLink RX8 15 "LaneRow$Towers" "values" "[I" ∈ lw_g := wk_g 119 rfl rfl
set_option maxRecDepth 20000 in
theorem tw_122 : Cond.fieldLink RX8 18 "LaneRow$Towers" "heights" "[I" ∈ lw_g := wk_g 122 rfl rfl
set_option maxRecDepth 20000 in
theorem tw_125 : Cond.fieldLink RX11 111 "LaneRow$Towers" "heights" "[I" ∈ lw_g := wk_g 125 rfl rfl
set_option maxRecDepth 20000 in
theorem tw_126 : Cond.fieldLink RX8 21 "LaneRow$Towers" "heats" "[I" ∈ lw_g := wk_g 126 rfl rfl
set_option maxRecDepth 20000 in
theorem tw_129 : Cond.fieldLink RX8 24 "LaneRow$Towers" "size" "I" ∈ lw_g := wk_g 129 rfl rfl
set_option maxRecDepth 20000 in
theorem tw_134 : Cond.fieldLink RX11 91 "LaneRow$Towers" "size" "I" ∈ lw_g := wk_g 134 rfl rfl
set_option maxRecDepth 20000 in
theorem tw_146 : Cond.classLink RX2 19 RX4 ∈ lw_g := wk_g 146 rfl rfl
set_option maxRecDepth 20000 in
theorem tw_147 : Cond.instantiable RX4 4 ∈ lw_g := wk_g 147 rfl rfl
set_option maxRecDepth 20000 in
theorem tw_148 : Cond.methodLink RX2 21 yX4_init ∈ lw_g := wk_g 148 rfl rfl
set_option maxRecDepth 20000 in
theorem tw_149 : Cond.instanceMethod yX4_init ∈ lw_g := wk_g 149 rfl rfl
set_option maxRecDepth 20000 in
theorem tw_150 : Cond.code yX4_init cX4_init 1 none ∈ lw_g := wk_g 150 rfl rfl
set_option maxRecDepth 20000 in
theorem tw_151 : Cond.methodLink RX4 3 objectInit ∈ lw_g := wk_g 151 rfl rfl
set_option maxRecDepth 20000 in
theorem tw_152 : Cond.fieldLink RX4 9 "LaneRow$Seen" "of" "[I" ∈ lw_g := wk_g 152 rfl rfl
set_option maxRecDepth 20000 in
theorem tw_154 : Cond.fieldLink RX4 15 "LaneRow$Seen" "sought" "[I" ∈ lw_g := wk_g 154 rfl rfl
set_option maxRecDepth 20000 in
theorem tw_156 : Cond.fieldLink RX4 18 "LaneRow$Seen" "looks" "[I" ∈ lw_g := wk_g 156 rfl rfl
set_option maxRecDepth 20000 in
theorem tw_158 : Cond.fieldLink RX4 21 "LaneRow$Seen" "size" "I" ∈ lw_g := wk_g 158 rfl rfl
set_option maxRecDepth 20000 in
theorem tw_160 : Cond.fieldLink RX11 231 "LaneRow$Seen" "size" "I" ∈ lw_g := wk_g 160 rfl rfl
set_option maxRecDepth 20000 in
theorem tw_170 : Cond.fieldLink RX2 10 "LaneRow$Kept" "first" "LLaneRow$Towers;" ∈ lw_g := wk_g 170 rfl rfl
set_option maxRecDepth 20000 in
theorem tw_171 : Cond.fieldLink RX11 77 "LaneRow$Kept" "first" "LLaneRow$Towers;" ∈ lw_g := wk_g 171 rfl rfl
set_option maxRecDepth 20000 in
theorem tw_172 : Cond.fieldLink RX2 16 "LaneRow$Kept" "second" "LLaneRow$Towers;" ∈ lw_g := wk_g 172 rfl rfl
set_option maxRecDepth 20000 in
theorem tw_173 : Cond.fieldLink RX11 192 "LaneRow$Kept" "second" "LLaneRow$Towers;" ∈ lw_g := wk_g 173 rfl rfl
set_option maxRecDepth 20000 in
theorem tw_174 : Cond.fieldLink RX2 22 "LaneRow$Kept" "seen" "LLaneRow$Seen;" ∈ lw_g := wk_g 174 rfl rfl
set_option maxRecDepth 20000 in
theorem tw_175 : Cond.fieldLink RX11 123 "LaneRow$Kept" "seen" "LLaneRow$Seen;" ∈ lw_g := wk_g 175 rfl rfl
set_option maxRecDepth 20000 in
theorem tw_177 : Cond.fieldLink RX11 169 "LaneRow$Kept" "asked" "I" ∈ lw_g := wk_g 177 rfl rfl
set_option maxRecDepth 20000 in
theorem tw_179 : Cond.fieldLink RX11 172 "LaneRow$Kept" "looksOfAsked" "I" ∈ lw_g := wk_g 179 rfl rfl
set_option maxRecDepth 20000 in
theorem tw_181 : Cond.fieldLink RX11 249 "LaneRow$Kept" "changes" "I" ∈ lw_g := wk_g 181 rfl rfl
set_option maxRecDepth 20000 in
theorem tw_195 : Cond.classLink RX11 29 RX10 ∈ lw_g := wk_g 195 rfl rfl
set_option maxRecDepth 20000 in
theorem tw_196 : Cond.instantiable RX10 3 ∈ lw_g := wk_g 196 rfl rfl
set_option maxRecDepth 20000 in
theorem tw_197 : Cond.methodLink RX11 31 yX10_init ∈ lw_g := wk_g 197 rfl rfl
set_option maxRecDepth 20000 in
theorem tw_198 : Cond.instanceMethod yX10_init ∈ lw_g := wk_g 198 rfl rfl
set_option maxRecDepth 20000 in
theorem tw_199 : Cond.code yX10_init cX10_init 1 none ∈ lw_g := wk_g 199 rfl rfl
set_option maxRecDepth 20000 in
theorem tw_200 : Cond.methodLink RX10 3 objectInit ∈ lw_g := wk_g 200 rfl rfl
set_option maxRecDepth 20000 in
theorem tw_215 : Cond.classLink RX11 36 RX9 ∈ lw_g := wk_g 215 rfl rfl
set_option maxRecDepth 20000 in
theorem tw_216 : Cond.instantiable RX9 8 ∈ lw_g := wk_g 216 rfl rfl
set_option maxRecDepth 20000 in
theorem tw_217 : Cond.methodLink RX11 38 yX9_init ∈ lw_g := wk_g 217 rfl rfl
set_option maxRecDepth 20000 in
theorem tw_218 : Cond.instanceMethod yX9_init ∈ lw_g := wk_g 218 rfl rfl
set_option maxRecDepth 20000 in
theorem tw_219 : Cond.code yX9_init cX9_init 1 none ∈ lw_g := wk_g 219 rfl rfl
set_option maxRecDepth 20000 in
theorem tw_220 : Cond.methodLink RX9 3 objectInit ∈ lw_g := wk_g 220 rfl rfl
set_option maxRecDepth 20000 in
theorem tw_221 : Cond.classLink RX9 9 RX10 ∈ lw_g := wk_g 221 rfl rfl
set_option maxRecDepth 20000 in
theorem tw_222 : Cond.methodLink RX9 11 yX10_init ∈ lw_g := wk_g 222 rfl rfl
set_option maxRecDepth 20000 in
theorem tw_223 : Cond.fieldLink RX9 12 "LaneRow$Trial" "walk" "LLaneRow$Walk;" ∈ lw_g := wk_g 223 rfl rfl
set_option maxRecDepth 20000 in
theorem tw_224 : Cond.fieldLink RX9 18 "LaneRow$Trial" "tried" "[I" ∈ lw_g := wk_g 224 rfl rfl
set_option maxRecDepth 20000 in
theorem tw_225 : Cond.fieldLink RX9 22 "LaneRow$Trial" "bestHeights" "[I" ∈ lw_g := wk_g 225 rfl rfl
set_option maxRecDepth 20000 in
theorem tw_226 : Cond.fieldLink RX9 25 "LaneRow$Trial" "looks" "[I" ∈ lw_g := wk_g 226 rfl rfl
set_option maxRecDepth 20000 in
theorem tw_252 : Cond.fieldLink RX11 10 "LaneRow" "page" "LLaneRow$Text;" ∈ lw_g := wk_g 252 rfl rfl
set_option maxRecDepth 20000 in
theorem tw_253 : Cond.fieldLink RX11 16 "LaneRow" "written" "LLaneRow$Text;" ∈ lw_g := wk_g 253 rfl rfl
set_option maxRecDepth 20000 in
theorem tw_254 : Cond.fieldLink RX11 22 "LaneRow" "now" "LLaneRow$Kept;" ∈ lw_g := wk_g 254 rfl rfl
set_option maxRecDepth 20000 in
theorem tw_255 : Cond.fieldLink RX11 26 "LaneRow" "kept" "LLaneRow$Kept;" ∈ lw_g := wk_g 255 rfl rfl
set_option maxRecDepth 20000 in
theorem tw_256 : Cond.fieldLink RX11 32 "LaneRow" "walk" "LLaneRow$Walk;" ∈ lw_g := wk_g 256 rfl rfl
set_option maxRecDepth 20000 in
theorem tw_257 : Cond.fieldLink RX11 39 "LaneRow" "trial" "LLaneRow$Trial;" ∈ lw_g := wk_g 257 rfl rfl
set_option maxRecDepth 20000 in
theorem tw_258 : Cond.fieldLink RX11 71 "LaneRow" "law" "LLaneRow$Law;" ∈ lw_g := wk_g 258 rfl rfl
set_option maxRecDepth 20000 in
theorem tw_259 : Cond.fieldLink RX11 88 "LaneRow" "rowsRead" "I" ∈ lw_g := wk_g 259 rfl rfl
set_option maxRecDepth 20000 in
theorem tw_260 : Cond.fieldLink RX11 246 "LaneRow" "rowOfImage" "I" ∈ lw_g := wk_g 260 rfl rfl
set_option maxRecDepth 20000 in
theorem tw_261 : Cond.fieldLink RX11 206 "LaneRow" "bestsDone" "I" ∈ lw_g := wk_g 261 rfl rfl
set_option maxRecDepth 20000 in
theorem tw_283 : Cond.methodLink RL 13 yX11_letter ∈ lw_g := wk_g 283 rfl rfl
set_option maxRecDepth 20000 in
theorem tw_284 : Cond.instanceMethod yX11_letter ∈ lw_g := wk_g 284 rfl rfl
set_option maxRecDepth 20000 in
theorem tw_285 : Cond.selects RX11 yX11_letter yX11_letter ∈ lw_g := wk_g 285 rfl rfl
set_option maxRecDepth 20000 in
theorem tw_286 : Cond.code yX11_letter cX11_letter 2 (some .int) ∈ lw_g := wk_g 286 rfl rfl
set_option maxRecDepth 20000 in
theorem tw_287 : Cond.methodLink RX11 47 yX6_add ∈ lw_g := wk_g 287 rfl rfl
set_option maxRecDepth 20000 in
theorem tw_288 : Cond.instanceMethod yX6_add ∈ lw_g := wk_g 288 rfl rfl
set_option maxRecDepth 20000 in
theorem tw_289 : Cond.selects RX6 yX6_add yX6_add ∈ lw_g := wk_g 289 rfl rfl
set_option maxRecDepth 20000 in
theorem tw_290 : Cond.code yX6_add cX6_add 2 (some .int) ∈ lw_g := wk_g 290 rfl rfl
set_option maxRecDepth 20000 in
theorem tw_291 : Cond.methodLink RL 18 yX11_blank ∈ lw_g := wk_g 291 rfl rfl
set_option maxRecDepth 20000 in
theorem tw_292 : Cond.instanceMethod yX11_blank ∈ lw_g := wk_g 292 rfl rfl
set_option maxRecDepth 20000 in
theorem tw_293 : Cond.selects RX11 yX11_blank yX11_blank ∈ lw_g := wk_g 293 rfl rfl
set_option maxRecDepth 20000 in
theorem tw_294 : Cond.code yX11_blank cX11_blank 1 (some .int) ∈ lw_g := wk_g 294 rfl rfl
set_option maxRecDepth 20000 in
theorem tw_295 : Cond.methodLink RX11 51 yX6_clear ∈ lw_g := wk_g 295 rfl rfl
set_option maxRecDepth 20000 in
theorem tw_296 : Cond.instanceMethod yX6_clear ∈ lw_g := wk_g 296 rfl rfl
set_option maxRecDepth 20000 in
theorem tw_297 : Cond.selects RX6 yX6_clear yX6_clear ∈ lw_g := wk_g 297 rfl rfl
set_option maxRecDepth 20000 in
theorem tw_298 : Cond.code yX6_clear cX6_clear 2 (some .int) ∈ lw_g := wk_g 298 rfl rfl
set_option maxRecDepth 20000 in
theorem tw_299 : Cond.methodLink RL 23 yX11_fault ∈ lw_g := wk_g 299 rfl rfl
set_option maxRecDepth 20000 in
theorem tw_300 : Cond.instanceMethod yX11_fault ∈ lw_g := wk_g 300 rfl rfl
set_option maxRecDepth 20000 in
theorem tw_301 : Cond.selects RX11 yX11_fault yX11_fault ∈ lw_g := wk_g 301 rfl rfl
set_option maxRecDepth 20000 in
theorem tw_302 : Cond.code yX11_fault cX11_fault 1 (some .int) ∈ lw_g := wk_g 302 rfl rfl
set_option maxRecDepth 20000 in
theorem tw_303 : Cond.methodLink RX11 55 yX6_firstFault ∈ lw_g := wk_g 303 rfl rfl
set_option maxRecDepth 20000 in
theorem tw_304 : Cond.instanceMethod yX6_firstFault ∈ lw_g := wk_g 304 rfl rfl
set_option maxRecDepth 20000 in
theorem tw_305 : Cond.selects RX6 yX6_firstFault yX6_firstFault ∈ lw_g := wk_g 305 rfl rfl
set_option maxRecDepth 20000 in
theorem tw_306 : Cond.code yX6_firstFault cX6_firstFault 5 (some .int) ∈ lw_g := wk_g 306 rfl rfl
set_option maxRecDepth 20000 in
theorem tw_307 : Cond.methodLink RX6 49 yX6_signsOfKey ∈ lw_g := wk_g 307 rfl rfl
set_option maxRecDepth 20000 in
theorem tw_309 : Cond.instanceMethod yX6_signsOfKey ∈ lw_g := wk_g 309 rfl rfl
set_option maxRecDepth 20000 in
theorem tw_310 : Cond.code yX6_signsOfKey cX6_signsOfKey 1 (some .int) ∈ lw_g := wk_g 310 rfl rfl
set_option maxRecDepth 20000 in
theorem tw_323 : Cond.methodLink RL 27 yX11_row ∈ lw_g := wk_g 323 rfl rfl
set_option maxRecDepth 20000 in
theorem tw_324 : Cond.instanceMethod yX11_row ∈ lw_g := wk_g 324 rfl rfl
set_option maxRecDepth 20000 in
theorem tw_325 : Cond.selects RX11 yX11_row yX11_row ∈ lw_g := wk_g 325 rfl rfl
set_option maxRecDepth 20000 in
theorem tw_326 : Cond.code yX11_row cX11_row 1 (some .int) ∈ lw_g := wk_g 326 rfl rfl
set_option maxRecDepth 20000 in
theorem tw_327 : Cond.methodLink RX11 58 yX6_keysTold ∈ lw_g := wk_g 327 rfl rfl
set_option maxRecDepth 20000 in
theorem tw_328 : Cond.instanceMethod yX6_keysTold ∈ lw_g := wk_g 328 rfl rfl
set_option maxRecDepth 20000 in
theorem tw_329 : Cond.selects RX6 yX6_keysTold yX6_keysTold ∈ lw_g := wk_g 329 rfl rfl
set_option maxRecDepth 20000 in
theorem tw_330 : Cond.code yX6_keysTold cX6_keysTold 3 (some .int) ∈ lw_g := wk_g 330 rfl rfl
set_option maxRecDepth 20000 in
theorem tw_336 : Cond.instantiable RX3 0 ∈ lw_g := wk_g 336 rfl rfl
set_option maxRecDepth 20000 in
theorem tw_343 : Cond.instantiable RX1 0 ∈ lw_g := wk_g 343 rfl rfl
set_option maxRecDepth 20000 in
theorem tw_350 : Cond.instantiable RX5 0 ∈ lw_g := wk_g 350 rfl rfl
set_option maxRecDepth 20000 in
theorem tw_357 : Cond.instantiable RX0 0 ∈ lw_g := wk_g 357 rfl rfl
set_option maxRecDepth 20000 in
theorem tw_364 : Cond.instantiable RX7 0 ∈ lw_g := wk_g 364 rfl rfl
set_option maxRecDepth 20000 in
theorem tw_375 : Cond.instanceMethod yX4_clear ∈ lw_g := wk_g 375 rfl rfl
set_option maxRecDepth 20000 in
theorem tw_376 : Cond.selects RX4 yX4_clear yX4_clear ∈ lw_g := wk_g 376 rfl rfl
set_option maxRecDepth 20000 in
theorem tw_377 : Cond.code yX4_clear cX4_clear 2 (some .int) ∈ lw_g := wk_g 377 rfl rfl
set_option maxRecDepth 20000 in
theorem tw_420 : Cond.methodLink RL 31 yX11_tape ∈ lw_g := wk_g 420 rfl rfl
set_option maxRecDepth 20000 in
theorem tw_421 : Cond.instanceMethod yX11_tape ∈ lw_g := wk_g 421 rfl rfl
set_option maxRecDepth 20000 in
theorem tw_422 : Cond.selects RX11 yX11_tape yX11_tape ∈ lw_g := wk_g 422 rfl rfl
set_option maxRecDepth 20000 in
theorem tw_423 : Cond.code yX11_tape cX11_tape 2 (some .int) ∈ lw_g := wk_g 423 rfl rfl
set_option maxRecDepth 20000 in
theorem tw_462 : Cond.methodLink RL 35 yX11_as ∈ lw_g := wk_g 462 rfl rfl
set_option maxRecDepth 20000 in
theorem tw_463 : Cond.instanceMethod yX11_as ∈ lw_g := wk_g 463 rfl rfl
set_option maxRecDepth 20000 in
theorem tw_464 : Cond.selects RX11 yX11_as yX11_as ∈ lw_g := wk_g 464 rfl rfl
set_option maxRecDepth 20000 in
theorem tw_465 : Cond.code yX11_as cX11_as 2 (some .int) ∈ lw_g := wk_g 465 rfl rfl
set_option maxRecDepth 20000 in
theorem tw_474 : Cond.methodLink RL 39 yX11_key ∈ lw_g := wk_g 474 rfl rfl
set_option maxRecDepth 20000 in
theorem tw_475 : Cond.instanceMethod yX11_key ∈ lw_g := wk_g 475 rfl rfl
set_option maxRecDepth 20000 in
theorem tw_476 : Cond.selects RX11 yX11_key yX11_key ∈ lw_g := wk_g 476 rfl rfl
set_option maxRecDepth 20000 in
theorem tw_477 : Cond.code yX11_key cX11_key 4 (some .int) ∈ lw_g := wk_g 477 rfl rfl
set_option maxRecDepth 20000 in
theorem tw_478 : Cond.methodLink RX11 102 yX11_namesNoKey ∈ lw_g := wk_g 478 rfl rfl
set_option maxRecDepth 20000 in
theorem tw_480 : Cond.instanceMethod yX11_namesNoKey ∈ lw_g := wk_g 480 rfl rfl
set_option maxRecDepth 20000 in
theorem tw_481 : Cond.code yX11_namesNoKey cX11_namesNoKey 2 (some .boolean) ∈ lw_g := wk_g 481 rfl rfl
set_option maxRecDepth 20000 in
theorem tw_491 : Cond.instanceMethod yX8_highestOf ∈ lw_g := wk_g 491 rfl rfl
set_option maxRecDepth 20000 in
theorem tw_492 : Cond.selects RX8 yX8_highestOf yX8_highestOf ∈ lw_g := wk_g 492 rfl rfl
set_option maxRecDepth 20000 in
theorem tw_493 : Cond.code yX8_highestOf cX8_highestOf 4 (some .int) ∈ lw_g := wk_g 493 rfl rfl
set_option maxRecDepth 20000 in
theorem tw_544 : Cond.methodLink RL 44 yX11_lane ∈ lw_g := wk_g 544 rfl rfl
set_option maxRecDepth 20000 in
theorem tw_545 : Cond.instanceMethod yX11_lane ∈ lw_g := wk_g 545 rfl rfl
set_option maxRecDepth 20000 in
theorem tw_546 : Cond.selects RX11 yX11_lane yX11_lane ∈ lw_g := wk_g 546 rfl rfl
set_option maxRecDepth 20000 in
theorem tw_547 : Cond.code yX11_lane cX11_lane 3 (some .int) ∈ lw_g := wk_g 547 rfl rfl
set_option maxRecDepth 20000 in
theorem tw_557 : Cond.methodLink RL 48 yX11_find ∈ lw_g := wk_g 557 rfl rfl
set_option maxRecDepth 20000 in
theorem tw_558 : Cond.instanceMethod yX11_find ∈ lw_g := wk_g 558 rfl rfl
set_option maxRecDepth 20000 in
theorem tw_559 : Cond.selects RX11 yX11_find yX11_find ∈ lw_g := wk_g 559 rfl rfl
set_option maxRecDepth 20000 in
theorem tw_560 : Cond.code yX11_find cX11_find 3 (some .int) ∈ lw_g := wk_g 560 rfl rfl
set_option maxRecDepth 20000 in
theorem tw_561 : Cond.methodLink RX11 147 yX11_isNoKey ∈ lw_g := wk_g 561 rfl rfl
set_option maxRecDepth 20000 in
theorem tw_562 : Cond.static yX11_isNoKey ∈ lw_g := wk_g 562 rfl rfl
set_option maxRecDepth 20000 in
theorem tw_563 : Cond.code yX11_isNoKey cX11_isNoKey 1 (some .boolean) ∈ lw_g := wk_g 563 rfl rfl
set_option maxRecDepth 20000 in
theorem tw_568 : Cond.methodLink RL 52 yX11_nth ∈ lw_g := wk_g 568 rfl rfl
set_option maxRecDepth 20000 in
theorem tw_569 : Cond.instanceMethod yX11_nth ∈ lw_g := wk_g 569 rfl rfl
set_option maxRecDepth 20000 in
theorem tw_570 : Cond.selects RX11 yX11_nth yX11_nth ∈ lw_g := wk_g 570 rfl rfl
set_option maxRecDepth 20000 in
theorem tw_571 : Cond.code yX11_nth cX11_nth 4 (some .int) ∈ lw_g := wk_g 571 rfl rfl
set_option maxRecDepth 20000 in
theorem tw_572 : Cond.methodLink RL 56 yX11_sum ∈ lw_g := wk_g 572 rfl rfl
set_option maxRecDepth 20000 in
theorem tw_573 : Cond.instanceMethod yX11_sum ∈ lw_g := wk_g 573 rfl rfl
set_option maxRecDepth 20000 in
theorem tw_574 : Cond.selects RX11 yX11_sum yX11_sum ∈ lw_g := wk_g 574 rfl rfl
set_option maxRecDepth 20000 in
theorem tw_575 : Cond.code yX11_sum cX11_sum 3 (some .int) ∈ lw_g := wk_g 575 rfl rfl
set_option maxRecDepth 20000 in
theorem tw_576 : Cond.methodLink RX11 166 yX8_valuesBetween ∈ lw_g := wk_g 576 rfl rfl
set_option maxRecDepth 20000 in
theorem tw_577 : Cond.instanceMethod yX8_valuesBetween ∈ lw_g := wk_g 577 rfl rfl
set_option maxRecDepth 20000 in
theorem tw_578 : Cond.selects RX8 yX8_valuesBetween yX8_valuesBetween ∈ lw_g := wk_g 578 rfl rfl
set_option maxRecDepth 20000 in
theorem tw_579 : Cond.code yX8_valuesBetween cX8_valuesBetween 5 (some .int) ∈ lw_g := wk_g 579 rfl rfl
set_option maxRecDepth 20000 in
theorem tw_580 : Cond.methodLink RL 60 yX11_finger ∈ lw_g := wk_g 580 rfl rfl
set_option maxRecDepth 20000 in
theorem tw_581 : Cond.instanceMethod yX11_finger ∈ lw_g := wk_g 581 rfl rfl
set_option maxRecDepth 20000 in
theorem tw_582 : Cond.selects RX11 yX11_finger yX11_finger ∈ lw_g := wk_g 582 rfl rfl
set_option maxRecDepth 20000 in
theorem tw_583 : Cond.code yX11_finger cX11_finger 4 (some .int) ∈ lw_g := wk_g 583 rfl rfl
set_option maxRecDepth 20000 in
theorem tw_584 : Cond.methodLink RL 65 yX11_ask ∈ lw_g := wk_g 584 rfl rfl
set_option maxRecDepth 20000 in
theorem tw_585 : Cond.instanceMethod yX11_ask ∈ lw_g := wk_g 585 rfl rfl
set_option maxRecDepth 20000 in
theorem tw_586 : Cond.selects RX11 yX11_ask yX11_ask ∈ lw_g := wk_g 586 rfl rfl
set_option maxRecDepth 20000 in
theorem tw_587 : Cond.code yX11_ask cX11_ask 3 (some .int) ∈ lw_g := wk_g 587 rfl rfl
set_option maxRecDepth 20000 in
theorem tw_588 : Cond.methodLink RL 69 yX11_put ∈ lw_g := wk_g 588 rfl rfl
set_option maxRecDepth 20000 in
theorem tw_589 : Cond.instanceMethod yX11_put ∈ lw_g := wk_g 589 rfl rfl
set_option maxRecDepth 20000 in
theorem tw_590 : Cond.selects RX11 yX11_put yX11_put ∈ lw_g := wk_g 590 rfl rfl
set_option maxRecDepth 20000 in
theorem tw_591 : Cond.code yX11_put cX11_put 7 (some .int) ∈ lw_g := wk_g 591 rfl rfl
set_option maxRecDepth 20000 in
theorem tw_592 : Cond.methodLink RX11 175 yX8_firstNotLess ∈ lw_g := wk_g 592 rfl rfl
set_option maxRecDepth 20000 in
theorem tw_593 : Cond.instanceMethod yX8_firstNotLess ∈ lw_g := wk_g 593 rfl rfl
set_option maxRecDepth 20000 in
theorem tw_594 : Cond.selects RX8 yX8_firstNotLess yX8_firstNotLess ∈ lw_g := wk_g 594 rfl rfl
set_option maxRecDepth 20000 in
theorem tw_595 : Cond.code yX8_firstNotLess cX8_firstNotLess 3 (some .int) ∈ lw_g := wk_g 595 rfl rfl
set_option maxRecDepth 20000 in
theorem tw_601 : Cond.methodLink RL 73 yX11_remove ∈ lw_g := wk_g 601 rfl rfl
set_option maxRecDepth 20000 in
theorem tw_602 : Cond.instanceMethod yX11_remove ∈ lw_g := wk_g 602 rfl rfl
set_option maxRecDepth 20000 in
theorem tw_603 : Cond.selects RX11 yX11_remove yX11_remove ∈ lw_g := wk_g 603 rfl rfl
set_option maxRecDepth 20000 in
theorem tw_604 : Cond.code yX11_remove cX11_remove 5 (some .int) ∈ lw_g := wk_g 604 rfl rfl
set_option maxRecDepth 20000 in
theorem tw_605 : Cond.methodLink RX11 185 yX8_numberOf ∈ lw_g := wk_g 605 rfl rfl
set_option maxRecDepth 20000 in
theorem tw_606 : Cond.instanceMethod yX8_numberOf ∈ lw_g := wk_g 606 rfl rfl
set_option maxRecDepth 20000 in
theorem tw_607 : Cond.selects RX8 yX8_numberOf yX8_numberOf ∈ lw_g := wk_g 607 rfl rfl
set_option maxRecDepth 20000 in
theorem tw_608 : Cond.code yX8_numberOf cX8_numberOf 3 (some .int) ∈ lw_g := wk_g 608 rfl rfl
set_option maxRecDepth 20000 in
theorem tw_609 : Cond.methodLink RX8 36 yX8_firstNotLess ∈ lw_g := wk_g 609 rfl rfl
set_option maxRecDepth 20000 in
theorem tw_614 : Cond.methodLink RL 77 yX11_split ∈ lw_g := wk_g 614 rfl rfl
set_option maxRecDepth 20000 in
theorem tw_615 : Cond.instanceMethod yX11_split ∈ lw_g := wk_g 615 rfl rfl
set_option maxRecDepth 20000 in
theorem tw_616 : Cond.selects RX11 yX11_split yX11_split ∈ lw_g := wk_g 616 rfl rfl
set_option maxRecDepth 20000 in
theorem tw_617 : Cond.code yX11_split cX11_split 4 (some .int) ∈ lw_g := wk_g 617 rfl rfl
set_option maxRecDepth 20000 in
theorem tw_622 : Cond.methodLink RL 81 yX11_join ∈ lw_g := wk_g 622 rfl rfl
set_option maxRecDepth 20000 in
theorem tw_623 : Cond.instanceMethod yX11_join ∈ lw_g := wk_g 623 rfl rfl
set_option maxRecDepth 20000 in
theorem tw_624 : Cond.selects RX11 yX11_join yX11_join ∈ lw_g := wk_g 624 rfl rfl
set_option maxRecDepth 20000 in
theorem tw_625 : Cond.code yX11_join cX11_join 3 (some .int) ∈ lw_g := wk_g 625 rfl rfl
set_option maxRecDepth 20000 in
theorem tw_630 : Cond.methodLink RL 85 yX11_cost ∈ lw_g := wk_g 630 rfl rfl
set_option maxRecDepth 20000 in
theorem tw_631 : Cond.instanceMethod yX11_cost ∈ lw_g := wk_g 631 rfl rfl
set_option maxRecDepth 20000 in
theorem tw_632 : Cond.selects RX11 yX11_cost yX11_cost ∈ lw_g := wk_g 632 rfl rfl
set_option maxRecDepth 20000 in
theorem tw_633 : Cond.code yX11_cost cX11_cost 1 (some .int) ∈ lw_g := wk_g 633 rfl rfl
set_option maxRecDepth 20000 in
theorem tw_638 : Cond.methodLink RL 89 yX11_best ∈ lw_g := wk_g 638 rfl rfl
set_option maxRecDepth 20000 in
theorem tw_639 : Cond.instanceMethod yX11_best ∈ lw_g := wk_g 639 rfl rfl
set_option maxRecDepth 20000 in
theorem tw_640 : Cond.selects RX11 yX11_best yX11_best ∈ lw_g := wk_g 640 rfl rfl
set_option maxRecDepth 20000 in
theorem tw_641 : Cond.code yX11_best cX11_best 4 (some .int) ∈ lw_g := wk_g 641 rfl rfl
set_option maxRecDepth 20000 in
theorem tw_647 : Cond.instanceMethod yX8_linksOf ∈ lw_g := wk_g 647 rfl rfl
set_option maxRecDepth 20000 in
theorem tw_648 : Cond.selects RX8 yX8_linksOf yX8_linksOf ∈ lw_g := wk_g 648 rfl rfl
set_option maxRecDepth 20000 in
theorem tw_649 : Cond.code yX8_linksOf cX8_linksOf 4 (some .int) ∈ lw_g := wk_g 649 rfl rfl
set_option maxRecDepth 20000 in
theorem tw_663 : Cond.methodLink RL 93 yX11_change ∈ lw_g := wk_g 663 rfl rfl
set_option maxRecDepth 20000 in
theorem tw_664 : Cond.instanceMethod yX11_change ∈ lw_g := wk_g 664 rfl rfl
set_option maxRecDepth 20000 in
theorem tw_665 : Cond.selects RX11 yX11_change yX11_change ∈ lw_g := wk_g 665 rfl rfl
set_option maxRecDepth 20000 in
theorem tw_666 : Cond.code yX11_change cX11_change 2 (some .int) ∈ lw_g := wk_g 666 rfl rfl
set_option maxRecDepth 20000 in
theorem tw_675 : Cond.methodLink RL 97 yX11_see ∈ lw_g := wk_g 675 rfl rfl
set_option maxRecDepth 20000 in
theorem tw_676 : Cond.instanceMethod yX11_see ∈ lw_g := wk_g 676 rfl rfl
set_option maxRecDepth 20000 in
theorem tw_677 : Cond.selects RX11 yX11_see yX11_see ∈ lw_g := wk_g 677 rfl rfl
set_option maxRecDepth 20000 in
theorem tw_678 : Cond.code yX11_see cX11_see 4 (some .int) ∈ lw_g := wk_g 678 rfl rfl
set_option maxRecDepth 20000 in
theorem tw_683 : Cond.methodLink RL 101 yX11_forget ∈ lw_g := wk_g 683 rfl rfl
set_option maxRecDepth 20000 in
theorem tw_684 : Cond.instanceMethod yX11_forget ∈ lw_g := wk_g 684 rfl rfl
set_option maxRecDepth 20000 in
theorem tw_685 : Cond.selects RX11 yX11_forget yX11_forget ∈ lw_g := wk_g 685 rfl rfl
set_option maxRecDepth 20000 in
theorem tw_686 : Cond.code yX11_forget cX11_forget 1 (some .int) ∈ lw_g := wk_g 686 rfl rfl
set_option maxRecDepth 20000 in
theorem tw_687 : Cond.methodLink RX11 237 yX4_clear ∈ lw_g := wk_g 687 rfl rfl
set_option maxRecDepth 20000 in
theorem tw_688 : Cond.methodLink RL 105 yX11_rounds ∈ lw_g := wk_g 688 rfl rfl
set_option maxRecDepth 20000 in
theorem tw_689 : Cond.instanceMethod yX11_rounds ∈ lw_g := wk_g 689 rfl rfl
set_option maxRecDepth 20000 in
theorem tw_690 : Cond.selects RX11 yX11_rounds yX11_rounds ∈ lw_g := wk_g 690 rfl rfl
set_option maxRecDepth 20000 in
theorem tw_691 : Cond.code yX11_rounds cX11_rounds 8 (some .int) ∈ lw_g := wk_g 691 rfl rfl
set_option maxRecDepth 20000 in
theorem tw_699 : Cond.methodLink RL 109 yX11_image ∈ lw_g := wk_g 699 rfl rfl
set_option maxRecDepth 20000 in
theorem tw_700 : Cond.instanceMethod yX11_image ∈ lw_g := wk_g 700 rfl rfl
set_option maxRecDepth 20000 in
theorem tw_701 : Cond.selects RX11 yX11_image yX11_image ∈ lw_g := wk_g 701 rfl rfl
set_option maxRecDepth 20000 in
theorem tw_702 : Cond.code yX11_image cX11_image 1 (some .int) ∈ lw_g := wk_g 702 rfl rfl
set_option maxRecDepth 20000 in
theorem tw_717 : Cond.methodLink RL 113 yX11_restore ∈ lw_g := wk_g 717 rfl rfl
set_option maxRecDepth 20000 in
theorem tw_718 : Cond.instanceMethod yX11_restore ∈ lw_g := wk_g 718 rfl rfl
set_option maxRecDepth 20000 in
theorem tw_719 : Cond.selects RX11 yX11_restore yX11_restore ∈ lw_g := wk_g 719 rfl rfl
set_option maxRecDepth 20000 in
theorem tw_720 : Cond.code yX11_restore cX11_restore 1 (some .int) ∈ lw_g := wk_g 720 rfl rfl
set_option maxRecDepth 20000 in
theorem tw_721 : Cond.methodLink RL 117 yX11_count ∈ lw_g := wk_g 721 rfl rfl
set_option maxRecDepth 20000 in
theorem tw_722 : Cond.instanceMethod yX11_count ∈ lw_g := wk_g 722 rfl rfl
set_option maxRecDepth 20000 in
theorem tw_723 : Cond.selects RX11 yX11_count yX11_count ∈ lw_g := wk_g 723 rfl rfl
set_option maxRecDepth 20000 in
theorem tw_724 : Cond.code yX11_count cX11_count 2 (some .int) ∈ lw_g := wk_g 724 rfl rfl
set_option maxRecDepth 20000 in
theorem tw_725 : Cond.methodLink RX11 252 yX8_highestOf ∈ lw_g := wk_g 725 rfl rfl
set_option maxRecDepth 20000 in
theorem tw_726 : Cond.methodLink RX11 256 yX8_linksOf ∈ lw_g := wk_g 726 rfl rfl
set_option maxRecDepth 20000 in
theorem tw_727 : Cond.methodLink RX11 259 yX8_allHeat ∈ lw_g := wk_g 727 rfl rfl
set_option maxRecDepth 20000 in
theorem tw_728 : Cond.instanceMethod yX8_allHeat ∈ lw_g := wk_g 728 rfl rfl
set_option maxRecDepth 20000 in
theorem tw_729 : Cond.selects RX8 yX8_allHeat yX8_allHeat ∈ lw_g := wk_g 729 rfl rfl
set_option maxRecDepth 20000 in
theorem tw_730 : Cond.code yX8_allHeat cX8_allHeat 3 (some .int) ∈ lw_g := wk_g 730 rfl rfl
set_option maxRecDepth 20000 in
theorem tw_731 : Cond.methodLink RL 121 yX11_digest ∈ lw_g := wk_g 731 rfl rfl
set_option maxRecDepth 20000 in
theorem tw_732 : Cond.instanceMethod yX11_digest ∈ lw_g := wk_g 732 rfl rfl
set_option maxRecDepth 20000 in
theorem tw_733 : Cond.selects RX11 yX11_digest yX11_digest ∈ lw_g := wk_g 733 rfl rfl
set_option maxRecDepth 20000 in
theorem tw_734 : Cond.code yX11_digest cX11_digest 4 (some .long) ∈ lw_g := wk_g 734 rfl rfl
set_option maxRecDepth 20000 in
theorem tw_735 : Cond.constantLong RX11 262 1151 ∈ lw_g := wk_g 735 rfl rfl
set_option maxRecDepth 20000 in
theorem tw_740 : Cond.constantLong RX11 279 31 ∈ lw_g := wk_g 740 rfl rfl
set_option maxRecDepth 20000 in
theorem tw_753 : Cond.methodLink RX11 275 yX11_withCodes ∈ lw_g := wk_g 753 rfl rfl
set_option maxRecDepth 20000 in
theorem tw_754 : Cond.static yX11_withCodes ∈ lw_g := wk_g 754 rfl rfl
set_option maxRecDepth 20000 in
theorem tw_755 : Cond.code yX11_withCodes cX11_withCodes 7 (some .long) ∈ lw_g := wk_g 755 rfl rfl
set_option maxRecDepth 20000 in
theorem tw_756 : Cond.methodLink RX11 281 yX11_count ∈ lw_g := wk_g 756 rfl rfl
set_option maxRecDepth 20000 in
theorem tw_757 : Cond.classLink RL 10 RX12 ∈ lw_g := wk_g 757 rfl rfl
set_option maxRecDepth 20000 in
theorem tw_758 : Cond.instantiable RX12 44 ∈ lw_g := wk_g 758 rfl rfl
set_option maxRecDepth 20000 in
theorem tw_759 : Cond.methodLink RL 12 yX12_init ∈ lw_g := wk_g 759 rfl rfl
set_option maxRecDepth 20000 in
theorem tw_760 : Cond.instanceMethod yX12_init ∈ lw_g := wk_g 760 rfl rfl
set_option maxRecDepth 20000 in
theorem tw_761 : Cond.code yX12_init cX12_init 1 none ∈ lw_g := wk_g 761 rfl rfl
set_option maxRecDepth 20000 in
theorem tw_762 : Cond.methodLink RX12 1 objectInit ∈ lw_g := wk_g 762 rfl rfl
set_option maxRecDepth 20000 in
theorem tw_763 : Cond.fieldLink RX12 7 "LaneRowModel" "page" "[I" ∈ lw_g := wk_g 763 rfl rfl
set_option maxRecDepth 20000 in
theorem tw_764 : Cond.fieldLink RX12 86 "LaneRowModel" "pageMany" "I" ∈ lw_g := wk_g 764 rfl rfl
set_option maxRecDepth 20000 in
theorem tw_766 : Cond.fieldLink RX12 121 "LaneRowModel" "many" "I" ∈ lw_g := wk_g 766 rfl rfl
set_option maxRecDepth 20000 in
theorem tw_767 : Cond.fieldLink RX12 130 "LaneRowModel" "asked" "I" ∈ lw_g := wk_g 767 rfl rfl
set_option maxRecDepth 20000 in
theorem tw_768 : Cond.fieldLink RX12 133 "LaneRowModel" "looksAll" "I" ∈ lw_g := wk_g 768 rfl rfl
set_option maxRecDepth 20000 in
theorem tw_769 : Cond.fieldLink RX12 136 "LaneRowModel" "changes" "I" ∈ lw_g := wk_g 769 rfl rfl
set_option maxRecDepth 20000 in
theorem tw_770 : Cond.fieldLink RX12 142 "LaneRowModel" "rowsRead" "I" ∈ lw_g := wk_g 770 rfl rfl
set_option maxRecDepth 20000 in
theorem tw_771 : Cond.fieldLink RX12 13 "LaneRowModel" "keys" "[I" ∈ lw_g := wk_g 771 rfl rfl
set_option maxRecDepth 20000 in
theorem tw_772 : Cond.fieldLink RX12 16 "LaneRowModel" "values" "[I" ∈ lw_g := wk_g 772 rfl rfl
set_option maxRecDepth 20000 in
theorem tw_773 : Cond.fieldLink RX12 19 "LaneRowModel" "heights" "[I" ∈ lw_g := wk_g 773 rfl rfl
set_option maxRecDepth 20000 in
theorem tw_774 : Cond.fieldLink RX12 22 "LaneRowModel" "heats" "[I" ∈ lw_g := wk_g 774 rfl rfl
set_option maxRecDepth 20000 in
theorem tw_775 : Cond.fieldLink RX12 127 "LaneRowModel" "secondMany" "I" ∈ lw_g := wk_g 775 rfl rfl
set_option maxRecDepth 20000 in
theorem tw_776 : Cond.fieldLink RX12 25 "LaneRowModel" "secondKeys" "[I" ∈ lw_g := wk_g 776 rfl rfl
set_option maxRecDepth 20000 in
theorem tw_777 : Cond.fieldLink RX12 28 "LaneRowModel" "secondValues" "[I" ∈ lw_g := wk_g 777 rfl rfl
set_option maxRecDepth 20000 in
theorem tw_778 : Cond.fieldLink RX12 31 "LaneRowModel" "secondHeights" "[I" ∈ lw_g := wk_g 778 rfl rfl
set_option maxRecDepth 20000 in
theorem tw_779 : Cond.fieldLink RX12 34 "LaneRowModel" "secondHeats" "[I" ∈ lw_g := wk_g 779 rfl rfl
set_option maxRecDepth 20000 in
theorem tw_783 : Cond.fieldLink RX12 273 "LaneRowModel" "bestsDone" "I" ∈ lw_g := wk_g 783 rfl rfl
set_option maxRecDepth 20000 in
theorem tw_784 : Cond.fieldLink RX12 37 "LaneRowModel" "saved" "[I" ∈ lw_g := wk_g 784 rfl rfl
set_option maxRecDepth 20000 in
theorem tw_785 : Cond.fieldLink RX12 40 "LaneRowModel" "bestHeights" "[I" ∈ lw_g := wk_g 785 rfl rfl
set_option maxRecDepth 20000 in
theorem tw_786 : Cond.fieldLink RX12 139 "LaneRowModel" "seenMany" "I" ∈ lw_g := wk_g 786 rfl rfl
set_option maxRecDepth 20000 in
theorem tw_787 : Cond.fieldLink RX12 43 "LaneRowModel" "sights" "[I" ∈ lw_g := wk_g 787 rfl rfl
set_option maxRecDepth 20000 in
theorem tw_788 : Cond.fieldLink RX12 46 "LaneRowModel" "by" "[I" ∈ lw_g := wk_g 788 rfl rfl
set_option maxRecDepth 20000 in
theorem tw_790 : Cond.fieldLink RX12 76 "LaneRowModel" "keptRow" "I" ∈ lw_g := wk_g 790 rfl rfl
set_option maxRecDepth 20000 in
theorem tw_797 : Cond.fieldLink RX12 49 "LaneRowModel" "keptKeys" "[I" ∈ lw_g := wk_g 797 rfl rfl
set_option maxRecDepth 20000 in
theorem tw_798 : Cond.fieldLink RX12 52 "LaneRowModel" "keptValues" "[I" ∈ lw_g := wk_g 798 rfl rfl
set_option maxRecDepth 20000 in
theorem tw_799 : Cond.fieldLink RX12 55 "LaneRowModel" "keptHeights" "[I" ∈ lw_g := wk_g 799 rfl rfl
set_option maxRecDepth 20000 in
theorem tw_800 : Cond.fieldLink RX12 58 "LaneRowModel" "keptHeats" "[I" ∈ lw_g := wk_g 800 rfl rfl
set_option maxRecDepth 20000 in
theorem tw_801 : Cond.fieldLink RX12 61 "LaneRowModel" "keptKeys2" "[I" ∈ lw_g := wk_g 801 rfl rfl
set_option maxRecDepth 20000 in
theorem tw_802 : Cond.fieldLink RX12 64 "LaneRowModel" "keptValues2" "[I" ∈ lw_g := wk_g 802 rfl rfl
set_option maxRecDepth 20000 in
theorem tw_803 : Cond.fieldLink RX12 67 "LaneRowModel" "keptHeights2" "[I" ∈ lw_g := wk_g 803 rfl rfl
set_option maxRecDepth 20000 in
theorem tw_804 : Cond.fieldLink RX12 70 "LaneRowModel" "keptHeats2" "[I" ∈ lw_g := wk_g 804 rfl rfl
set_option maxRecDepth 20000 in
theorem tw_805 : Cond.fieldLink RX12 73 "LaneRowModel" "keptSights" "[I" ∈ lw_g := wk_g 805 rfl rfl
set_option maxRecDepth 20000 in
theorem tw_806 : Cond.fieldLink RX12 331 "LaneRowModel" "hash" "J" ∈ lw_g := wk_g 806 rfl rfl
set_option maxRecDepth 20000 in
theorem tw_896 : Cond.methodLink RL 17 yX12_letter ∈ lw_g := wk_g 896 rfl rfl
set_option maxRecDepth 20000 in
theorem tw_897 : Cond.instanceMethod yX12_letter ∈ lw_g := wk_g 897 rfl rfl
set_option maxRecDepth 20000 in
theorem tw_898 : Cond.selects RX12 yX12_letter yX12_letter ∈ lw_g := wk_g 898 rfl rfl
set_option maxRecDepth 20000 in
theorem tw_899 : Cond.code yX12_letter cX12_letter 2 (some .int) ∈ lw_g := wk_g 899 rfl rfl
set_option maxRecDepth 20000 in
theorem tw_900 : Cond.constantLong RX12 80 126 ∈ lw_g := wk_g 900 rfl rfl
set_option maxRecDepth 20000 in
theorem tw_901 : Cond.methodLink RX12 82 yX12_in ∈ lw_g := wk_g 901 rfl rfl
set_option maxRecDepth 20000 in
theorem tw_902 : Cond.static yX12_in ∈ lw_g := wk_g 902 rfl rfl
set_option maxRecDepth 20000 in
theorem tw_903 : Cond.code yX12_in cX12_in 6 (some .boolean) ∈ lw_g := wk_g 903 rfl rfl
set_option maxRecDepth 20000 in
theorem tw_904 : Cond.methodLink RL 22 yX12_blank ∈ lw_g := wk_g 904 rfl rfl
set_option maxRecDepth 20000 in
theorem tw_905 : Cond.instanceMethod yX12_blank ∈ lw_g := wk_g 905 rfl rfl
set_option maxRecDepth 20000 in
theorem tw_906 : Cond.selects RX12 yX12_blank yX12_blank ∈ lw_g := wk_g 906 rfl rfl
set_option maxRecDepth 20000 in
theorem tw_907 : Cond.code yX12_blank cX12_blank 2 (some .int) ∈ lw_g := wk_g 907 rfl rfl
set_option maxRecDepth 20000 in
theorem tw_908 : Cond.methodLink RL 26 yX12_fault ∈ lw_g := wk_g 908 rfl rfl
set_option maxRecDepth 20000 in
theorem tw_909 : Cond.instanceMethod yX12_fault ∈ lw_g := wk_g 909 rfl rfl
set_option maxRecDepth 20000 in
theorem tw_910 : Cond.selects RX12 yX12_fault yX12_fault ∈ lw_g := wk_g 910 rfl rfl
set_option maxRecDepth 20000 in
theorem tw_911 : Cond.code yX12_fault cX12_fault 1 (some .int) ∈ lw_g := wk_g 911 rfl rfl
set_option maxRecDepth 20000 in
theorem tw_912 : Cond.methodLink RX12 115 yX12_faultOf ∈ lw_g := wk_g 912 rfl rfl
set_option maxRecDepth 20000 in
theorem tw_914 : Cond.instanceMethod yX12_faultOf ∈ lw_g := wk_g 914 rfl rfl
set_option maxRecDepth 20000 in
theorem tw_915 : Cond.code yX12_faultOf cX12_faultOf 2 (some .int) ∈ lw_g := wk_g 915 rfl rfl
set_option maxRecDepth 20000 in
theorem tw_927 : Cond.methodLink RX12 89 yX12_wide ∈ lw_g := wk_g 927 rfl rfl
set_option maxRecDepth 20000 in
theorem tw_929 : Cond.instanceMethod yX12_wide ∈ lw_g := wk_g 929 rfl rfl
set_option maxRecDepth 20000 in
theorem tw_930 : Cond.code yX12_wide cX12_wide 1 (some .int) ∈ lw_g := wk_g 930 rfl rfl
set_option maxRecDepth 20000 in
theorem tw_939 : Cond.methodLink RL 30 yX12_row ∈ lw_g := wk_g 939 rfl rfl
set_option maxRecDepth 20000 in
theorem tw_940 : Cond.instanceMethod yX12_row ∈ lw_g := wk_g 940 rfl rfl
set_option maxRecDepth 20000 in
theorem tw_941 : Cond.selects RX12 yX12_row yX12_row ∈ lw_g := wk_g 941 rfl rfl
set_option maxRecDepth 20000 in
theorem tw_942 : Cond.code yX12_row cX12_row 4 (some .int) ∈ lw_g := wk_g 942 rfl rfl
set_option maxRecDepth 20000 in
theorem tw_957 : Cond.methodLink RL 51 yX12_find ∈ lw_g := wk_g 957 rfl rfl
set_option maxRecDepth 20000 in
theorem tw_958 : Cond.instanceMethod yX12_find ∈ lw_g := wk_g 958 rfl rfl
set_option maxRecDepth 20000 in
theorem tw_959 : Cond.selects RX12 yX12_find yX12_find ∈ lw_g := wk_g 959 rfl rfl
set_option maxRecDepth 20000 in
theorem tw_960 : Cond.code yX12_find cX12_find 3 (some .int) ∈ lw_g := wk_g 960 rfl rfl
set_option maxRecDepth 20000 in
theorem tw_961 : Cond.methodLink RX12 180 yX12_isKey ∈ lw_g := wk_g 961 rfl rfl
set_option maxRecDepth 20000 in
theorem tw_962 : Cond.static yX12_isKey ∈ lw_g := wk_g 962 rfl rfl
set_option maxRecDepth 20000 in
theorem tw_963 : Cond.code yX12_isKey cX12_isKey 1 (some .boolean) ∈ lw_g := wk_g 963 rfl rfl
set_option maxRecDepth 20000 in
theorem tw_964 : Cond.constantLong RX12 178 99 ∈ lw_g := wk_g 964 rfl rfl
set_option maxRecDepth 20000 in
theorem tw_965 : Cond.constantLong RX12 183 3 ∈ lw_g := wk_g 965 rfl rfl
set_option maxRecDepth 20000 in
theorem tw_966 : Cond.methodLink RX12 185 yX12_lacks ∈ lw_g := wk_g 966 rfl rfl
set_option maxRecDepth 20000 in
theorem tw_968 : Cond.instanceMethod yX12_lacks ∈ lw_g := wk_g 968 rfl rfl
set_option maxRecDepth 20000 in
theorem tw_969 : Cond.code yX12_lacks cX12_lacks 1 (some .boolean) ∈ lw_g := wk_g 969 rfl rfl
set_option maxRecDepth 20000 in
theorem tw_974 : Cond.methodLink RX12 167 yX12_lanes ∈ lw_g := wk_g 974 rfl rfl
set_option maxRecDepth 20000 in
theorem tw_976 : Cond.instanceMethod yX12_lanes ∈ lw_g := wk_g 976 rfl rfl
set_option maxRecDepth 20000 in
theorem tw_977 : Cond.code yX12_lanes cX12_lanes 3 (some .int) ∈ lw_g := wk_g 977 rfl rfl
set_option maxRecDepth 20000 in
theorem tw_990 : Cond.methodLink RL 55 yX12_nth ∈ lw_g := wk_g 990 rfl rfl
set_option maxRecDepth 20000 in
theorem tw_991 : Cond.instanceMethod yX12_nth ∈ lw_g := wk_g 991 rfl rfl
set_option maxRecDepth 20000 in
theorem tw_992 : Cond.selects RX12 yX12_nth yX12_nth ∈ lw_g := wk_g 992 rfl rfl
set_option maxRecDepth 20000 in
theorem tw_993 : Cond.code yX12_nth cX12_nth 3 (some .int) ∈ lw_g := wk_g 993 rfl rfl
set_option maxRecDepth 20000 in
theorem tw_994 : Cond.methodLink RX12 192 yX12_isNumber ∈ lw_g := wk_g 994 rfl rfl
set_option maxRecDepth 20000 in
theorem tw_996 : Cond.instanceMethod yX12_isNumber ∈ lw_g := wk_g 996 rfl rfl
set_option maxRecDepth 20000 in
theorem tw_997 : Cond.code yX12_isNumber cX12_isNumber 2 (some .boolean) ∈ lw_g := wk_g 997 rfl rfl
set_option maxRecDepth 20000 in
theorem tw_998 : Cond.constantLong RX12 195 2 ∈ lw_g := wk_g 998 rfl rfl
set_option maxRecDepth 20000 in
theorem tw_1003 : Cond.methodLink RL 59 yX12_sum ∈ lw_g := wk_g 1003 rfl rfl
set_option maxRecDepth 20000 in
theorem tw_1004 : Cond.instanceMethod yX12_sum ∈ lw_g := wk_g 1004 rfl rfl
set_option maxRecDepth 20000 in
theorem tw_1005 : Cond.selects RX12 yX12_sum yX12_sum ∈ lw_g := wk_g 1005 rfl rfl
set_option maxRecDepth 20000 in
theorem tw_1006 : Cond.code yX12_sum cX12_sum 5 (some .int) ∈ lw_g := wk_g 1006 rfl rfl
set_option maxRecDepth 20000 in
theorem tw_1007 : Cond.methodLink RL 64 yX12_finger ∈ lw_g := wk_g 1007 rfl rfl
set_option maxRecDepth 20000 in
theorem tw_1008 : Cond.instanceMethod yX12_finger ∈ lw_g := wk_g 1008 rfl rfl
set_option maxRecDepth 20000 in
theorem tw_1009 : Cond.selects RX12 yX12_finger yX12_finger ∈ lw_g := wk_g 1009 rfl rfl
set_option maxRecDepth 20000 in
theorem tw_1010 : Cond.code yX12_finger cX12_finger 4 (some .int) ∈ lw_g := wk_g 1010 rfl rfl
set_option maxRecDepth 20000 in
theorem tw_1011 : Cond.methodLink RL 68 yX12_ask ∈ lw_g := wk_g 1011 rfl rfl
set_option maxRecDepth 20000 in
theorem tw_1012 : Cond.instanceMethod yX12_ask ∈ lw_g := wk_g 1012 rfl rfl
set_option maxRecDepth 20000 in
theorem tw_1013 : Cond.selects RX12 yX12_ask yX12_ask ∈ lw_g := wk_g 1013 rfl rfl
set_option maxRecDepth 20000 in
theorem tw_1014 : Cond.code yX12_ask cX12_ask 2 (some .int) ∈ lw_g := wk_g 1014 rfl rfl
set_option maxRecDepth 20000 in
theorem tw_1015 : Cond.methodLink RL 43 yX12_key ∈ lw_g := wk_g 1015 rfl rfl
set_option maxRecDepth 20000 in
theorem tw_1016 : Cond.instanceMethod yX12_key ∈ lw_g := wk_g 1016 rfl rfl
set_option maxRecDepth 20000 in
theorem tw_1017 : Cond.selects RX12 yX12_key yX12_key ∈ lw_g := wk_g 1017 rfl rfl
set_option maxRecDepth 20000 in
theorem tw_1018 : Cond.code yX12_key cX12_key 3 (some .int) ∈ lw_g := wk_g 1018 rfl rfl
set_option maxRecDepth 20000 in
theorem tw_1023 : Cond.constantLong RX12 200 10 ∈ lw_g := wk_g 1023 rfl rfl
set_option maxRecDepth 20000 in
theorem tw_1055 : Cond.methodLink RL 47 yX12_lane ∈ lw_g := wk_g 1055 rfl rfl
set_option maxRecDepth 20000 in
theorem tw_1056 : Cond.instanceMethod yX12_lane ∈ lw_g := wk_g 1056 rfl rfl
set_option maxRecDepth 20000 in
theorem tw_1057 : Cond.selects RX12 yX12_lane yX12_lane ∈ lw_g := wk_g 1057 rfl rfl
set_option maxRecDepth 20000 in
theorem tw_1058 : Cond.code yX12_lane cX12_lane 3 (some .int) ∈ lw_g := wk_g 1058 rfl rfl
set_option maxRecDepth 20000 in
theorem tw_1071 : Cond.methodLink RL 38 yX12_as ∈ lw_g := wk_g 1071 rfl rfl
set_option maxRecDepth 20000 in
theorem tw_1072 : Cond.instanceMethod yX12_as ∈ lw_g := wk_g 1072 rfl rfl
set_option maxRecDepth 20000 in
theorem tw_1073 : Cond.selects RX12 yX12_as yX12_as ∈ lw_g := wk_g 1073 rfl rfl
set_option maxRecDepth 20000 in
theorem tw_1074 : Cond.code yX12_as cX12_as 3 (some .int) ∈ lw_g := wk_g 1074 rfl rfl
set_option maxRecDepth 20000 in
theorem tw_1075 : Cond.constantLong RX12 235 4 ∈ lw_g := wk_g 1075 rfl rfl
set_option maxRecDepth 20000 in
theorem tw_1076 : Cond.methodLink RL 34 yX12_tape ∈ lw_g := wk_g 1076 rfl rfl
set_option maxRecDepth 20000 in
theorem tw_1077 : Cond.instanceMethod yX12_tape ∈ lw_g := wk_g 1077 rfl rfl
set_option maxRecDepth 20000 in
theorem tw_1078 : Cond.selects RX12 yX12_tape yX12_tape ∈ lw_g := wk_g 1078 rfl rfl
set_option maxRecDepth 20000 in
theorem tw_1079 : Cond.code yX12_tape cX12_tape 2 (some .int) ∈ lw_g := wk_g 1079 rfl rfl
set_option maxRecDepth 20000 in
theorem tw_1080 : Cond.constantLong RX12 240 50 ∈ lw_g := wk_g 1080 rfl rfl
set_option maxRecDepth 20000 in
theorem tw_1088 : Cond.methodLink RL 72 yX12_put ∈ lw_g := wk_g 1088 rfl rfl
set_option maxRecDepth 20000 in
theorem tw_1089 : Cond.instanceMethod yX12_put ∈ lw_g := wk_g 1089 rfl rfl
set_option maxRecDepth 20000 in
theorem tw_1090 : Cond.selects RX12 yX12_put yX12_put ∈ lw_g := wk_g 1090 rfl rfl
set_option maxRecDepth 20000 in
theorem tw_1091 : Cond.code yX12_put cX12_put 6 (some .int) ∈ lw_g := wk_g 1091 rfl rfl
set_option maxRecDepth 20000 in
theorem tw_1092 : Cond.constantLong RX12 248 9 ∈ lw_g := wk_g 1092 rfl rfl
set_option maxRecDepth 20000 in
theorem tw_1097 : Cond.methodLink RX12 245 yX12_placeOf ∈ lw_g := wk_g 1097 rfl rfl
set_option maxRecDepth 20000 in
theorem tw_1099 : Cond.instanceMethod yX12_placeOf ∈ lw_g := wk_g 1099 rfl rfl
set_option maxRecDepth 20000 in
theorem tw_1100 : Cond.code yX12_placeOf cX12_placeOf 3 (some .int) ∈ lw_g := wk_g 1100 rfl rfl
set_option maxRecDepth 20000 in
theorem tw_1105 : Cond.methodLink RL 76 yX12_remove ∈ lw_g := wk_g 1105 rfl rfl
set_option maxRecDepth 20000 in
theorem tw_1106 : Cond.instanceMethod yX12_remove ∈ lw_g := wk_g 1106 rfl rfl
set_option maxRecDepth 20000 in
theorem tw_1107 : Cond.selects RX12 yX12_remove yX12_remove ∈ lw_g := wk_g 1107 rfl rfl
set_option maxRecDepth 20000 in
theorem tw_1108 : Cond.code yX12_remove cX12_remove 4 (some .int) ∈ lw_g := wk_g 1108 rfl rfl
set_option maxRecDepth 20000 in
theorem tw_1113 : Cond.methodLink RL 80 yX12_split ∈ lw_g := wk_g 1113 rfl rfl
set_option maxRecDepth 20000 in
theorem tw_1114 : Cond.instanceMethod yX12_split ∈ lw_g := wk_g 1114 rfl rfl
set_option maxRecDepth 20000 in
theorem tw_1115 : Cond.selects RX12 yX12_split yX12_split ∈ lw_g := wk_g 1115 rfl rfl
set_option maxRecDepth 20000 in
theorem tw_1116 : Cond.code yX12_split cX12_split 4 (some .int) ∈ lw_g := wk_g 1116 rfl rfl
set_option maxRecDepth 20000 in
theorem tw_1117 : Cond.methodLink RL 84 yX12_join ∈ lw_g := wk_g 1117 rfl rfl
set_option maxRecDepth 20000 in
theorem tw_1118 : Cond.instanceMethod yX12_join ∈ lw_g := wk_g 1118 rfl rfl
set_option maxRecDepth 20000 in
theorem tw_1119 : Cond.selects RX12 yX12_join yX12_join ∈ lw_g := wk_g 1119 rfl rfl
set_option maxRecDepth 20000 in
theorem tw_1120 : Cond.code yX12_join cX12_join 2 (some .int) ∈ lw_g := wk_g 1120 rfl rfl
set_option maxRecDepth 20000 in
theorem tw_1121 : Cond.methodLink RL 88 yX12_cost ∈ lw_g := wk_g 1121 rfl rfl
set_option maxRecDepth 20000 in
theorem tw_1122 : Cond.instanceMethod yX12_cost ∈ lw_g := wk_g 1122 rfl rfl
set_option maxRecDepth 20000 in
theorem tw_1123 : Cond.selects RX12 yX12_cost yX12_cost ∈ lw_g := wk_g 1123 rfl rfl
set_option maxRecDepth 20000 in
theorem tw_1124 : Cond.code yX12_cost cX12_cost 1 (some .int) ∈ lw_g := wk_g 1124 rfl rfl
set_option maxRecDepth 20000 in
theorem tw_1129 : Cond.methodLink RL 92 yX12_best ∈ lw_g := wk_g 1129 rfl rfl
set_option maxRecDepth 20000 in
theorem tw_1130 : Cond.instanceMethod yX12_best ∈ lw_g := wk_g 1130 rfl rfl
set_option maxRecDepth 20000 in
theorem tw_1131 : Cond.selects RX12 yX12_best yX12_best ∈ lw_g := wk_g 1131 rfl rfl
set_option maxRecDepth 20000 in
theorem tw_1132 : Cond.code yX12_best cX12_best 3 (some .int) ∈ lw_g := wk_g 1132 rfl rfl
set_option maxRecDepth 20000 in
theorem tw_1133 : Cond.constantLong RX12 269 18 ∈ lw_g := wk_g 1133 rfl rfl
set_option maxRecDepth 20000 in
theorem tw_1134 : Cond.constantLong RX12 271 15 ∈ lw_g := wk_g 1134 rfl rfl
set_option maxRecDepth 20000 in
theorem tw_1142 : Cond.methodLink RX12 266 yX12_linksOf ∈ lw_g := wk_g 1142 rfl rfl
set_option maxRecDepth 20000 in
theorem tw_1144 : Cond.instanceMethod yX12_linksOf ∈ lw_g := wk_g 1144 rfl rfl
set_option maxRecDepth 20000 in
theorem tw_1145 : Cond.code yX12_linksOf cX12_linksOf 3 (some .int) ∈ lw_g := wk_g 1145 rfl rfl
set_option maxRecDepth 20000 in
theorem tw_1146 : Cond.methodLink RL 96 yX12_change ∈ lw_g := wk_g 1146 rfl rfl
set_option maxRecDepth 20000 in
theorem tw_1147 : Cond.instanceMethod yX12_change ∈ lw_g := wk_g 1147 rfl rfl
set_option maxRecDepth 20000 in
theorem tw_1148 : Cond.selects RX12 yX12_change yX12_change ∈ lw_g := wk_g 1148 rfl rfl
set_option maxRecDepth 20000 in
theorem tw_1149 : Cond.code yX12_change cX12_change 2 (some .int) ∈ lw_g := wk_g 1149 rfl rfl
set_option maxRecDepth 20000 in
theorem tw_1154 : Cond.methodLink RL 100 yX12_see ∈ lw_g := wk_g 1154 rfl rfl
set_option maxRecDepth 20000 in
theorem tw_1155 : Cond.instanceMethod yX12_see ∈ lw_g := wk_g 1155 rfl rfl
set_option maxRecDepth 20000 in
theorem tw_1156 : Cond.selects RX12 yX12_see yX12_see ∈ lw_g := wk_g 1156 rfl rfl
set_option maxRecDepth 20000 in
theorem tw_1157 : Cond.code yX12_see cX12_see 4 (some .int) ∈ lw_g := wk_g 1157 rfl rfl
set_option maxRecDepth 20000 in
theorem tw_1158 : Cond.methodLink RL 104 yX12_forget ∈ lw_g := wk_g 1158 rfl rfl
set_option maxRecDepth 20000 in
theorem tw_1159 : Cond.instanceMethod yX12_forget ∈ lw_g := wk_g 1159 rfl rfl
set_option maxRecDepth 20000 in
theorem tw_1160 : Cond.selects RX12 yX12_forget yX12_forget ∈ lw_g := wk_g 1160 rfl rfl
set_option maxRecDepth 20000 in
theorem tw_1161 : Cond.code yX12_forget cX12_forget 2 (some .int) ∈ lw_g := wk_g 1161 rfl rfl
set_option maxRecDepth 20000 in
theorem tw_1162 : Cond.methodLink RL 108 yX12_rounds ∈ lw_g := wk_g 1162 rfl rfl
set_option maxRecDepth 20000 in
theorem tw_1163 : Cond.instanceMethod yX12_rounds ∈ lw_g := wk_g 1163 rfl rfl
set_option maxRecDepth 20000 in
theorem tw_1164 : Cond.selects RX12 yX12_rounds yX12_rounds ∈ lw_g := wk_g 1164 rfl rfl
set_option maxRecDepth 20000 in
theorem tw_1165 : Cond.code yX12_rounds cX12_rounds 7 (some .int) ∈ lw_g := wk_g 1165 rfl rfl
set_option maxRecDepth 20000 in
theorem tw_1166 : Cond.constantLong RX12 299 60 ∈ lw_g := wk_g 1166 rfl rfl
set_option maxRecDepth 20000 in
theorem tw_1175 : Cond.methodLink RL 112 yX12_image ∈ lw_g := wk_g 1175 rfl rfl
set_option maxRecDepth 20000 in
theorem tw_1176 : Cond.instanceMethod yX12_image ∈ lw_g := wk_g 1176 rfl rfl
set_option maxRecDepth 20000 in
theorem tw_1177 : Cond.selects RX12 yX12_image yX12_image ∈ lw_g := wk_g 1177 rfl rfl
set_option maxRecDepth 20000 in
theorem tw_1178 : Cond.code yX12_image cX12_image 1 (some .int) ∈ lw_g := wk_g 1178 rfl rfl
set_option maxRecDepth 20000 in
theorem tw_1179 : Cond.methodLink RL 116 yX12_restore ∈ lw_g := wk_g 1179 rfl rfl
set_option maxRecDepth 20000 in
theorem tw_1180 : Cond.instanceMethod yX12_restore ∈ lw_g := wk_g 1180 rfl rfl
set_option maxRecDepth 20000 in
theorem tw_1181 : Cond.selects RX12 yX12_restore yX12_restore ∈ lw_g := wk_g 1181 rfl rfl
set_option maxRecDepth 20000 in
theorem tw_1182 : Cond.code yX12_restore cX12_restore 1 (some .int) ∈ lw_g := wk_g 1182 rfl rfl
set_option maxRecDepth 20000 in
theorem tw_1183 : Cond.methodLink RL 120 yX12_count ∈ lw_g := wk_g 1183 rfl rfl
set_option maxRecDepth 20000 in
theorem tw_1184 : Cond.instanceMethod yX12_count ∈ lw_g := wk_g 1184 rfl rfl
set_option maxRecDepth 20000 in
theorem tw_1185 : Cond.selects RX12 yX12_count yX12_count ∈ lw_g := wk_g 1185 rfl rfl
set_option maxRecDepth 20000 in
theorem tw_1186 : Cond.code yX12_count cX12_count 2 (some .int) ∈ lw_g := wk_g 1186 rfl rfl
set_option maxRecDepth 20000 in
theorem tw_1187 : Cond.methodLink RX12 326 yX12_countOf ∈ lw_g := wk_g 1187 rfl rfl
set_option maxRecDepth 20000 in
theorem tw_1189 : Cond.instanceMethod yX12_countOf ∈ lw_g := wk_g 1189 rfl rfl
set_option maxRecDepth 20000 in
theorem tw_1190 : Cond.code yX12_countOf cX12_countOf 2 (some .int) ∈ lw_g := wk_g 1190 rfl rfl
set_option maxRecDepth 20000 in
theorem tw_1191 : Cond.methodLink RX12 322 yX12_sumOf ∈ lw_g := wk_g 1191 rfl rfl
set_option maxRecDepth 20000 in
theorem tw_1193 : Cond.instanceMethod yX12_sumOf ∈ lw_g := wk_g 1193 rfl rfl
set_option maxRecDepth 20000 in
theorem tw_1194 : Cond.code yX12_sumOf cX12_sumOf 4 (some .int) ∈ lw_g := wk_g 1194 rfl rfl
set_option maxRecDepth 20000 in
theorem tw_1195 : Cond.methodLink RL 125 yX12_digest ∈ lw_g := wk_g 1195 rfl rfl
set_option maxRecDepth 20000 in
theorem tw_1196 : Cond.instanceMethod yX12_digest ∈ lw_g := wk_g 1196 rfl rfl
set_option maxRecDepth 20000 in
theorem tw_1197 : Cond.selects RX12 yX12_digest yX12_digest ∈ lw_g := wk_g 1197 rfl rfl
set_option maxRecDepth 20000 in
theorem tw_1198 : Cond.code yX12_digest cX12_digest 2 (some .long) ∈ lw_g := wk_g 1198 rfl rfl
set_option maxRecDepth 20000 in
theorem tw_1199 : Cond.constantLong RX12 339 1151 ∈ lw_g := wk_g 1199 rfl rfl
set_option maxRecDepth 20000 in
theorem tw_1204 : Cond.methodLink RX12 335 yX12_say ∈ lw_g := wk_g 1204 rfl rfl
set_option maxRecDepth 20000 in
theorem tw_1206 : Cond.instanceMethod yX12_say ∈ lw_g := wk_g 1206 rfl rfl
set_option maxRecDepth 20000 in
theorem tw_1207 : Cond.code yX12_say cX12_say 3 none ∈ lw_g := wk_g 1207 rfl rfl
set_option maxRecDepth 20000 in
theorem tw_1208 : Cond.constantLong RX12 329 31 ∈ lw_g := wk_g 1208 rfl rfl
theorem wk_sw12 (x : Int32) : (x.toInt < 0 ∨ 12 < x.toInt) ∨ x = 0 ∨ x = 1 ∨ x = 2 ∨ x = 3 ∨ x = 4 ∨ x = 5 ∨ x = 6 ∨ x = 7 ∨ x = 8 ∨ x = 9 ∨ x = 10 ∨ x = 11 ∨ x = 12 := by
  by_cases h : x.toInt < 0 ∨ 12 < x.toInt
  · exact Or.inl h
  · refine Or.inr ?_
    have e : ∀ y : Int32, x.toInt = y.toInt → x = y := fun y => Int32.toInt_inj.mp
    rcases (show x.toInt = 0 ∨ x.toInt = 1 ∨ x.toInt = 2 ∨ x.toInt = 3 ∨ x.toInt = 4 ∨ x.toInt = 5 ∨ x.toInt = 6 ∨ x.toInt = 7 ∨ x.toInt = 8 ∨ x.toInt = 9 ∨ x.toInt = 10 ∨ x.toInt = 11 ∨ x.toInt = 12 by omega) with q | q | q | q | q | q | q | q | q | q | q | q | q
    · exact Or.inl (e 0 q)
    · exact Or.inr (Or.inl (e 1 q))
    · exact Or.inr (Or.inr (Or.inl (e 2 q)))
    · exact Or.inr (Or.inr (Or.inr (Or.inl (e 3 q))))
    · exact Or.inr (Or.inr (Or.inr (Or.inr (Or.inl (e 4 q)))))
    · exact Or.inr (Or.inr (Or.inr (Or.inr (Or.inr (Or.inl (e 5 q))))))
    · exact Or.inr (Or.inr (Or.inr (Or.inr (Or.inr (Or.inr (Or.inl (e 6 q)))))))
    · exact Or.inr (Or.inr (Or.inr (Or.inr (Or.inr (Or.inr (Or.inr (Or.inl (e 7 q))))))))
    · exact Or.inr (Or.inr (Or.inr (Or.inr (Or.inr (Or.inr (Or.inr (Or.inr (Or.inl (e 8 q)))))))))
    · exact Or.inr (Or.inr (Or.inr (Or.inr (Or.inr (Or.inr (Or.inr (Or.inr (Or.inr (Or.inl (e 9 q))))))))))
    · exact Or.inr (Or.inr (Or.inr (Or.inr (Or.inr (Or.inr (Or.inr (Or.inr (Or.inr (Or.inr (Or.inl (e 10 q)))))))))))
    · exact Or.inr (Or.inr (Or.inr (Or.inr (Or.inr (Or.inr (Or.inr (Or.inr (Or.inr (Or.inr (Or.inr (Or.inl (e 11 q))))))))))))
    · exact Or.inr (Or.inr (Or.inr (Or.inr (Or.inr (Or.inr (Or.inr (Or.inr (Or.inr (Or.inr (Or.inr (Or.inr (e 12 q))))))))))))
