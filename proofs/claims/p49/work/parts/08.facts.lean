theorem EX0 : g_cf RX0 TX0 5 tyX0 := ⟨inW0, tyX0_ok, nmX0⟩
set_option maxRecDepth 100000 in
theorem zX0 : ∀ j, j < 5 → defaultValue (tyX0 j) = vp_V [.null, .null, .null, .null, .null] j := (lt_s (lt_s (lt_s (lt_s (lt_s lt_0 rfl) rfl) rfl) rfl) rfl)
theorem pn_X0 : plainName RX0 = true := by decide +kernel
theorem EX1 : g_cf RX1 TX1 11 tyX1 := ⟨inW1, tyX1_ok, nmX1⟩
set_option maxRecDepth 100000 in
theorem zX1 : ∀ j, j < 11 → defaultValue (tyX1 j) = vp_V [.null, .null, .null, .null, .null, .null, .null, .null, .null, .null, .int 0] j := (lt_s (lt_s (lt_s (lt_s (lt_s (lt_s (lt_s (lt_s (lt_s (lt_s (lt_s lt_0 rfl) rfl) rfl) rfl) rfl) rfl) rfl) rfl) rfl) rfl) rfl)
theorem pn_X1 : plainName RX1 = true := by decide +kernel
theorem EX2 : g_cf RX2 TX2 20 tyX2 := ⟨inW2, tyX2_ok, nmX2⟩
set_option maxRecDepth 100000 in
theorem zX2 : ∀ j, j < 20 → defaultValue (tyX2 j) = vp_V [.null, .null, .null, .null, .null, .null, .null, .null, .null, .null, .null, .null, .null, .null, .null, .int 0, .int 0, .int 0, .int 0, .int 0] j := (lt_s (lt_s (lt_s (lt_s (lt_s (lt_s (lt_s (lt_s (lt_s (lt_s (lt_s (lt_s (lt_s (lt_s (lt_s (lt_s (lt_s (lt_s (lt_s (lt_s lt_0 rfl) rfl) rfl) rfl) rfl) rfl) rfl) rfl) rfl) rfl) rfl) rfl) rfl) rfl) rfl) rfl) rfl) rfl) rfl) rfl)
theorem pn_X2 : plainName RX2 = true := by decide +kernel
theorem EX3 : g_cf RX3 TX3 15 tyX3 := ⟨inW3, tyX3_ok, nmX3⟩
set_option maxRecDepth 100000 in
theorem zX3 : ∀ j, j < 15 → defaultValue (tyX3 j) = vp_V [.null, .null, .null, .null, .null, .int 0, .int 0, .null, .int 0, .int 0, .null, .null, .null, .int 0, .null] j := (lt_s (lt_s (lt_s (lt_s (lt_s (lt_s (lt_s (lt_s (lt_s (lt_s (lt_s (lt_s (lt_s (lt_s (lt_s lt_0 rfl) rfl) rfl) rfl) rfl) rfl) rfl) rfl) rfl) rfl) rfl) rfl) rfl) rfl) rfl)
theorem pn_X3 : plainName RX3 = true := by decide +kernel
theorem EX4 : g_cf RX4 TX4 5 tyX4 := ⟨inW4, tyX4_ok, nmX4⟩
set_option maxRecDepth 100000 in
theorem zX4 : ∀ j, j < 5 → defaultValue (tyX4 j) = vp_V [.null, .null, .null, .null, .int 0] j := (lt_s (lt_s (lt_s (lt_s (lt_s lt_0 rfl) rfl) rfl) rfl) rfl)
theorem pn_X4 : plainName RX4 = true := by decide +kernel
theorem EX5 : g_cf RX5 TX5 19 tyX5 := ⟨inW5, tyX5_ok, nmX5⟩
set_option maxRecDepth 100000 in
theorem zX5 : ∀ j, j < 19 → defaultValue (tyX5 j) = vp_V [.null, .null, .null, .int 0, .int 0, .int 0, .int 0, .int 0, .int 0, .int 0, .null, .null, .null, .null, .int 0, .null, .null, .null, .int 0] j := (lt_s (lt_s (lt_s (lt_s (lt_s (lt_s (lt_s (lt_s (lt_s (lt_s (lt_s (lt_s (lt_s (lt_s (lt_s (lt_s (lt_s (lt_s (lt_s lt_0 rfl) rfl) rfl) rfl) rfl) rfl) rfl) rfl) rfl) rfl) rfl) rfl) rfl) rfl) rfl) rfl) rfl) rfl) rfl)
theorem pn_X5 : plainName RX5 = true := by decide +kernel
theorem EX6 : g_cf RX6 TX6 1 tyX6 := ⟨inW6, tyX6_ok, nmX6⟩
set_option maxRecDepth 100000 in
theorem zX6 : ∀ j, j < 1 → defaultValue (tyX6 j) = vp_V [.null] j := (lt_s lt_0 rfl)
theorem pn_X6 : plainName RX6 = true := by decide +kernel
theorem EX7 : g_cf RX7 TX7 11 tyX7 := ⟨inW7, tyX7_ok, nmX7⟩
set_option maxRecDepth 100000 in
theorem zX7 : ∀ j, j < 11 → defaultValue (tyX7 j) = vp_V [.null, .null, .null, .null, .null, .null, .null, .int 0, .int 0, .int 0, .int 0] j := (lt_s (lt_s (lt_s (lt_s (lt_s (lt_s (lt_s (lt_s (lt_s (lt_s (lt_s lt_0 rfl) rfl) rfl) rfl) rfl) rfl) rfl) rfl) rfl) rfl) rfl)
theorem pn_X7 : plainName RX7 = true := by decide +kernel
theorem EX8 : g_cf RX8 TX8 13 tyX8 := ⟨inW8, tyX8_ok, nmX8⟩
set_option maxRecDepth 100000 in
theorem zX8 : ∀ j, j < 13 → defaultValue (tyX8 j) = vp_V [.null, .null, .null, .null, .null, .null, .null, .null, .int 0, .int 0, .int 0, .int 0, .int 0] j := (lt_s (lt_s (lt_s (lt_s (lt_s (lt_s (lt_s (lt_s (lt_s (lt_s (lt_s (lt_s (lt_s lt_0 rfl) rfl) rfl) rfl) rfl) rfl) rfl) rfl) rfl) rfl) rfl) rfl) rfl)
theorem pn_X8 : plainName RX8 = true := by decide +kernel
theorem EX9 : g_cf RX9 TX9 18 tyX9 := ⟨inW9, tyX9_ok, nmX9⟩
set_option maxRecDepth 100000 in
theorem zX9 : ∀ j, j < 18 → defaultValue (tyX9 j) = vp_V [.null, .null, .null, .null, .null, .null, .null, .int 0, .null, .null, .int 0, .null, .null, .int 0, .null, .null, .null, .int 0] j := (lt_s (lt_s (lt_s (lt_s (lt_s (lt_s (lt_s (lt_s (lt_s (lt_s (lt_s (lt_s (lt_s (lt_s (lt_s (lt_s (lt_s (lt_s lt_0 rfl) rfl) rfl) rfl) rfl) rfl) rfl) rfl) rfl) rfl) rfl) rfl) rfl) rfl) rfl) rfl) rfl) rfl)
theorem pn_X9 : plainName RX9 = true := by decide +kernel
theorem EX10 : g_cf RX10 TX10 7 tyX10 := ⟨inW10, tyX10_ok, nmX10⟩
set_option maxRecDepth 100000 in
theorem zX10 : ∀ j, j < 7 → defaultValue (tyX10 j) = vp_V [.null, .null, .null, .null, .null, .null, .int 0] j := (lt_s (lt_s (lt_s (lt_s (lt_s (lt_s (lt_s lt_0 rfl) rfl) rfl) rfl) rfl) rfl) rfl)
theorem pn_X10 : plainName RX10 = true := by decide +kernel
theorem EX11 : g_cf RX11 TX11 11 tyX11 := ⟨inW11, tyX11_ok, nmX11⟩
set_option maxRecDepth 100000 in
theorem zX11 : ∀ j, j < 11 → defaultValue (tyX11 j) = vp_V [.null, .null, .null, .null, .null, .null, .null, .null, .null, .null, .int 0] j := (lt_s (lt_s (lt_s (lt_s (lt_s (lt_s (lt_s (lt_s (lt_s (lt_s (lt_s lt_0 rfl) rfl) rfl) rfl) rfl) rfl) rfl) rfl) rfl) rfl) rfl)
theorem pn_X11 : plainName RX11 = true := by decide +kernel
theorem pn_L : plainName RL = true := by decide +kernel
theorem xf_g_ISE : g_xf 102 g_ISE := ⟨by decide +kernel, by decide +kernel, inE0, by decide +kernel, by decide +kernel⟩
theorem xf_g_ARE : g_xf 216 g_ARE := ⟨by decide +kernel, by decide +kernel, inE1, by decide +kernel, by decide +kernel⟩
theorem FX5_length : g_mf yX5_length cX5_length 1 (some .int) 0 := ⟨k3, k4, by decide, by decide, by decide +kernel⟩
theorem FX5_append : g_mf yX5_append cX5_append 3 none 1 := ⟨k9, k4, by decide, by decide, by decide +kernel⟩
theorem FX5_shorten : g_mf yX5_shorten cX5_shorten 2 none 1 := ⟨k13, k4, by decide, by decide, by decide +kernel⟩
theorem FX5_isLetter : g_mf yX5_isLetter cX5_isLetter 2 (some .boolean) 1 := ⟨k17, k4, by decide, by decide, by decide +kernel⟩
theorem FX5_isNamePart : g_mf yX5_isNamePart cX5_isNamePart 2 (some .boolean) 1 := ⟨k21, k4, by decide, by decide, by decide +kernel⟩
theorem FX5_holdsName : g_mf yX5_holdsName cX5_holdsName 2 (some .boolean) 0 := ⟨k25, k4, by decide, by decide, by decide +kernel⟩
theorem FX7_nameLength : g_mf yX7_nameLength cX7_nameLength 2 (some .int) 1 := ⟨k32, k33, by decide, by decide, by decide +kernel⟩
theorem FX7_nameByte : g_mf yX7_nameByte cX7_nameByte 4 (some .byte) 2 := ⟨k38, k33, by decide, by decide, by decide +kernel⟩
theorem FX7_isNameAt : g_mf yX7_isNameAt cX7_isNameAt 6 (some .boolean) 3 := ⟨k42, k33, by decide, by decide, by decide +kernel⟩
theorem FX7_find : g_mf yX7_find cX7_find 5 (some .int) 3 := ⟨k46, k33, by decide, by decide, by decide +kernel⟩
theorem FX5_heldSymbol : g_mf yX5_heldSymbol cX5_heldSymbol 1 (some .int) 0 := ⟨k50, k4, by decide, by decide, by decide +kernel⟩
theorem FX5_drain : g_mf yX5_drain cX5_drain 2 (some .int) 0 := ⟨k54, k4, by decide, by decide, by decide +kernel⟩
theorem FX7_isFull : g_mf yX7_isFull cX7_isFull 1 (some .boolean) 0 := ⟨k59, k33, by decide, by decide, by decide +kernel⟩
theorem FX5_bytes : g_mf yX5_bytes cX5_bytes 1 (some (.array .byte)) 0 := ⟨k62, k4, by decide, by decide, by decide +kernel⟩
theorem FX7_add : g_mf yX7_add cX7_add 7 (some .int) 4 := ⟨k71, k33, by decide, by decide, by decide +kernel⟩
theorem FX7_isOrderFixed : g_mf yX7_isOrderFixed cX7_isOrderFixed 1 (some .boolean) 0 := ⟨k76, k33, by decide, by decide, by decide +kernel⟩
theorem FX7_isByWeight : g_mf yX7_isByWeight cX7_isByWeight 1 (some .boolean) 0 := ⟨k81, k33, by decide, by decide, by decide +kernel⟩
theorem FX7_chooseOrder : g_mf yX7_chooseOrder cX7_chooseOrder 2 none 1 := ⟨k85, k33, by decide, by decide, by decide +kernel⟩
theorem FX7_has : g_mf yX7_has cX7_has 2 (some .boolean) 1 := ⟨k89, k33, by decide, by decide, by decide +kernel⟩
theorem FX7_rank : g_mf yX7_rank cX7_rank 2 (some .int) 1 := ⟨k93, k33, by decide, by decide, by decide +kernel⟩
theorem FX7_moveTo : g_mf yX7_moveTo cX7_moveTo 5 none 2 := ⟨k97, k33, by decide, by decide, by decide +kernel⟩
theorem FX7_isFromRight : g_mf yX7_isFromRight cX7_isFromRight 2 (some .boolean) 1 := ⟨k102, k33, by decide, by decide, by decide +kernel⟩
theorem FX7_direct : g_mf yX7_direct cX7_direct 3 none 2 := ⟨k106, k33, by decide, by decide, by decide +kernel⟩
theorem FX7_arity : g_mf yX7_arity cX7_arity 2 (some .int) 1 := ⟨k110, k33, by decide, by decide, by decide +kernel⟩
theorem FX11_isTerm : g_mf yX11_isTerm cX11_isTerm 2 (some .boolean) 1 := ⟨k115, k116, by decide, by decide, by decide +kernel⟩
theorem FX8_isCrowded : g_mf yX8_isCrowded cX8_isCrowded 1 (some .boolean) 0 := ⟨k123, k124, by decide, by decide, by decide +kernel⟩
theorem FX11_tidy : g_mf yX11_tidy cX11_tidy 2 none 0 := ⟨k128, k116, by decide, by decide, by decide +kernel⟩
theorem FX6_get : g_mf yX6_get cX6_get 3 (some .int) 1 := ⟨k133, k134, by decide, by decide, by decide +kernel⟩
theorem FX8_bucketOf : g_mf yX8_bucketOf cX8_bucketOf 6 (some .int) 4 := ⟨k140, k124, by decide, by decide, by decide +kernel⟩
theorem FX6_set : g_mf yX6_set cX6_set 4 none 2 := ⟨k152, k134, by decide, by decide, by decide +kernel⟩
theorem FX7_variableOrdinal : g_mf yX7_variableOrdinal cX7_variableOrdinal 2 (some .int) 1 := ⟨k157, k33, by decide, by decide, by decide +kernel⟩
theorem FX8_extentOver : g_mf yX8_extentOver cX8_extentOver 8 (some .int) 4 := ⟨k170, k124, by decide, by decide, by decide +kernel⟩
theorem FX8_keep : g_mf yX8_keep cX8_keep 8 (some .int) 5 := ⟨k174, k124, by decide, by decide, by decide +kernel⟩
theorem FX8_make : g_mf yX8_make cX8_make 9 (some .int) 4 := ⟨k178, k124, by decide, by decide, by decide +kernel⟩
theorem FX8_width : g_mf yX8_width cX8_width 2 (some .int) 1 := ⟨k182, k124, by decide, by decide, by decide +kernel⟩
theorem FX8_height : g_mf yX8_height cX8_height 2 (some .int) 1 := ⟨k186, k124, by decide, by decide, by decide +kernel⟩
theorem FX8_isTooLarge : g_mf yX8_isTooLarge cX8_isTooLarge 2 (some .boolean) 1 := ⟨k190, k124, by decide, by decide, by decide +kernel⟩
theorem FX8_number : g_mf yX8_number cX8_number 2 (some .int) 1 := ⟨k195, k124, by decide, by decide, by decide +kernel⟩
theorem FX8_setNumber : g_mf yX8_setNumber cX8_setNumber 3 none 2 := ⟨k199, k124, by decide, by decide, by decide +kernel⟩
theorem FX7_fixOrder : g_mf yX7_fixOrder cX7_fixOrder 1 none 0 := ⟨k204, k33, by decide, by decide, by decide +kernel⟩
theorem FX11_giveNumber : g_mf yX11_giveNumber cX11_giveNumber 3 (some .int) 1 := ⟨k208, k116, by decide, by decide, by decide +kernel⟩
theorem FX10_clear : g_mf yX10_clear cX10_clear 1 none 0 := ⟨k215, k216, by decide, by decide, by decide +kernel⟩
theorem FX10_indexOf : g_mf yX10_indexOf cX10_indexOf 3 (some .int) 1 := ⟨k223, k216, by decide, by decide, by decide +kernel⟩
theorem FX8_arity : g_mf yX8_arity cX8_arity 2 (some .int) 1 := ⟨k231, k124, by decide, by decide, by decide +kernel⟩
theorem FX8_part : g_mf yX8_part cX8_part 3 (some .int) 2 := ⟨k235, k124, by decide, by decide, by decide +kernel⟩
theorem FX10_firstUnlisted : g_mf yX10_firstUnlisted cX10_firstUnlisted 4 (some .int) 1 := ⟨k239, k216, by decide, by decide, by decide +kernel⟩
theorem FX10_append : g_mf yX10_append cX10_append 2 none 1 := ⟨k244, k216, by decide, by decide, by decide +kernel⟩
theorem FX10_add : g_mf yX10_add cX10_add 5 none 1 := ⟨k248, k216, by decide, by decide, by decide +kernel⟩
theorem FX10_count : g_mf yX10_count cX10_count 1 (some .int) 0 := ⟨k253, k216, by decide, by decide, by decide +kernel⟩
theorem FX2_clear : g_mf yX2_clear cX2_clear 2 none 1 := ⟨k259, k260, by decide, by decide, by decide +kernel⟩
theorem FX10_node : g_mf yX10_node cX10_node 2 (some .int) 1 := ⟨k264, k216, by decide, by decide, by decide +kernel⟩
theorem FX8_symbol : g_mf yX8_symbol cX8_symbol 2 (some .int) 1 := ⟨k268, k124, by decide, by decide, by decide +kernel⟩
theorem FX2_addProduction : g_mf yX2_addProduction cX2_addProduction 4 (some .int) 2 := ⟨k275, k260, by decide, by decide, by decide +kernel⟩
theorem FX2_arity : g_mf yX2_arity cX2_arity 2 (some .int) 1 := ⟨k282, k260, by decide, by decide, by decide +kernel⟩
theorem FX10_partOf : g_mf yX10_partOf cX10_partOf 3 (some .int) 2 := ⟨k286, k216, by decide, by decide, by decide +kernel⟩
theorem FX2_setPart : g_mf yX2_setPart cX2_setPart 4 none 3 := ⟨k291, k260, by decide, by decide, by decide +kernel⟩
theorem FX2_takeTerms : g_mf yX2_takeTerms cX2_takeTerms 6 none 2 := ⟨k295, k260, by decide, by decide, by decide +kernel⟩
theorem FX7_orderMode : g_mf yX7_orderMode cX7_orderMode 1 (some .int) 0 := ⟨k299, k33, by decide, by decide, by decide +kernel⟩
theorem FX2_linkUsers : g_mf yX2_linkUsers cX2_linkUsers 5 none 0 := ⟨k309, k260, by decide, by decide, by decide +kernel⟩
theorem FX7_weight : g_mf yX7_weight cX7_weight 2 (some .int) 1 := ⟨k314, k33, by decide, by decide, by decide +kernel⟩
theorem FX2_isBefore : g_mf yX2_isBefore cX2_isBefore 10 (some .boolean) 2 := ⟨k328, k260, by decide, by decide, by decide +kernel⟩
theorem FX2_enter : g_mf yX2_enter cX2_enter 8 none 1 := ⟨k332, k260, by decide, by decide, by decide +kernel⟩
theorem FX2_takeLeast : g_mf yX2_takeLeast cX2_takeLeast 6 (some .int) 0 := ⟨k336, k260, by decide, by decide, by decide +kernel⟩
theorem FX2_isReadyAfter : g_mf yX2_isReadyAfter cX2_isReadyAfter 3 (some .boolean) 1 := ⟨k341, k260, by decide, by decide, by decide +kernel⟩
theorem FX2_rank : g_mf yX2_rank cX2_rank 7 none 1 := ⟨k345, k260, by decide, by decide, by decide +kernel⟩
theorem FX2_position : g_mf yX2_position cX2_position 2 (some .int) 1 := ⟨k350, k260, by decide, by decide, by decide +kernel⟩
theorem FX8_isGround : g_mf yX8_isGround cX8_isGround 2 (some .boolean) 1 := ⟨k354, k124, by decide, by decide, by decide +kernel⟩
theorem FX9_addEquation : g_mf yX9_addEquation cX9_addEquation 3 none 2 := ⟨k363, k364, by decide, by decide, by decide +kernel⟩
theorem FX1_start : g_mf yX1_start cX1_start 3 none 0 := ⟨k385, k386, by decide, by decide, by decide +kernel⟩
theorem FX1_join : g_mf yX1_join cX1_join 7 none 2 := ⟨k392, k386, by decide, by decide, by decide +kernel⟩
theorem FX9_gather : g_mf yX9_gather cX9_gather 5 none 3 := ⟨k396, k364, by decide, by decide, by decide +kernel⟩
theorem FX1_bucketOf : g_mf yX1_bucketOf cX1_bucketOf 4 (some .int) 1 := ⟨k402, k386, by decide, by decide, by decide +kernel⟩
theorem FX1_areTwins : g_mf yX1_areTwins cX1_areTwins 5 (some .boolean) 2 := ⟨k406, k386, by decide, by decide, by decide +kernel⟩
theorem FX1_joinTwins : g_mf yX1_joinTwins cX1_joinTwins 6 (some .boolean) 0 := ⟨k413, k386, by decide, by decide, by decide +kernel⟩
theorem FX1_close : g_mf yX1_close cX1_close 2 none 0 := ⟨k417, k386, by decide, by decide, by decide +kernel⟩
theorem FX1_pourInto : g_mf yX1_pourInto cX1_pourInto 5 none 1 := ⟨k426, k386, by decide, by decide, by decide +kernel⟩
theorem FX2_sequenceCount : g_mf yX2_sequenceCount cX2_sequenceCount 1 (some .int) 0 := ⟨k433, k260, by decide, by decide, by decide +kernel⟩
theorem FX2_ranked : g_mf yX2_ranked cX2_ranked 2 (some .int) 1 := ⟨k437, k260, by decide, by decide, by decide +kernel⟩
theorem FX2_owner : g_mf yX2_owner cX2_owner 2 (some .int) 1 := ⟨k441, k260, by decide, by decide, by decide +kernel⟩
theorem FX2_choice : g_mf yX2_choice cX2_choice 2 (some .int) 1 := ⟨k445, k260, by decide, by decide, by decide +kernel⟩
theorem FX2_termSize : g_mf yX2_termSize cX2_termSize 2 (some .int) 1 := ⟨k449, k260, by decide, by decide, by decide +kernel⟩
theorem FX2_termDepth : g_mf yX2_termDepth cX2_termDepth 2 (some .int) 1 := ⟨k453, k260, by decide, by decide, by decide +kernel⟩
theorem FX9_isTooLargeSide : g_mf yX9_isTooLargeSide cX9_isTooLargeSide 2 (some .boolean) 1 := ⟨k457, k364, by decide, by decide, by decide +kernel⟩
theorem FX2_dropNeeds : g_mf yX2_dropNeeds cX2_dropNeeds 2 none 0 := ⟨k461, k260, by decide, by decide, by decide +kernel⟩
theorem FX2_need : g_mf yX2_need cX2_need 2 none 1 := ⟨k465, k260, by decide, by decide, by decide +kernel⟩
theorem FX2_needParts : g_mf yX2_needParts cX2_needParts 3 none 1 := ⟨k469, k260, by decide, by decide, by decide +kernel⟩
theorem FX2_isNeeded : g_mf yX2_isNeeded cX2_isNeeded 3 (some .boolean) 1 := ⟨k473, k260, by decide, by decide, by decide +kernel⟩
theorem FX2_spreadNeeds : g_mf yX2_spreadNeeds cX2_spreadNeeds 3 none 0 := ⟨k478, k260, by decide, by decide, by decide +kernel⟩
theorem FX2_makeTerm : g_mf yX2_makeTerm cX2_makeTerm 8 (some .int) 2 := ⟨k487, k260, by decide, by decide, by decide +kernel⟩
theorem FX2_leastTerm : g_mf yX2_leastTerm cX2_leastTerm 2 (some .int) 1 := ⟨k491, k260, by decide, by decide, by decide +kernel⟩
theorem FX9_addRule : g_mf yX9_addRule cX9_addRule 3 none 2 := ⟨k499, k364, by decide, by decide, by decide +kernel⟩
theorem FX2_setLeastTerm : g_mf yX2_setLeastTerm cX2_setLeastTerm 3 none 2 := ⟨k503, k260, by decide, by decide, by decide +kernel⟩
theorem FX9_takeRules : g_mf yX9_takeRules cX9_takeRules 4 none 0 := ⟨k507, k364, by decide, by decide, by decide +kernel⟩
theorem FX9_complete : g_mf yX9_complete cX9_complete 4 (some .boolean) 0 := ⟨k511, k364, by decide, by decide, by decide +kernel⟩
theorem FX9_goBack : g_mf yX9_goBack cX9_goBack 3 none 2 := ⟨k517, k364, by decide, by decide, by decide +kernel⟩
theorem FX9_openLevel : g_mf yX9_openLevel cX9_openLevel 1 none 0 := ⟨k527, k364, by decide, by decide, by decide +kernel⟩
theorem FX9_closeLevel : g_mf yX9_closeLevel cX9_closeLevel 1 none 0 := ⟨k532, k364, by decide, by decide, by decide +kernel⟩
theorem FX10_rebuild : g_mf yX10_rebuild cX10_rebuild 7 (some .int) 1 := ⟨k543, k216, by decide, by decide, by decide +kernel⟩
theorem FX9_ruleFor : g_mf yX9_ruleFor cX9_ruleFor 3 (some .int) 1 := ⟨k548, k364, by decide, by decide, by decide +kernel⟩
theorem FX9_rightSide : g_mf yX9_rightSide cX9_rightSide 2 (some .int) 1 := ⟨k552, k364, by decide, by decide, by decide +kernel⟩
theorem FX10_value : g_mf yX10_value cX10_value 2 (some .int) 1 := ⟨k556, k216, by decide, by decide, by decide +kernel⟩
theorem FX10_setValue : g_mf yX10_setValue cX10_setValue 3 none 2 := ⟨k560, k216, by decide, by decide, by decide +kernel⟩
theorem FX10_sumOfParts : g_mf yX10_sumOfParts cX10_sumOfParts 4 (some .int) 1 := ⟨k565, k216, by decide, by decide, by decide +kernel⟩
theorem FX10_setTally : g_mf yX10_setTally cX10_setTally 3 none 2 := ⟨k569, k216, by decide, by decide, by decide +kernel⟩
theorem FX9_normalize : g_mf yX9_normalize cX9_normalize 5 (some .int) 1 := ⟨k573, k364, by decide, by decide, by decide +kernel⟩
theorem FX9_makesEqual : g_mf yX9_makesEqual cX9_makesEqual 3 (some .boolean) 2 := ⟨k578, k364, by decide, by decide, by decide +kernel⟩
theorem FX10_tally : g_mf yX10_tally cX10_tally 2 (some .int) 1 := ⟨k582, k216, by decide, by decide, by decide +kernel⟩
theorem FX9_countSteps : g_mf yX9_countSteps cX9_countSteps 2 (some .int) 1 := ⟨k586, k364, by decide, by decide, by decide +kernel⟩
theorem FX11_feed : g_mf yX11_feed cX11_feed 6 (some .int) 5 := ⟨k592, k116, by decide, by decide, by decide +kernel⟩
theorem FX11_trim : g_mf yX11_trim cX11_trim 2 (some .int) 1 := ⟨k596, k116, by decide, by decide, by decide +kernel⟩
theorem FX11_declare : g_mf yX11_declare cX11_declare 6 (some .int) 2 := ⟨k600, k116, by decide, by decide, by decide +kernel⟩
theorem FL_below : g_mf yL_below cL_below 2 (some .int) 2 := ⟨k604, k605, by decide, by decide, by decide +kernel⟩
theorem FL_declare : g_mf yL_declare cL_declare 5 (some .int) 4 := ⟨k608, k605, by decide, by decide, by decide +kernel⟩
theorem FX11_orderByWeight : g_mf yX11_orderByWeight cX11_orderByWeight 3 (some .boolean) 1 := ⟨k611, k116, by decide, by decide, by decide +kernel⟩
theorem FX11_setDirection : g_mf yX11_setDirection cX11_setDirection 4 (some .boolean) 2 := ⟨k615, k116, by decide, by decide, by decide +kernel⟩
theorem FX11_promote : g_mf yX11_promote cX11_promote 4 (some .int) 2 := ⟨k619, k116, by decide, by decide, by decide +kernel⟩
theorem FX11_rankOf : g_mf yX11_rankOf cX11_rankOf 2 (some .int) 1 := ⟨k623, k116, by decide, by decide, by decide +kernel⟩
theorem FL_cell : g_mf yL_cell cL_cell 2 (some .int) 2 := ⟨k627, k605, by decide, by decide, by decide +kernel⟩
theorem FX11_size : g_mf yX11_size cX11_size 2 (some .int) 1 := ⟨k631, k116, by decide, by decide, by decide +kernel⟩
theorem FX11_term : g_mf yX11_term cX11_term 7 (some .int) 4 := ⟨k635, k116, by decide, by decide, by decide +kernel⟩
theorem FX11_equate : g_mf yX11_equate cX11_equate 3 (some .int) 2 := ⟨k639, k116, by decide, by decide, by decide +kernel⟩
theorem FX11_normalForm : g_mf yX11_normalForm cX11_normalForm 3 (some .int) 1 := ⟨k644, k116, by decide, by decide, by decide +kernel⟩
theorem FL_unite : g_mf yL_unite cL_unite 4 none 3 := ⟨k648, k605, by decide, by decide, by decide +kernel⟩
theorem FX11_pop : g_mf yX11_pop cX11_pop 1 (some .int) 0 := ⟨k651, k116, by decide, by decide, by decide +kernel⟩
theorem FL_build : g_mf yL_build cL_build 10 none 6 := ⟨k656, k605, by decide, by decide, by decide +kernel⟩
theorem FX11_push : g_mf yX11_push cX11_push 1 (some .int) 0 := ⟨k659, k116, by decide, by decide, by decide +kernel⟩
theorem FX11_equationCount : g_mf yX11_equationCount cX11_equationCount 1 (some .int) 0 := ⟨k663, k116, by decide, by decide, by decide +kernel⟩
theorem FL_close : g_mf yL_close cL_close 13 none 8 := ⟨k667, k605, by decide, by decide, by decide +kernel⟩
theorem FL_pop : Cond.codeWith yL_pop cL_pop 2 (some .int) [(0, 4, 5, 66)] ∈ gW ∧ Cond.initialized yL_pop.cls ∈ gW ∧ (yL_pop.cls ≠ "java/lang/invoke/MethodHandle" ∧ yL_pop.cls ≠ "java/lang/invoke/VarHandle" ∧ (parseMethodDescriptor yL_pop.desc).map (fun d => d.parameters.length) = some 1) := ⟨k670, k605, by decide, by decide, by decide +kernel⟩
theorem FL_equate : Cond.codeWith yL_equate cL_equate 4 (some .int) [(0, 6, 7, 64), (0, 6, 10, 66)] ∈ gW ∧ Cond.initialized yL_equate.cls ∈ gW ∧ (yL_equate.cls ≠ "java/lang/invoke/MethodHandle" ∧ yL_equate.cls ≠ "java/lang/invoke/VarHandle" ∧ (parseMethodDescriptor yL_equate.desc).map (fun d => d.parameters.length) = some 3) := ⟨k673, k605, by decide, by decide, by decide +kernel⟩
theorem FL_normal : Cond.codeWith yL_normal cL_normal 3 (some .int) [(0, 5, 6, 64)] ∈ gW ∧ Cond.initialized yL_normal.cls ∈ gW ∧ (yL_normal.cls ≠ "java/lang/invoke/MethodHandle" ∧ yL_normal.cls ≠ "java/lang/invoke/VarHandle" ∧ (parseMethodDescriptor yL_normal.desc).map (fun d => d.parameters.length) = some 2) := ⟨k676, k605, by decide, by decide, by decide +kernel⟩
theorem FX11_areEqual : g_mf yX11_areEqual cX11_areEqual 3 (some .boolean) 2 := ⟨k679, k116, by decide, by decide, by decide +kernel⟩
theorem FX11_compare : g_mf yX11_compare cX11_compare 5 (some .int) 2 := ⟨k683, k116, by decide, by decide, by decide +kernel⟩
theorem FX11_stepCount : g_mf yX11_stepCount cX11_stepCount 2 (some .int) 1 := ⟨k687, k116, by decide, by decide, by decide +kernel⟩
theorem FX7_init : g_mf yX7_init cX7_init 1 none 0 := ⟨k698, k33, by decide, by decide, by decide +kernel⟩
theorem FX6_init : g_mf yX6_init cX6_init 2 none 1 := ⟨k710, k134, by decide, by decide, by decide +kernel⟩
theorem FX8_init : g_mf yX8_init cX8_init 2 none 1 := ⟨k716, k124, by decide, by decide, by decide +kernel⟩
theorem FX10_init : g_mf yX10_init cX10_init 2 none 1 := ⟨k726, k216, by decide, by decide, by decide +kernel⟩
theorem FX2_init : g_mf yX2_init cX2_init 2 none 1 := ⟨k736, k260, by decide, by decide, by decide +kernel⟩
theorem FX1_init : g_mf yX1_init cX1_init 3 none 2 := ⟨k754, k386, by decide, by decide, by decide +kernel⟩
theorem FX9_init : g_mf yX9_init cX9_init 5 none 4 := ⟨k757, k364, by decide, by decide, by decide +kernel⟩
theorem FX5_init : g_mf yX5_init cX5_init 3 none 2 := ⟨k772, k4, by decide, by decide, by decide +kernel⟩
theorem FX4_init : g_mf yX4_init cX4_init 4 none 3 := ⟨k783, k776, by decide, by decide, by decide +kernel⟩
theorem FX0_init : g_mf yX0_init cX0_init 5 none 4 := ⟨k796, k788, by decide, by decide, by decide +kernel⟩
theorem FX3_init : g_mf yX3_init cX3_init 5 none 4 := ⟨k816, k801, by decide, by decide, by decide +kernel⟩
theorem FX11_init : g_mf yX11_init cX11_init 1 none 0 := ⟨k823, k116, by decide, by decide, by decide +kernel⟩
theorem FL_setUp : g_mf yL_setUp cL_setUp 5 (some .boolean) 2 := ⟨k827, k605, by decide, by decide, by decide +kernel⟩
theorem GX5_length : g_mv yX5_length := ⟨k5, k6⟩
theorem GX5_append : g_mv yX5_append := ⟨k10, k11⟩
theorem GX5_shorten : g_mv yX5_shorten := ⟨k14, k15⟩
theorem GX5_isLetter : g_mv yX5_isLetter := ⟨k18, k19⟩
theorem GX5_isNamePart : g_mv yX5_isNamePart := ⟨k22, k23⟩
theorem GX5_holdsName : g_mv yX5_holdsName := ⟨k26, k27⟩
theorem GX7_nameLength : g_mv yX7_nameLength := ⟨k34, k35⟩
theorem GX7_nameByte : g_mv yX7_nameByte := ⟨k39, k40⟩
theorem GX7_isNameAt : g_mv yX7_isNameAt := ⟨k43, k44⟩
theorem GX7_find : g_mv yX7_find := ⟨k47, k48⟩
theorem GX5_heldSymbol : g_mv yX5_heldSymbol := ⟨k51, k52⟩
theorem GX5_drain : g_mv yX5_drain := ⟨k55, k56⟩
theorem GX7_isFull : g_mv yX7_isFull := ⟨k60, k61⟩
theorem GX5_bytes : g_mv yX5_bytes := ⟨k63, k64⟩
theorem GX7_add : g_mv yX7_add := ⟨k72, k73⟩
theorem GX7_isOrderFixed : g_mv yX7_isOrderFixed := ⟨k77, k78⟩
theorem GX7_isByWeight : g_mv yX7_isByWeight := ⟨k82, k83⟩
theorem GX7_chooseOrder : g_mv yX7_chooseOrder := ⟨k86, k87⟩
theorem GX7_has : g_mv yX7_has := ⟨k90, k91⟩
theorem GX7_rank : g_mv yX7_rank := ⟨k94, k95⟩
theorem GX7_moveTo : g_mv yX7_moveTo := ⟨k98, k99⟩
theorem GX7_isFromRight : g_mv yX7_isFromRight := ⟨k103, k104⟩
theorem GX7_direct : g_mv yX7_direct := ⟨k107, k108⟩
theorem GX7_arity : g_mv yX7_arity := ⟨k111, k112⟩
theorem GX11_isTerm : g_mv yX11_isTerm := ⟨k117, k118⟩
theorem GX8_isCrowded : g_mv yX8_isCrowded := ⟨k125, k126⟩
theorem GX11_tidy : g_mv yX11_tidy := ⟨k129, k130⟩
theorem GX6_get : g_mv yX6_get := ⟨k135, k136⟩
theorem GX8_bucketOf : g_mv yX8_bucketOf := ⟨k141, k142⟩
theorem GX6_set : g_mv yX6_set := ⟨k153, k154⟩
theorem GX7_variableOrdinal : g_mv yX7_variableOrdinal := ⟨k158, k159⟩
theorem GX8_extentOver : g_mv yX8_extentOver := ⟨k171, k172⟩
theorem GX8_keep : g_mv yX8_keep := ⟨k175, k176⟩
theorem GX8_make : g_mv yX8_make := ⟨k179, k180⟩
theorem GX8_width : g_mv yX8_width := ⟨k183, k184⟩
theorem GX8_height : g_mv yX8_height := ⟨k187, k188⟩
theorem GX8_isTooLarge : g_mv yX8_isTooLarge := ⟨k191, k192⟩
theorem GX8_number : g_mv yX8_number := ⟨k196, k197⟩
theorem GX8_setNumber : g_mv yX8_setNumber := ⟨k200, k201⟩
theorem GX7_fixOrder : g_mv yX7_fixOrder := ⟨k205, k206⟩
theorem GX11_giveNumber : g_mv yX11_giveNumber := ⟨k209, k210⟩
theorem GX10_clear : g_mv yX10_clear := ⟨k217, k218⟩
theorem GX10_indexOf : g_mv yX10_indexOf := ⟨k224, k225⟩
theorem GX8_arity : g_mv yX8_arity := ⟨k232, k233⟩
theorem GX8_part : g_mv yX8_part := ⟨k236, k237⟩
theorem GX10_firstUnlisted : g_mv yX10_firstUnlisted := ⟨k240, k241⟩
theorem GX10_append : g_mv yX10_append := ⟨k245, k246⟩
theorem GX10_add : g_mv yX10_add := ⟨k249, k250⟩
theorem GX10_count : g_mv yX10_count := ⟨k254, k255⟩
theorem GX2_clear : g_mv yX2_clear := ⟨k261, k262⟩
theorem GX10_node : g_mv yX10_node := ⟨k265, k266⟩
theorem GX8_symbol : g_mv yX8_symbol := ⟨k269, k270⟩
theorem GX2_addProduction : g_mv yX2_addProduction := ⟨k276, k277⟩
theorem GX2_arity : g_mv yX2_arity := ⟨k283, k284⟩
theorem GX10_partOf : g_mv yX10_partOf := ⟨k287, k288⟩
theorem GX2_setPart : g_mv yX2_setPart := ⟨k292, k293⟩
theorem GX2_takeTerms : g_mv yX2_takeTerms := ⟨k296, k297⟩
theorem GX7_orderMode : g_mv yX7_orderMode := ⟨k300, k301⟩
theorem GX2_linkUsers : g_mv yX2_linkUsers := ⟨k310, k311⟩
theorem GX7_weight : g_mv yX7_weight := ⟨k315, k316⟩
theorem GX2_isBefore : g_mv yX2_isBefore := ⟨k329, k330⟩
theorem GX2_enter : g_mv yX2_enter := ⟨k333, k334⟩
theorem GX2_takeLeast : g_mv yX2_takeLeast := ⟨k337, k338⟩
theorem GX2_isReadyAfter : g_mv yX2_isReadyAfter := ⟨k342, k343⟩
theorem GX2_rank : g_mv yX2_rank := ⟨k346, k347⟩
theorem GX2_position : g_mv yX2_position := ⟨k351, k352⟩
theorem GX8_isGround : g_mv yX8_isGround := ⟨k355, k356⟩
theorem GX9_addEquation : g_mv yX9_addEquation := ⟨k365, k366⟩
theorem GX1_start : g_mv yX1_start := ⟨k387, k388⟩
theorem GX1_join : g_mv yX1_join := ⟨k393, k394⟩
theorem GX9_gather : g_mv yX9_gather := ⟨k397, k398⟩
theorem GX1_bucketOf : g_mv yX1_bucketOf := ⟨k403, k404⟩
theorem GX1_areTwins : g_mv yX1_areTwins := ⟨k407, k408⟩
theorem GX1_joinTwins : g_mv yX1_joinTwins := ⟨k414, k415⟩
theorem GX1_close : g_mv yX1_close := ⟨k418, k419⟩
theorem GX1_pourInto : g_mv yX1_pourInto := ⟨k427, k428⟩
theorem GX2_sequenceCount : g_mv yX2_sequenceCount := ⟨k434, k435⟩
theorem GX2_ranked : g_mv yX2_ranked := ⟨k438, k439⟩
theorem GX2_owner : g_mv yX2_owner := ⟨k442, k443⟩
theorem GX2_choice : g_mv yX2_choice := ⟨k446, k447⟩
theorem GX2_termSize : g_mv yX2_termSize := ⟨k450, k451⟩
theorem GX2_termDepth : g_mv yX2_termDepth := ⟨k454, k455⟩
theorem GX9_isTooLargeSide : g_mv yX9_isTooLargeSide := ⟨k458, k459⟩
theorem GX2_dropNeeds : g_mv yX2_dropNeeds := ⟨k462, k463⟩
theorem GX2_need : g_mv yX2_need := ⟨k466, k467⟩
theorem GX2_needParts : g_mv yX2_needParts := ⟨k470, k471⟩
theorem GX2_isNeeded : g_mv yX2_isNeeded := ⟨k474, k475⟩
theorem GX2_spreadNeeds : g_mv yX2_spreadNeeds := ⟨k479, k480⟩
theorem GX2_makeTerm : g_mv yX2_makeTerm := ⟨k488, k489⟩
theorem GX2_leastTerm : g_mv yX2_leastTerm := ⟨k492, k493⟩
theorem GX9_addRule : g_mv yX9_addRule := ⟨k500, k501⟩
theorem GX2_setLeastTerm : g_mv yX2_setLeastTerm := ⟨k504, k505⟩
theorem GX9_takeRules : g_mv yX9_takeRules := ⟨k508, k509⟩
theorem GX9_complete : g_mv yX9_complete := ⟨k512, k513⟩
theorem GX9_goBack : g_mv yX9_goBack := ⟨k518, k519⟩
theorem GX9_openLevel : g_mv yX9_openLevel := ⟨k528, k529⟩
theorem GX9_closeLevel : g_mv yX9_closeLevel := ⟨k533, k534⟩
theorem GX10_rebuild : g_mv yX10_rebuild := ⟨k544, k545⟩
theorem GX9_ruleFor : g_mv yX9_ruleFor := ⟨k549, k550⟩
theorem GX9_rightSide : g_mv yX9_rightSide := ⟨k553, k554⟩
theorem GX10_value : g_mv yX10_value := ⟨k557, k558⟩
theorem GX10_setValue : g_mv yX10_setValue := ⟨k561, k562⟩
theorem GX10_sumOfParts : g_mv yX10_sumOfParts := ⟨k566, k567⟩
theorem GX10_setTally : g_mv yX10_setTally := ⟨k570, k571⟩
theorem GX9_normalize : g_mv yX9_normalize := ⟨k574, k575⟩
theorem GX9_makesEqual : g_mv yX9_makesEqual := ⟨k579, k580⟩
theorem GX10_tally : g_mv yX10_tally := ⟨k583, k584⟩
theorem GX9_countSteps : g_mv yX9_countSteps := ⟨k587, k588⟩
theorem GX11_feed : g_mv yX11_feed := ⟨k593, k594⟩
theorem GX11_trim : g_mv yX11_trim := ⟨k597, k598⟩
theorem GX11_declare : g_mv yX11_declare := ⟨k601, k602⟩
theorem GX11_orderByWeight : g_mv yX11_orderByWeight := ⟨k612, k613⟩
theorem GX11_setDirection : g_mv yX11_setDirection := ⟨k616, k617⟩
theorem GX11_promote : g_mv yX11_promote := ⟨k620, k621⟩
theorem GX11_rankOf : g_mv yX11_rankOf := ⟨k624, k625⟩
theorem GX11_size : g_mv yX11_size := ⟨k632, k633⟩
theorem GX11_term : g_mv yX11_term := ⟨k636, k637⟩
theorem GX11_equate : g_mv yX11_equate := ⟨k640, k641⟩
theorem GX11_normalForm : g_mv yX11_normalForm := ⟨k645, k646⟩
theorem GX11_pop : g_mv yX11_pop := ⟨k652, k653⟩
theorem GX11_push : g_mv yX11_push := ⟨k660, k661⟩
theorem GX11_equationCount : g_mv yX11_equationCount := ⟨k664, k665⟩
theorem GX11_areEqual : g_mv yX11_areEqual := ⟨k680, k681⟩
theorem GX11_compare : g_mv yX11_compare := ⟨k684, k685⟩
theorem GX11_stepCount : g_mv yX11_stepCount := ⟨k688, k689⟩
