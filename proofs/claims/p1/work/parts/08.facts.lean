theorem EX0 : g_cf RX0 TX0 5 tyX0 := ⟨inW0, tyX0_ok, nmX0⟩
set_option maxRecDepth 100000 in
theorem zX0 : ∀ j, j < 5 → defaultValue (tyX0 j) = vp_V [.null, .null, .null, .null, .null] j := (lt_s (lt_s (lt_s (lt_s (lt_s lt_0 rfl) rfl) rfl) rfl) rfl)
theorem pn_X0 : plainName RX0 = true := by decide +kernel
theorem EX1 : g_cf RX1 TX1 11 tyX1 := ⟨inW1, tyX1_ok, nmX1⟩
set_option maxRecDepth 100000 in
theorem zX1 : ∀ j, j < 11 → defaultValue (tyX1 j) = vp_V [.null, .null, .null, .null, .null, .null, .null, .null, .null, .null, .int 0] j := (lt_s (lt_s (lt_s (lt_s (lt_s (lt_s (lt_s (lt_s (lt_s (lt_s (lt_s lt_0 rfl) rfl) rfl) rfl) rfl) rfl) rfl) rfl) rfl) rfl) rfl)
theorem pn_X1 : plainName RX1 = true := by decide +kernel
theorem EX2 : g_cf RX2 TX2 20 tyX2 := ⟨inW2, tyX2_ok, nmX2⟩
set_option maxRecDepth 100000 in
theorem zX2 : ∀ j, j < 20 → defaultValue (tyX2 j) = vp_V [.null, .null, .null, .null, .null, .null, .null, .null, .null, .null, .null, .null, .null, .null, .null, .int 0, .int 0, .int 0, .int 0, .int 0] j := (lt_s (lt_s (lt_s (lt_s (lt_s (lt_s (lt_s (lt_s (lt_s (lt_s (lt_s (lt_s (lt_s (lt_s (lt_s (lt_s (lt_s (lt_s (lt_s (lt_s lt_0 rfl) rfl) rfl) rfl) rfl) rfl) rfl) rfl) rfl) rfl) rfl) rfl) rfl) rfl) rfl) rfl) rfl) rfl) rfl) rfl)
theorem pn_X2 : plainName RX2 = true := by decide +kernel
theorem EX3 : g_cf RX3 TX3 15 tyX3 := ⟨inW3, tyX3_ok, nmX3⟩
set_option maxRecDepth 100000 in
theorem zX3 : ∀ j, j < 15 → defaultValue (tyX3 j) = vp_V [.null, .null, .null, .null, .null, .int 0, .int 0, .null, .int 0, .int 0, .null, .null, .null, .int 0, .null] j := (lt_s (lt_s (lt_s (lt_s (lt_s (lt_s (lt_s (lt_s (lt_s (lt_s (lt_s (lt_s (lt_s (lt_s (lt_s lt_0 rfl) rfl) rfl) rfl) rfl) rfl) rfl) rfl) rfl) rfl) rfl) rfl) rfl) rfl) rfl)
theorem pn_X3 : plainName RX3 = true := by decide +kernel
theorem EX4 : g_cf RX4 TX4 5 tyX4 := ⟨inW4, tyX4_ok, nmX4⟩
set_option maxRecDepth 100000 in
theorem zX4 : ∀ j, j < 5 → defaultValue (tyX4 j) = vp_V [.null, .null, .null, .null, .int 0] j := (lt_s (lt_s (lt_s (lt_s (lt_s lt_0 rfl) rfl) rfl) rfl) rfl)
theorem pn_X4 : plainName RX4 = true := by decide +kernel
theorem EX5 : g_cf RX5 TX5 19 tyX5 := ⟨inW5, tyX5_ok, nmX5⟩
set_option maxRecDepth 100000 in
theorem zX5 : ∀ j, j < 19 → defaultValue (tyX5 j) = vp_V [.null, .null, .null, .int 0, .int 0, .int 0, .int 0, .int 0, .int 0, .int 0, .null, .null, .null, .null, .int 0, .null, .null, .null, .int 0] j := (lt_s (lt_s (lt_s (lt_s (lt_s (lt_s (lt_s (lt_s (lt_s (lt_s (lt_s (lt_s (lt_s (lt_s (lt_s (lt_s (lt_s (lt_s (lt_s lt_0 rfl) rfl) rfl) rfl) rfl) rfl) rfl) rfl) rfl) rfl) rfl) rfl) rfl) rfl) rfl) rfl) rfl) rfl) rfl)
theorem pn_X5 : plainName RX5 = true := by decide +kernel
theorem EX6 : g_cf RX6 TX6 1 tyX6 := ⟨inW6, tyX6_ok, nmX6⟩
set_option maxRecDepth 100000 in
theorem zX6 : ∀ j, j < 1 → defaultValue (tyX6 j) = vp_V [.null] j := (lt_s lt_0 rfl)
theorem pn_X6 : plainName RX6 = true := by decide +kernel
theorem EX7 : g_cf RX7 TX7 11 tyX7 := ⟨inW7, tyX7_ok, nmX7⟩
set_option maxRecDepth 100000 in
theorem zX7 : ∀ j, j < 11 → defaultValue (tyX7 j) = vp_V [.null, .null, .null, .null, .null, .null, .null, .int 0, .int 0, .int 0, .int 0] j := (lt_s (lt_s (lt_s (lt_s (lt_s (lt_s (lt_s (lt_s (lt_s (lt_s (lt_s lt_0 rfl) rfl) rfl) rfl) rfl) rfl) rfl) rfl) rfl) rfl) rfl)
theorem pn_X7 : plainName RX7 = true := by decide +kernel
theorem EX8 : g_cf RX8 TX8 13 tyX8 := ⟨inW8, tyX8_ok, nmX8⟩
set_option maxRecDepth 100000 in
theorem zX8 : ∀ j, j < 13 → defaultValue (tyX8 j) = vp_V [.null, .null, .null, .null, .null, .null, .null, .null, .int 0, .int 0, .int 0, .int 0, .int 0] j := (lt_s (lt_s (lt_s (lt_s (lt_s (lt_s (lt_s (lt_s (lt_s (lt_s (lt_s (lt_s (lt_s lt_0 rfl) rfl) rfl) rfl) rfl) rfl) rfl) rfl) rfl) rfl) rfl) rfl) rfl)
theorem pn_X8 : plainName RX8 = true := by decide +kernel
theorem EX9 : g_cf RX9 TX9 18 tyX9 := ⟨inW9, tyX9_ok, nmX9⟩
set_option maxRecDepth 100000 in
theorem zX9 : ∀ j, j < 18 → defaultValue (tyX9 j) = vp_V [.null, .null, .null, .null, .null, .null, .null, .int 0, .null, .null, .int 0, .null, .null, .int 0, .null, .null, .null, .int 0] j := (lt_s (lt_s (lt_s (lt_s (lt_s (lt_s (lt_s (lt_s (lt_s (lt_s (lt_s (lt_s (lt_s (lt_s (lt_s (lt_s (lt_s (lt_s lt_0 rfl) rfl) rfl) rfl) rfl) rfl) rfl) rfl) rfl) rfl) rfl) rfl) rfl) rfl) rfl) rfl) rfl) rfl)
theorem pn_X9 : plainName RX9 = true := by decide +kernel
theorem EX10 : g_cf RX10 TX10 7 tyX10 := ⟨inW10, tyX10_ok, nmX10⟩
set_option maxRecDepth 100000 in
theorem zX10 : ∀ j, j < 7 → defaultValue (tyX10 j) = vp_V [.null, .null, .null, .null, .null, .null, .int 0] j := (lt_s (lt_s (lt_s (lt_s (lt_s (lt_s (lt_s lt_0 rfl) rfl) rfl) rfl) rfl) rfl) rfl)
theorem pn_X10 : plainName RX10 = true := by decide +kernel
theorem EX11 : g_cf RX11 TX11 11 tyX11 := ⟨inW11, tyX11_ok, nmX11⟩
set_option maxRecDepth 100000 in
theorem zX11 : ∀ j, j < 11 → defaultValue (tyX11 j) = vp_V [.null, .null, .null, .null, .null, .null, .null, .null, .null, .null, .int 0] j := (lt_s (lt_s (lt_s (lt_s (lt_s (lt_s (lt_s (lt_s (lt_s (lt_s (lt_s lt_0 rfl) rfl) rfl) rfl) rfl) rfl) rfl) rfl) rfl) rfl) rfl)
theorem pn_X11 : plainName RX11 = true := by decide +kernel
theorem EX12 : g_cf RX12 TX12 92 tyX12 := ⟨inW12, tyX12_ok, nmX12⟩
set_option maxRecDepth 100000 in
theorem zX12 : ∀ j, j < 92 → defaultValue (tyX12 j) = vp_V [.int 0, .int 0, .int 0, .null, .null, .null, .null, .null, .null, .null, .int 0, .int 0, .null, .int 0, .null, .int 0, .int 0, .int 0, .int 0, .int 0, .null, .null, .null, .null, .null, .null, .null, .null, .int 0, .null, .null, .int 0, .null, .null, .null, .null, .null, .null, .null, .int 0, .null, .int 0, .null, .int 0, .null, .int 0, .null, .int 0, .null, .null, .null, .null, .int 0, .null, .null, .int 0, .null, .null, .null, .null, .null, .int 0, .null, .null, .null, .int 0, .null, .null, .int 0, .null, .int 0, .null, .int 0, .null, .int 0, .null, .int 0, .null, .null, .int 0, .null, .null, .int 0, .int 0, .null, .null, .null, .null, .int 0, .null, .int 0, .null] j := (lt_s (lt_s (lt_s (lt_s (lt_s (lt_s (lt_s (lt_s (lt_s (lt_s (lt_s (lt_s (lt_s (lt_s (lt_s (lt_s (lt_s (lt_s (lt_s (lt_s (lt_s (lt_s (lt_s (lt_s (lt_s (lt_s (lt_s (lt_s (lt_s (lt_s (lt_s (lt_s (lt_s (lt_s (lt_s (lt_s (lt_s (lt_s (lt_s (lt_s (lt_s (lt_s (lt_s (lt_s (lt_s (lt_s (lt_s (lt_s (lt_s (lt_s (lt_s (lt_s (lt_s (lt_s (lt_s (lt_s (lt_s (lt_s (lt_s (lt_s (lt_s (lt_s (lt_s (lt_s (lt_s (lt_s (lt_s (lt_s (lt_s (lt_s (lt_s (lt_s (lt_s (lt_s (lt_s (lt_s (lt_s (lt_s (lt_s (lt_s (lt_s (lt_s (lt_s (lt_s (lt_s (lt_s (lt_s (lt_s (lt_s (lt_s (lt_s (lt_s lt_0 rfl) rfl) rfl) rfl) rfl) rfl) rfl) rfl) rfl) rfl) rfl) rfl) rfl) rfl) rfl) rfl) rfl) rfl) rfl) rfl) rfl) rfl) rfl) rfl) rfl) rfl) rfl) rfl) rfl) rfl) rfl) rfl) rfl) rfl) rfl) rfl) rfl) rfl) rfl) rfl) rfl) rfl) rfl) rfl) rfl) rfl) rfl) rfl) rfl) rfl) rfl) rfl) rfl) rfl) rfl) rfl) rfl) rfl) rfl) rfl) rfl) rfl) rfl) rfl) rfl) rfl) rfl) rfl) rfl) rfl) rfl) rfl) rfl) rfl) rfl) rfl) rfl) rfl) rfl) rfl) rfl) rfl) rfl) rfl) rfl) rfl) rfl) rfl) rfl) rfl) rfl) rfl)
theorem pn_X12 : plainName RX12 = true := by decide +kernel
theorem pn_L : plainName RL = true := by decide +kernel
theorem xf_g_ISE : g_xf 102 g_ISE := ⟨by decide +kernel, by decide +kernel, inE0, by decide +kernel, by decide +kernel⟩
theorem xf_g_IAE : g_xf 112 g_IAE := ⟨by decide +kernel, by decide +kernel, inE1, by decide +kernel, by decide +kernel⟩
theorem xf_g_IOB : g_xf 173 g_IOB := ⟨by decide +kernel, by decide +kernel, inE2, by decide +kernel, by decide +kernel⟩
theorem FX7_init : g_mf yX7_init cX7_init 1 none 0 := ⟨k17, k8, by decide, by decide, by decide +kernel⟩
theorem FX6_init : g_mf yX6_init cX6_init 2 none 1 := ⟨k36, k26, by decide, by decide, by decide +kernel⟩
theorem FX8_init : g_mf yX8_init cX8_init 2 none 1 := ⟨k50, k22, by decide, by decide, by decide +kernel⟩
theorem FX10_init : g_mf yX10_init cX10_init 2 none 1 := ⟨k68, k55, by decide, by decide, by decide +kernel⟩
theorem FX2_init : g_mf yX2_init cX2_init 2 none 1 := ⟨k95, k73, by decide, by decide, by decide +kernel⟩
theorem FX1_init : g_mf yX1_init cX1_init 3 none 2 := ⟨k137, k120, by decide, by decide, by decide +kernel⟩
theorem FX9_init : g_mf yX9_init cX9_init 5 none 4 := ⟨k141, k100, by decide, by decide, by decide +kernel⟩
theorem FX5_init : g_mf yX5_init cX5_init 3 none 2 := ⟨k160, k146, by decide, by decide, by decide +kernel⟩
theorem FX4_init : g_mf yX4_init cX4_init 4 none 3 := ⟨k172, k165, by decide, by decide, by decide +kernel⟩
theorem FX0_init : g_mf yX0_init cX0_init 5 none 4 := ⟨k185, k177, by decide, by decide, by decide +kernel⟩
theorem FX3_init : g_mf yX3_init cX3_init 5 none 4 := ⟨k205, k190, by decide, by decide, by decide +kernel⟩
theorem FX11_init : g_mf yX11_init cX11_init 1 none 0 := ⟨k213, k2, by decide, by decide, by decide +kernel⟩
theorem FX12_init : g_mf yX12_init cX12_init 2 none 0 := ⟨k283, k217, by decide, by decide, by decide +kernel⟩
theorem FX5_length : g_mf yX5_length cX5_length 1 (some .int) 0 := ⟨k287, k146, by decide, by decide, by decide +kernel⟩
theorem FX5_append : g_mf yX5_append cX5_append 3 none 1 := ⟨k291, k146, by decide, by decide, by decide +kernel⟩
theorem FX11_feed : g_mf yX11_feed cX11_feed 6 (some .int) 5 := ⟨k295, k2, by decide, by decide, by decide +kernel⟩
theorem FL_feed : Cond.codeWith yL_feed cL_feed 8 (some .int) [(0, 16, 19, 13)] ∈ gW ∧ Cond.initialized yL_feed.cls ∈ gW ∧ (yL_feed.cls ≠ "java/lang/invoke/MethodHandle" ∧ yL_feed.cls ≠ "java/lang/invoke/VarHandle" ∧ (parseMethodDescriptor yL_feed.desc).map (fun d => d.parameters.length) = some 7) := ⟨k299, k300, by decide, by decide, by decide +kernel⟩
theorem FX12_four : g_mf yX12_four cX12_four 3 none 1 := ⟨k305, k217, by decide, by decide, by decide +kernel⟩
theorem FX12_feed : g_mf yX12_feed cX12_feed 6 (some .int) 5 := ⟨k309, k217, by decide, by decide, by decide +kernel⟩
theorem FX12_thrown : g_mf yX12_thrown cX12_thrown 1 (some .int) 0 := ⟨k313, k217, by decide, by decide, by decide +kernel⟩
theorem FX5_shorten : g_mf yX5_shorten cX5_shorten 2 none 1 := ⟨k317, k146, by decide, by decide, by decide +kernel⟩
theorem FX11_trim : g_mf yX11_trim cX11_trim 2 (some .int) 1 := ⟨k321, k2, by decide, by decide, by decide +kernel⟩
theorem FL_trim : Cond.codeWith yL_trim cL_trim 4 (some .int) [(0, 9, 12, 19)] ∈ gW ∧ Cond.initialized yL_trim.cls ∈ gW ∧ (yL_trim.cls ≠ "java/lang/invoke/MethodHandle" ∧ yL_trim.cls ≠ "java/lang/invoke/VarHandle" ∧ (parseMethodDescriptor yL_trim.desc).map (fun d => d.parameters.length) = some 3) := ⟨k325, k300, by decide, by decide, by decide +kernel⟩
theorem FX12_trim : g_mf yX12_trim cX12_trim 2 (some .int) 1 := ⟨k328, k217, by decide, by decide, by decide +kernel⟩
theorem FX12_fail : g_mf yX12_fail cX12_fail 2 (some .int) 1 := ⟨k335, k217, by decide, by decide, by decide +kernel⟩
theorem FX5_holdsName : g_mf yX5_holdsName cX5_holdsName 2 (some .boolean) 0 := ⟨k339, k146, by decide, by decide, by decide +kernel⟩
theorem FX7_find : g_mf yX7_find cX7_find 5 (some .int) 3 := ⟨k343, k8, by decide, by decide, by decide +kernel⟩
theorem FX5_heldSymbol : g_mf yX5_heldSymbol cX5_heldSymbol 1 (some .int) 0 := ⟨k347, k146, by decide, by decide, by decide +kernel⟩
theorem FX5_drain : g_mf yX5_drain cX5_drain 2 (some .int) 0 := ⟨k351, k146, by decide, by decide, by decide +kernel⟩
theorem FX11_declare : g_mf yX11_declare cX11_declare 6 (some .int) 2 := ⟨k355, k2, by decide, by decide, by decide +kernel⟩
theorem FL_declare : Cond.codeWith yL_declare cL_declare 5 (some .int) [(0, 10, 13, 19), (0, 10, 17, 13)] ∈ gW ∧ Cond.initialized yL_declare.cls ∈ gW ∧ (yL_declare.cls ≠ "java/lang/invoke/MethodHandle" ∧ yL_declare.cls ≠ "java/lang/invoke/VarHandle" ∧ (parseMethodDescriptor yL_declare.desc).map (fun d => d.parameters.length) = some 4) := ⟨k359, k300, by decide, by decide, by decide +kernel⟩
theorem FX12_isName : g_mf yX12_isName cX12_isName 4 (some .boolean) 1 := ⟨k362, k217, by decide, by decide, by decide +kernel⟩
theorem FX12_declare : g_mf yX12_declare cX12_declare 4 (some .int) 2 := ⟨k366, k217, by decide, by decide, by decide +kernel⟩
theorem FX11_declareVariable : g_mf yX11_declareVariable cX11_declareVariable 4 (some .int) 0 := ⟨k370, k2, by decide, by decide, by decide +kernel⟩
theorem FL_declareVariable : Cond.codeWith yL_declareVariable cL_declareVariable 3 (some .int) [(0, 8, 11, 19), (0, 8, 14, 13)] ∈ gW ∧ Cond.initialized yL_declareVariable.cls ∈ gW ∧ (yL_declareVariable.cls ≠ "java/lang/invoke/MethodHandle" ∧ yL_declareVariable.cls ≠ "java/lang/invoke/VarHandle" ∧ (parseMethodDescriptor yL_declareVariable.desc).map (fun d => d.parameters.length) = some 2) := ⟨k374, k300, by decide, by decide, by decide +kernel⟩
theorem FX12_declareVariable : g_mf yX12_declareVariable cX12_declareVariable 2 (some .int) 0 := ⟨k377, k217, by decide, by decide, by decide +kernel⟩
theorem FX7_count : g_mf yX7_count cX7_count 1 (some .int) 0 := ⟨k382, k8, by decide, by decide, by decide +kernel⟩
theorem FX11_symbolCount : g_mf yX11_symbolCount cX11_symbolCount 1 (some .int) 0 := ⟨k386, k2, by decide, by decide, by decide +kernel⟩
theorem FX12_symbolCount : g_mf yX12_symbolCount cX12_symbolCount 1 (some .int) 0 := ⟨k391, k217, by decide, by decide, by decide +kernel⟩
theorem FX7_isOrderFixed : g_mf yX7_isOrderFixed cX7_isOrderFixed 1 (some .boolean) 0 := ⟨k396, k8, by decide, by decide, by decide +kernel⟩
theorem FX7_isByWeight : g_mf yX7_isByWeight cX7_isByWeight 1 (some .boolean) 0 := ⟨k401, k8, by decide, by decide, by decide +kernel⟩
theorem FX7_chooseOrder : g_mf yX7_chooseOrder cX7_chooseOrder 2 none 1 := ⟨k405, k8, by decide, by decide, by decide +kernel⟩
theorem FX11_orderByWeight : g_mf yX11_orderByWeight cX11_orderByWeight 3 (some .boolean) 1 := ⟨k409, k2, by decide, by decide, by decide +kernel⟩
theorem FL_orderByWeight : Cond.codeWith yL_orderByWeight cL_orderByWeight 4 (some .int) [(0, 16, 19, 13)] ∈ gW ∧ Cond.initialized yL_orderByWeight.cls ∈ gW ∧ (yL_orderByWeight.cls ≠ "java/lang/invoke/MethodHandle" ∧ yL_orderByWeight.cls ≠ "java/lang/invoke/VarHandle" ∧ (parseMethodDescriptor yL_orderByWeight.desc).map (fun d => d.parameters.length) = some 3) := ⟨k413, k300, by decide, by decide, by decide +kernel⟩
theorem FX12_orderByWeight : g_mf yX12_orderByWeight cX12_orderByWeight 3 (some .boolean) 1 := ⟨k418, k217, by decide, by decide, by decide +kernel⟩
theorem FX7_has : g_mf yX7_has cX7_has 2 (some .boolean) 1 := ⟨k422, k8, by decide, by decide, by decide +kernel⟩
theorem FX11_promote : g_mf yX11_promote cX11_promote 4 (some .int) 2 := ⟨k428, k2, by decide, by decide, by decide +kernel⟩
theorem FL_promote : Cond.codeWith yL_promote cL_promote 5 (some .int) [(0, 10, 13, 36), (0, 10, 17, 13)] ∈ gW ∧ Cond.initialized yL_promote.cls ∈ gW ∧ (yL_promote.cls ≠ "java/lang/invoke/MethodHandle" ∧ yL_promote.cls ≠ "java/lang/invoke/VarHandle" ∧ (parseMethodDescriptor yL_promote.desc).map (fun d => d.parameters.length) = some 4) := ⟨k433, k300, by decide, by decide, by decide +kernel⟩
theorem FX12_isSymbol : g_mf yX12_isSymbol cX12_isSymbol 2 (some .boolean) 1 := ⟨k436, k217, by decide, by decide, by decide +kernel⟩
theorem FX12_promote : g_mf yX12_promote cX12_promote 6 (some .int) 2 := ⟨k440, k217, by decide, by decide, by decide +kernel⟩
theorem FX11_rankOf : g_mf yX11_rankOf cX11_rankOf 2 (some .int) 1 := ⟨k444, k2, by decide, by decide, by decide +kernel⟩
theorem FL_rankOf : Cond.codeWith yL_rankOf cL_rankOf 4 (some .int) [(0, 9, 12, 36)] ∈ gW ∧ Cond.initialized yL_rankOf.cls ∈ gW ∧ (yL_rankOf.cls ≠ "java/lang/invoke/MethodHandle" ∧ yL_rankOf.cls ≠ "java/lang/invoke/VarHandle" ∧ (parseMethodDescriptor yL_rankOf.desc).map (fun d => d.parameters.length) = some 3) := ⟨k448, k300, by decide, by decide, by decide +kernel⟩
theorem FX12_rankOf : g_mf yX12_rankOf cX12_rankOf 2 (some .int) 1 := ⟨k451, k217, by decide, by decide, by decide +kernel⟩
theorem FX11_setDirection : g_mf yX11_setDirection cX11_setDirection 4 (some .boolean) 2 := ⟨k455, k2, by decide, by decide, by decide +kernel⟩
theorem FL_setDirection : Cond.codeWith yL_setDirection cL_setDirection 5 (some .int) [(0, 17, 20, 36), (0, 17, 24, 13)] ∈ gW ∧ Cond.initialized yL_setDirection.cls ∈ gW ∧ (yL_setDirection.cls ≠ "java/lang/invoke/MethodHandle" ∧ yL_setDirection.cls ≠ "java/lang/invoke/VarHandle" ∧ (parseMethodDescriptor yL_setDirection.desc).map (fun d => d.parameters.length) = some 4) := ⟨k459, k300, by decide, by decide, by decide +kernel⟩
theorem FX12_setDirection : g_mf yX12_setDirection cX12_setDirection 4 (some .boolean) 2 := ⟨k462, k217, by decide, by decide, by decide +kernel⟩
theorem FX7_arity : g_mf yX7_arity cX7_arity 2 (some .int) 1 := ⟨k466, k8, by decide, by decide, by decide +kernel⟩
theorem FX11_term : g_mf yX11_term cX11_term 7 (some .int) 4 := ⟨k470, k2, by decide, by decide, by decide +kernel⟩
theorem FL_term : Cond.codeWith yL_term cL_term 7 (some .int) [(0, 14, 17, 36), (0, 14, 21, 49)] ∈ gW ∧ Cond.initialized yL_term.cls ∈ gW ∧ (yL_term.cls ≠ "java/lang/invoke/MethodHandle" ∧ yL_term.cls ≠ "java/lang/invoke/VarHandle" ∧ (parseMethodDescriptor yL_term.desc).map (fun d => d.parameters.length) = some 6) := ⟨k474, k300, by decide, by decide, by decide +kernel⟩
theorem FX12_term : g_mf yX12_term cX12_term 7 (some .int) 4 := ⟨k477, k217, by decide, by decide, by decide +kernel⟩
theorem FX8_isCrowded : g_mf yX8_isCrowded cX8_isCrowded 1 (some .boolean) 0 := ⟨k482, k22, by decide, by decide, by decide +kernel⟩
theorem FX11_tidy : g_mf yX11_tidy cX11_tidy 2 none 0 := ⟨k486, k2, by decide, by decide, by decide +kernel⟩
theorem FX5_start : g_mf yX5_start cX5_start 2 none 1 := ⟨k495, k146, by decide, by decide, by decide +kernel⟩
theorem FX5_skipBlanks : g_mf yX5_skipBlanks cX5_skipBlanks 2 none 0 := ⟨k500, k146, by decide, by decide, by decide +kernel⟩
theorem FX5_peek : g_mf yX5_peek cX5_peek 1 (some .int) 0 := ⟨k504, k146, by decide, by decide, by decide +kernel⟩
theorem FX5_isLetter : g_mf yX5_isLetter cX5_isLetter 2 (some .boolean) 1 := ⟨k508, k146, by decide, by decide, by decide +kernel⟩
theorem FX5_fail : g_mf yX5_fail cX5_fail 3 (some .int) 2 := ⟨k512, k146, by decide, by decide, by decide +kernel⟩
theorem FX5_readName : g_mf yX5_readName cX5_readName 2 (some .int) 0 := ⟨k516, k146, by decide, by decide, by decide +kernel⟩
theorem FX5_readOne : g_mf yX5_readOne cX5_readOne 4 (some .int) 0 := ⟨k520, k146, by decide, by decide, by decide +kernel⟩
theorem FX5_readTerm : g_mf yX5_readTerm cX5_readTerm 2 (some .int) 0 := ⟨k524, k146, by decide, by decide, by decide +kernel⟩
theorem FX11_read : g_mf yX11_read cX11_read 2 (some .int) 0 := ⟨k528, k2, by decide, by decide, by decide +kernel⟩
theorem FL_read : Cond.codeWith yL_read cL_read 3 (some .int) [(0, 8, 11, 19)] ∈ gW ∧ Cond.initialized yL_read.cls ∈ gW ∧ (yL_read.cls ≠ "java/lang/invoke/MethodHandle" ∧ yL_read.cls ≠ "java/lang/invoke/VarHandle" ∧ (parseMethodDescriptor yL_read.desc).map (fun d => d.parameters.length) = some 2) := ⟨k532, k300, by decide, by decide, by decide +kernel⟩
theorem FX12_beginText : g_mf yX12_beginText cX12_beginText 1 none 0 := ⟨k537, k217, by decide, by decide, by decide +kernel⟩
theorem FX12_look : g_mf yX12_look cX12_look 1 (some .int) 0 := ⟨k541, k217, by decide, by decide, by decide +kernel⟩
theorem FX12_isLetter : g_mf yX12_isLetter cX12_isLetter 1 (some .boolean) 1 := ⟨k545, k217, by decide, by decide, by decide +kernel⟩
theorem FX12_error : g_mf yX12_error cX12_error 3 (some .boolean) 2 := ⟨k548, k217, by decide, by decide, by decide +kernel⟩
theorem FX12_readsTerm : g_mf yX12_readsTerm cX12_readsTerm 10 (some .boolean) 1 := ⟨k552, k217, by decide, by decide, by decide +kernel⟩
theorem FX12_read : g_mf yX12_read cX12_read 2 (some .int) 0 := ⟨k556, k217, by decide, by decide, by decide +kernel⟩
theorem FX5_kind : g_mf yX5_kind cX5_kind 1 (some .int) 0 := ⟨k560, k146, by decide, by decide, by decide +kernel⟩
theorem FX11_errorKind : g_mf yX11_errorKind cX11_errorKind 1 (some .int) 0 := ⟨k564, k2, by decide, by decide, by decide +kernel⟩
theorem FX12_errorKind : g_mf yX12_errorKind cX12_errorKind 1 (some .int) 0 := ⟨k568, k217, by decide, by decide, by decide +kernel⟩
theorem FX5_position : g_mf yX5_position cX5_position 1 (some .int) 0 := ⟨k572, k146, by decide, by decide, by decide +kernel⟩
theorem FX11_errorPosition : g_mf yX11_errorPosition cX11_errorPosition 1 (some .int) 0 := ⟨k576, k2, by decide, by decide, by decide +kernel⟩
theorem FX12_errorPosition : g_mf yX12_errorPosition cX12_errorPosition 1 (some .int) 0 := ⟨k580, k217, by decide, by decide, by decide +kernel⟩
theorem FX11_termCount : g_mf yX11_termCount cX11_termCount 1 (some .int) 0 := ⟨k585, k2, by decide, by decide, by decide +kernel⟩
theorem FX12_termCount : g_mf yX12_termCount cX12_termCount 1 (some .int) 0 := ⟨k590, k217, by decide, by decide, by decide +kernel⟩
theorem FX11_isTerm : g_mf yX11_isTerm cX11_isTerm 2 (some .boolean) 1 := ⟨k594, k2, by decide, by decide, by decide +kernel⟩
theorem FX11_symbolOf : g_mf yX11_symbolOf cX11_symbolOf 2 (some .int) 1 := ⟨k598, k2, by decide, by decide, by decide +kernel⟩
theorem FL_symbolOf : Cond.codeWith yL_symbolOf cL_symbolOf 4 (some .int) [(0, 9, 12, 36)] ∈ gW ∧ Cond.initialized yL_symbolOf.cls ∈ gW ∧ (yL_symbolOf.cls ≠ "java/lang/invoke/MethodHandle" ∧ yL_symbolOf.cls ≠ "java/lang/invoke/VarHandle" ∧ (parseMethodDescriptor yL_symbolOf.desc).map (fun d => d.parameters.length) = some 3) := ⟨k602, k300, by decide, by decide, by decide +kernel⟩
theorem FX12_isNumber : g_mf yX12_isNumber cX12_isNumber 2 (some .boolean) 1 := ⟨k605, k217, by decide, by decide, by decide +kernel⟩
theorem FX12_symbolOf : g_mf yX12_symbolOf cX12_symbolOf 2 (some .int) 1 := ⟨k609, k217, by decide, by decide, by decide +kernel⟩
theorem FX11_argument : g_mf yX11_argument cX11_argument 3 (some .int) 2 := ⟨k613, k2, by decide, by decide, by decide +kernel⟩
theorem FL_argument : Cond.codeWith yL_argument cL_argument 5 (some .int) [(0, 10, 13, 36)] ∈ gW ∧ Cond.initialized yL_argument.cls ∈ gW ∧ (yL_argument.cls ≠ "java/lang/invoke/MethodHandle" ∧ yL_argument.cls ≠ "java/lang/invoke/VarHandle" ∧ (parseMethodDescriptor yL_argument.desc).map (fun d => d.parameters.length) = some 4) := ⟨k617, k300, by decide, by decide, by decide +kernel⟩
theorem FX12_argument : g_mf yX12_argument cX12_argument 3 (some .int) 2 := ⟨k620, k217, by decide, by decide, by decide +kernel⟩
theorem FX11_size : g_mf yX11_size cX11_size 2 (some .int) 1 := ⟨k624, k2, by decide, by decide, by decide +kernel⟩
theorem FL_size : Cond.codeWith yL_size cL_size 4 (some .int) [(0, 9, 12, 36)] ∈ gW ∧ Cond.initialized yL_size.cls ∈ gW ∧ (yL_size.cls ≠ "java/lang/invoke/MethodHandle" ∧ yL_size.cls ≠ "java/lang/invoke/VarHandle" ∧ (parseMethodDescriptor yL_size.desc).map (fun d => d.parameters.length) = some 3) := ⟨k628, k300, by decide, by decide, by decide +kernel⟩
theorem FX12_size : g_mf yX12_size cX12_size 2 (some .int) 1 := ⟨k631, k217, by decide, by decide, by decide +kernel⟩
theorem FX11_depth : g_mf yX11_depth cX11_depth 2 (some .int) 1 := ⟨k635, k2, by decide, by decide, by decide +kernel⟩
theorem FL_depth : Cond.codeWith yL_depth cL_depth 4 (some .int) [(0, 9, 12, 36)] ∈ gW ∧ Cond.initialized yL_depth.cls ∈ gW ∧ (yL_depth.cls ≠ "java/lang/invoke/MethodHandle" ∧ yL_depth.cls ≠ "java/lang/invoke/VarHandle" ∧ (parseMethodDescriptor yL_depth.desc).map (fun d => d.parameters.length) = some 3) := ⟨k639, k300, by decide, by decide, by decide +kernel⟩
theorem FX12_depth : g_mf yX12_depth cX12_depth 2 (some .int) 1 := ⟨k642, k217, by decide, by decide, by decide +kernel⟩
theorem FX11_compare : g_mf yX11_compare cX11_compare 5 (some .int) 2 := ⟨k646, k2, by decide, by decide, by decide +kernel⟩
theorem FL_compare : Cond.codeWith yL_compare cL_compare 5 (some .int) [(0, 10, 13, 36)] ∈ gW ∧ Cond.initialized yL_compare.cls ∈ gW ∧ (yL_compare.cls ≠ "java/lang/invoke/MethodHandle" ∧ yL_compare.cls ≠ "java/lang/invoke/VarHandle" ∧ (parseMethodDescriptor yL_compare.desc).map (fun d => d.parameters.length) = some 4) := ⟨k650, k300, by decide, by decide, by decide +kernel⟩
theorem FX12_compare : g_mf yX12_compare cX12_compare 3 (some .int) 2 := ⟨k653, k217, by decide, by decide, by decide +kernel⟩
theorem FX11_occurrences : g_mf yX11_occurrences cX11_occurrences 3 (some .int) 2 := ⟨k657, k2, by decide, by decide, by decide +kernel⟩
theorem FL_occurrences : Cond.codeWith yL_occurrences cL_occurrences 5 (some .int) [(0, 10, 13, 36)] ∈ gW ∧ Cond.initialized yL_occurrences.cls ∈ gW ∧ (yL_occurrences.cls ≠ "java/lang/invoke/MethodHandle" ∧ yL_occurrences.cls ≠ "java/lang/invoke/VarHandle" ∧ (parseMethodDescriptor yL_occurrences.desc).map (fun d => d.parameters.length) = some 4) := ⟨k661, k300, by decide, by decide, by decide +kernel⟩
theorem FX12_occurrences : g_mf yX12_occurrences cX12_occurrences 8 (some .int) 2 := ⟨k664, k217, by decide, by decide, by decide +kernel⟩
theorem FX11_replace : g_mf yX11_replace cX11_replace 5 (some .int) 3 := ⟨k668, k2, by decide, by decide, by decide +kernel⟩
theorem FL_replace : Cond.codeWith yL_replace cL_replace 6 (some .int) [(0, 12, 15, 36), (0, 12, 19, 49)] ∈ gW ∧ Cond.initialized yL_replace.cls ∈ gW ∧ (yL_replace.cls ≠ "java/lang/invoke/MethodHandle" ∧ yL_replace.cls ≠ "java/lang/invoke/VarHandle" ∧ (parseMethodDescriptor yL_replace.desc).map (fun d => d.parameters.length) = some 5) := ⟨k672, k300, by decide, by decide, by decide +kernel⟩
theorem FX12_replace : g_mf yX12_replace cX12_replace 10 (some .int) 3 := ⟨k675, k217, by decide, by decide, by decide +kernel⟩
theorem FX11_write : g_mf yX11_write cX11_write 3 (some .int) 1 := ⟨k679, k2, by decide, by decide, by decide +kernel⟩
theorem FL_write : Cond.codeWith yL_write cL_write 4 (some .int) [(0, 9, 12, 36), (0, 9, 15, 49)] ∈ gW ∧ Cond.initialized yL_write.cls ∈ gW ∧ (yL_write.cls ≠ "java/lang/invoke/MethodHandle" ∧ yL_write.cls ≠ "java/lang/invoke/VarHandle" ∧ (parseMethodDescriptor yL_write.desc).map (fun d => d.parameters.length) = some 3) := ⟨k683, k300, by decide, by decide, by decide +kernel⟩
theorem FX12_write : g_mf yX12_write cX12_write 9 (some .int) 1 := ⟨k686, k217, by decide, by decide, by decide +kernel⟩
theorem FX4_length : g_mf yX4_length cX4_length 1 (some .int) 0 := ⟨k691, k165, by decide, by decide, by decide +kernel⟩
theorem FX11_outputByte : g_mf yX11_outputByte cX11_outputByte 2 (some .int) 1 := ⟨k695, k2, by decide, by decide, by decide +kernel⟩
theorem FL_outputByte : Cond.codeWith yL_outputByte cL_outputByte 4 (some .int) [(0, 9, 12, 36)] ∈ gW ∧ Cond.initialized yL_outputByte.cls ∈ gW ∧ (yL_outputByte.cls ≠ "java/lang/invoke/MethodHandle" ∧ yL_outputByte.cls ≠ "java/lang/invoke/VarHandle" ∧ (parseMethodDescriptor yL_outputByte.desc).map (fun d => d.parameters.length) = some 3) := ⟨k699, k300, by decide, by decide, by decide +kernel⟩
theorem FX12_outputByte : g_mf yX12_outputByte cX12_outputByte 2 (some .int) 1 := ⟨k703, k217, by decide, by decide, by decide +kernel⟩
theorem FX11_equate : g_mf yX11_equate cX11_equate 3 (some .int) 2 := ⟨k707, k2, by decide, by decide, by decide +kernel⟩
theorem FL_equate : Cond.codeWith yL_equate cL_equate 5 (some .int) [(0, 10, 13, 36), (0, 10, 17, 19), (0, 10, 21, 13), (0, 10, 25, 49)] ∈ gW ∧ Cond.initialized yL_equate.cls ∈ gW ∧ (yL_equate.cls ≠ "java/lang/invoke/MethodHandle" ∧ yL_equate.cls ≠ "java/lang/invoke/VarHandle" ∧ (parseMethodDescriptor yL_equate.desc).map (fun d => d.parameters.length) = some 4) := ⟨k711, k300, by decide, by decide, by decide +kernel⟩
theorem FX12_equate : g_mf yX12_equate cX12_equate 4 (some .int) 2 := ⟨k714, k217, by decide, by decide, by decide +kernel⟩
theorem FX11_separate : g_mf yX11_separate cX11_separate 3 (some .int) 2 := ⟨k718, k2, by decide, by decide, by decide +kernel⟩
theorem FL_separate : Cond.codeWith yL_separate cL_separate 5 (some .int) [(0, 10, 13, 36), (0, 10, 17, 19), (0, 10, 21, 13)] ∈ gW ∧ Cond.initialized yL_separate.cls ∈ gW ∧ (yL_separate.cls ≠ "java/lang/invoke/MethodHandle" ∧ yL_separate.cls ≠ "java/lang/invoke/VarHandle" ∧ (parseMethodDescriptor yL_separate.desc).map (fun d => d.parameters.length) = some 4) := ⟨k722, k300, by decide, by decide, by decide +kernel⟩
theorem FX12_separate : g_mf yX12_separate cX12_separate 4 (some .int) 2 := ⟨k725, k217, by decide, by decide, by decide +kernel⟩
theorem FX5_readTheoryText : g_mf yX5_readTheoryText cX5_readTheoryText 5 (some .boolean) 0 := ⟨k730, k146, by decide, by decide, by decide +kernel⟩
theorem FX5_statementCount : g_mf yX5_statementCount cX5_statementCount 1 (some .int) 0 := ⟨k736, k146, by decide, by decide, by decide +kernel⟩
theorem FX11_readTheory : g_mf yX11_readTheory cX11_readTheory 5 (some .int) 0 := ⟨k740, k2, by decide, by decide, by decide +kernel⟩
theorem FL_readTheory : Cond.codeWith yL_readTheory cL_readTheory 3 (some .int) [(0, 8, 11, 19), (0, 8, 14, 13), (0, 8, 17, 49)] ∈ gW ∧ Cond.initialized yL_readTheory.cls ∈ gW ∧ (yL_readTheory.cls ≠ "java/lang/invoke/MethodHandle" ∧ yL_readTheory.cls ≠ "java/lang/invoke/VarHandle" ∧ (parseMethodDescriptor yL_readTheory.desc).map (fun d => d.parameters.length) = some 2) := ⟨k744, k300, by decide, by decide, by decide +kernel⟩
theorem FX12_readsTheory : g_mf yX12_readsTheory cX12_readsTheory 3 (some .boolean) 0 := ⟨k748, k217, by decide, by decide, by decide +kernel⟩
theorem FX12_readTheory : g_mf yX12_readTheory cX12_readTheory 9 (some .int) 0 := ⟨k754, k217, by decide, by decide, by decide +kernel⟩
theorem FX11_equationCount : g_mf yX11_equationCount cX11_equationCount 1 (some .int) 0 := ⟨k758, k2, by decide, by decide, by decide +kernel⟩
theorem FX12_equationCount : g_mf yX12_equationCount cX12_equationCount 1 (some .int) 0 := ⟨k762, k217, by decide, by decide, by decide +kernel⟩
theorem FX11_separationCount : g_mf yX11_separationCount cX11_separationCount 1 (some .int) 0 := ⟨k766, k2, by decide, by decide, by decide +kernel⟩
theorem FX12_separationCount : g_mf yX12_separationCount cX12_separationCount 1 (some .int) 0 := ⟨k770, k217, by decide, by decide, by decide +kernel⟩
theorem FX9_firstConflict : g_mf yX9_firstConflict cX9_firstConflict 2 (some .int) 0 := ⟨k775, k100, by decide, by decide, by decide +kernel⟩
theorem FX11_isConsistent : g_mf yX11_isConsistent cX11_isConsistent 1 (some .boolean) 0 := ⟨k779, k2, by decide, by decide, by decide +kernel⟩
theorem FX12_firstConflict : g_mf yX12_firstConflict cX12_firstConflict 2 (some .int) 0 := ⟨k783, k217, by decide, by decide, by decide +kernel⟩
theorem FX12_isConsistent : g_mf yX12_isConsistent cX12_isConsistent 1 (some .boolean) 0 := ⟨k787, k217, by decide, by decide, by decide +kernel⟩
theorem FX11_conflict : g_mf yX11_conflict cX11_conflict 2 (some .int) 0 := ⟨k793, k2, by decide, by decide, by decide +kernel⟩
theorem FL_conflict : Cond.codeWith yL_conflict cL_conflict 3 (some .int) [(0, 8, 11, 94)] ∈ gW ∧ Cond.initialized yL_conflict.cls ∈ gW ∧ (yL_conflict.cls ≠ "java/lang/invoke/MethodHandle" ∧ yL_conflict.cls ≠ "java/lang/invoke/VarHandle" ∧ (parseMethodDescriptor yL_conflict.desc).map (fun d => d.parameters.length) = some 2) := ⟨k798, k300, by decide, by decide, by decide +kernel⟩
theorem FX12_conflict : g_mf yX12_conflict cX12_conflict 2 (some .int) 0 := ⟨k801, k217, by decide, by decide, by decide +kernel⟩
theorem FX9_openLevel : g_mf yX9_openLevel cX9_openLevel 1 none 0 := ⟨k808, k100, by decide, by decide, by decide +kernel⟩
theorem FX11_push : g_mf yX11_push cX11_push 1 (some .int) 0 := ⟨k812, k2, by decide, by decide, by decide +kernel⟩
theorem FL_push : Cond.codeWith yL_push cL_push 3 (some .int) [(0, 8, 11, 13)] ∈ gW ∧ Cond.initialized yL_push.cls ∈ gW ∧ (yL_push.cls ≠ "java/lang/invoke/MethodHandle" ∧ yL_push.cls ≠ "java/lang/invoke/VarHandle" ∧ (parseMethodDescriptor yL_push.desc).map (fun d => d.parameters.length) = some 2) := ⟨k816, k300, by decide, by decide, by decide +kernel⟩
theorem FX12_push_ : g_mf yX12_push_ cX12_push_ 1 (some .int) 0 := ⟨k820, k217, by decide, by decide, by decide +kernel⟩
theorem FX11_pop : g_mf yX11_pop cX11_pop 1 (some .int) 0 := ⟨k826, k2, by decide, by decide, by decide +kernel⟩
theorem FL_pop : Cond.codeWith yL_pop cL_pop 3 (some .int) [(0, 8, 11, 13)] ∈ gW ∧ Cond.initialized yL_pop.cls ∈ gW ∧ (yL_pop.cls ≠ "java/lang/invoke/MethodHandle" ∧ yL_pop.cls ≠ "java/lang/invoke/VarHandle" ∧ (parseMethodDescriptor yL_pop.desc).map (fun d => d.parameters.length) = some 2) := ⟨k831, k300, by decide, by decide, by decide +kernel⟩
theorem FX12_pop : g_mf yX12_pop cX12_pop 2 (some .int) 0 := ⟨k834, k217, by decide, by decide, by decide +kernel⟩
theorem FX11_ruleCount : g_mf yX11_ruleCount cX11_ruleCount 1 (some .int) 0 := ⟨k839, k2, by decide, by decide, by decide +kernel⟩
theorem FX12_ruleCount : g_mf yX12_ruleCount cX12_ruleCount 1 (some .int) 0 := ⟨k844, k217, by decide, by decide, by decide +kernel⟩
theorem FX11_ruleLeft : g_mf yX11_ruleLeft cX11_ruleLeft 2 (some .int) 1 := ⟨k848, k2, by decide, by decide, by decide +kernel⟩
theorem FL_ruleLeft : Cond.codeWith yL_ruleLeft cL_ruleLeft 4 (some .int) [(0, 9, 12, 36)] ∈ gW ∧ Cond.initialized yL_ruleLeft.cls ∈ gW ∧ (yL_ruleLeft.cls ≠ "java/lang/invoke/MethodHandle" ∧ yL_ruleLeft.cls ≠ "java/lang/invoke/VarHandle" ∧ (parseMethodDescriptor yL_ruleLeft.desc).map (fun d => d.parameters.length) = some 3) := ⟨k852, k300, by decide, by decide, by decide +kernel⟩
theorem FX12_ruleLeft : g_mf yX12_ruleLeft cX12_ruleLeft 2 (some .int) 1 := ⟨k855, k217, by decide, by decide, by decide +kernel⟩
theorem FX11_ruleRight : g_mf yX11_ruleRight cX11_ruleRight 2 (some .int) 1 := ⟨k859, k2, by decide, by decide, by decide +kernel⟩
theorem FL_ruleRight : Cond.codeWith yL_ruleRight cL_ruleRight 4 (some .int) [(0, 9, 12, 36)] ∈ gW ∧ Cond.initialized yL_ruleRight.cls ∈ gW ∧ (yL_ruleRight.cls ≠ "java/lang/invoke/MethodHandle" ∧ yL_ruleRight.cls ≠ "java/lang/invoke/VarHandle" ∧ (parseMethodDescriptor yL_ruleRight.desc).map (fun d => d.parameters.length) = some 3) := ⟨k863, k300, by decide, by decide, by decide +kernel⟩
theorem FX12_ruleRight : g_mf yX12_ruleRight cX12_ruleRight 2 (some .int) 1 := ⟨k866, k217, by decide, by decide, by decide +kernel⟩
theorem FX11_normalForm : g_mf yX11_normalForm cX11_normalForm 3 (some .int) 1 := ⟨k870, k2, by decide, by decide, by decide +kernel⟩
theorem FL_normalForm : Cond.codeWith yL_normalForm cL_normalForm 4 (some .int) [(0, 9, 12, 36), (0, 9, 15, 49)] ∈ gW ∧ Cond.initialized yL_normalForm.cls ∈ gW ∧ (yL_normalForm.cls ≠ "java/lang/invoke/MethodHandle" ∧ yL_normalForm.cls ≠ "java/lang/invoke/VarHandle" ∧ (parseMethodDescriptor yL_normalForm.desc).map (fun d => d.parameters.length) = some 3) := ⟨k874, k300, by decide, by decide, by decide +kernel⟩
theorem FX12_normalForm : g_mf yX12_normalForm cX12_normalForm 2 (some .int) 1 := ⟨k877, k217, by decide, by decide, by decide +kernel⟩
theorem FX11_areEqual : g_mf yX11_areEqual cX11_areEqual 3 (some .boolean) 2 := ⟨k881, k2, by decide, by decide, by decide +kernel⟩
theorem FL_areEqual : Cond.codeWith yL_areEqual cL_areEqual 5 (some .int) [(0, 17, 20, 36)] ∈ gW ∧ Cond.initialized yL_areEqual.cls ∈ gW ∧ (yL_areEqual.cls ≠ "java/lang/invoke/MethodHandle" ∧ yL_areEqual.cls ≠ "java/lang/invoke/VarHandle" ∧ (parseMethodDescriptor yL_areEqual.desc).map (fun d => d.parameters.length) = some 4) := ⟨k885, k300, by decide, by decide, by decide +kernel⟩
theorem FX12_areEqual : g_mf yX12_areEqual cX12_areEqual 3 (some .boolean) 2 := ⟨k888, k217, by decide, by decide, by decide +kernel⟩
theorem FX11_dependsOn : g_mf yX11_dependsOn cX11_dependsOn 4 (some .boolean) 3 := ⟨k892, k2, by decide, by decide, by decide +kernel⟩
theorem FL_dependsOn : Cond.codeWith yL_dependsOn cL_dependsOn 6 (some .int) [(0, 19, 22, 36)] ∈ gW ∧ Cond.initialized yL_dependsOn.cls ∈ gW ∧ (yL_dependsOn.cls ≠ "java/lang/invoke/MethodHandle" ∧ yL_dependsOn.cls ≠ "java/lang/invoke/VarHandle" ∧ (parseMethodDescriptor yL_dependsOn.desc).map (fun d => d.parameters.length) = some 5) := ⟨k896, k300, by decide, by decide, by decide +kernel⟩
theorem FX12_dependsOn : g_mf yX12_dependsOn cX12_dependsOn 4 (some .boolean) 3 := ⟨k899, k217, by decide, by decide, by decide +kernel⟩
theorem FX11_stepCount : g_mf yX11_stepCount cX11_stepCount 2 (some .int) 1 := ⟨k903, k2, by decide, by decide, by decide +kernel⟩
theorem FL_stepCount : Cond.codeWith yL_stepCount cL_stepCount 4 (some .int) [(0, 9, 12, 36)] ∈ gW ∧ Cond.initialized yL_stepCount.cls ∈ gW ∧ (yL_stepCount.cls ≠ "java/lang/invoke/MethodHandle" ∧ yL_stepCount.cls ≠ "java/lang/invoke/VarHandle" ∧ (parseMethodDescriptor yL_stepCount.desc).map (fun d => d.parameters.length) = some 3) := ⟨k907, k300, by decide, by decide, by decide +kernel⟩
theorem FX12_stepCount : g_mf yX12_stepCount cX12_stepCount 3 (some .int) 1 := ⟨k910, k217, by decide, by decide, by decide +kernel⟩
theorem FX11_afterSteps : g_mf yX11_afterSteps cX11_afterSteps 4 (some .int) 2 := ⟨k914, k2, by decide, by decide, by decide +kernel⟩
theorem FL_afterSteps : Cond.codeWith yL_afterSteps cL_afterSteps 5 (some .int) [(0, 10, 13, 36), (0, 10, 17, 49)] ∈ gW ∧ Cond.initialized yL_afterSteps.cls ∈ gW ∧ (yL_afterSteps.cls ≠ "java/lang/invoke/MethodHandle" ∧ yL_afterSteps.cls ≠ "java/lang/invoke/VarHandle" ∧ (parseMethodDescriptor yL_afterSteps.desc).map (fun d => d.parameters.length) = some 4) := ⟨k918, k300, by decide, by decide, by decide +kernel⟩
theorem FX12_afterSteps : g_mf yX12_afterSteps cX12_afterSteps 4 (some .int) 2 := ⟨k921, k217, by decide, by decide, by decide +kernel⟩
theorem FX11_countOfSize : g_mf yX11_countOfSize cX11_countOfSize 3 (some .long) 2 := ⟨k925, k2, by decide, by decide, by decide +kernel⟩
theorem FL_countOfSize : Cond.codeWith yL_countOfSize cL_countOfSize 5 (some .int) [(0, 9, 12, 36), (0, 9, 16, 19)] ∈ gW ∧ Cond.initialized yL_countOfSize.cls ∈ gW ∧ (yL_countOfSize.cls ≠ "java/lang/invoke/MethodHandle" ∧ yL_countOfSize.cls ≠ "java/lang/invoke/VarHandle" ∧ (parseMethodDescriptor yL_countOfSize.desc).map (fun d => d.parameters.length) = some 4) := ⟨k929, k300, by decide, by decide, by decide +kernel⟩
theorem FX12_countOfSize : g_mf yX12_countOfSize cX12_countOfSize 3 (some .long) 2 := ⟨k932, k217, by decide, by decide, by decide +kernel⟩
theorem FX11_isFinite : g_mf yX11_isFinite cX11_isFinite 2 (some .boolean) 1 := ⟨k936, k2, by decide, by decide, by decide +kernel⟩
theorem FL_isFinite : Cond.codeWith yL_isFinite cL_isFinite 4 (some .int) [(0, 16, 19, 36)] ∈ gW ∧ Cond.initialized yL_isFinite.cls ∈ gW ∧ (yL_isFinite.cls ≠ "java/lang/invoke/MethodHandle" ∧ yL_isFinite.cls ≠ "java/lang/invoke/VarHandle" ∧ (parseMethodDescriptor yL_isFinite.desc).map (fun d => d.parameters.length) = some 3) := ⟨k940, k300, by decide, by decide, by decide +kernel⟩
theorem FX12_isFinite : g_mf yX12_isFinite cX12_isFinite 2 (some .boolean) 1 := ⟨k943, k217, by decide, by decide, by decide +kernel⟩
theorem FX11_smallest : g_mf yX11_smallest cX11_smallest 3 (some .int) 1 := ⟨k947, k2, by decide, by decide, by decide +kernel⟩
theorem FL_smallest : Cond.codeWith yL_smallest cL_smallest 4 (some .int) [(0, 9, 12, 36), (0, 9, 15, 49)] ∈ gW ∧ Cond.initialized yL_smallest.cls ∈ gW ∧ (yL_smallest.cls ≠ "java/lang/invoke/MethodHandle" ∧ yL_smallest.cls ≠ "java/lang/invoke/VarHandle" ∧ (parseMethodDescriptor yL_smallest.desc).map (fun d => d.parameters.length) = some 3) := ⟨k951, k300, by decide, by decide, by decide +kernel⟩
theorem FX12_smallest : g_mf yX12_smallest cX12_smallest 2 (some .int) 1 := ⟨k954, k217, by decide, by decide, by decide +kernel⟩
theorem FX11_match : g_mf yX11_match cX11_match 4 (some .int) 2 := ⟨k958, k2, by decide, by decide, by decide +kernel⟩
theorem FL_match : Cond.codeWith yL_match cL_match 5 (some .int) [(0, 10, 13, 36), (0, 10, 17, 19), (0, 10, 21, 49)] ∈ gW ∧ Cond.initialized yL_match.cls ∈ gW ∧ (yL_match.cls ≠ "java/lang/invoke/MethodHandle" ∧ yL_match.cls ≠ "java/lang/invoke/VarHandle" ∧ (parseMethodDescriptor yL_match.desc).map (fun d => d.parameters.length) = some 4) := ⟨k962, k300, by decide, by decide, by decide +kernel⟩
theorem FX12_match : g_mf yX12_match cX12_match 5 (some .int) 2 := ⟨k965, k217, by decide, by decide, by decide +kernel⟩
theorem FX11_solution : g_mf yX11_solution cX11_solution 5 (some .int) 2 := ⟨k970, k2, by decide, by decide, by decide +kernel⟩
theorem FL_solution : Cond.codeWith yL_solution cL_solution 5 (some .int) [(0, 10, 13, 36), (0, 10, 17, 94), (0, 10, 21, 49)] ∈ gW ∧ Cond.initialized yL_solution.cls ∈ gW ∧ (yL_solution.cls ≠ "java/lang/invoke/MethodHandle" ∧ yL_solution.cls ≠ "java/lang/invoke/VarHandle" ∧ (parseMethodDescriptor yL_solution.desc).map (fun d => d.parameters.length) = some 4) := ⟨k974, k300, by decide, by decide, by decide +kernel⟩
theorem FX12_solution : g_mf yX12_solution cX12_solution 4 (some .int) 2 := ⟨k978, k217, by decide, by decide, by decide +kernel⟩
theorem FX11_digest : g_mf yX11_digest cX11_digest 4 (some .long) 0 := ⟨k984, k2, by decide, by decide, by decide +kernel⟩
theorem FX12_digest : g_mf yX12_digest cX12_digest 4 (some .long) 0 := ⟨k990, k217, by decide, by decide, by decide +kernel⟩
theorem GX5_length : g_mv yX5_length := ⟨k288, k289⟩
theorem GX5_append : g_mv yX5_append := ⟨k292, k293⟩
theorem GX11_feed : g_mv yX11_feed := ⟨k296, k297⟩
theorem GX12_four : g_mv yX12_four := ⟨k306, k307⟩
theorem GX12_feed : g_mv yX12_feed := ⟨k310, k311⟩
theorem GX12_thrown : g_mv yX12_thrown := ⟨k314, k315⟩
theorem GX5_shorten : g_mv yX5_shorten := ⟨k318, k319⟩
theorem GX11_trim : g_mv yX11_trim := ⟨k322, k323⟩
theorem GX12_trim : g_mv yX12_trim := ⟨k329, k330⟩
theorem GX12_fail : g_mv yX12_fail := ⟨k336, k337⟩
theorem GX5_holdsName : g_mv yX5_holdsName := ⟨k340, k341⟩
theorem GX7_find : g_mv yX7_find := ⟨k344, k345⟩
theorem GX5_heldSymbol : g_mv yX5_heldSymbol := ⟨k348, k349⟩
theorem GX5_drain : g_mv yX5_drain := ⟨k352, k353⟩
theorem GX11_declare : g_mv yX11_declare := ⟨k356, k357⟩
theorem GX12_isName : g_mv yX12_isName := ⟨k363, k364⟩
theorem GX12_declare : g_mv yX12_declare := ⟨k367, k368⟩
theorem GX11_declareVariable : g_mv yX11_declareVariable := ⟨k371, k372⟩
theorem GX12_declareVariable : g_mv yX12_declareVariable := ⟨k378, k379⟩
theorem GX7_count : g_mv yX7_count := ⟨k383, k384⟩
theorem GX11_symbolCount : g_mv yX11_symbolCount := ⟨k387, k388⟩
theorem GX12_symbolCount : g_mv yX12_symbolCount := ⟨k392, k393⟩
theorem GX7_isOrderFixed : g_mv yX7_isOrderFixed := ⟨k397, k398⟩
theorem GX7_isByWeight : g_mv yX7_isByWeight := ⟨k402, k403⟩
theorem GX7_chooseOrder : g_mv yX7_chooseOrder := ⟨k406, k407⟩
theorem GX11_orderByWeight : g_mv yX11_orderByWeight := ⟨k410, k411⟩
theorem GX12_orderByWeight : g_mv yX12_orderByWeight := ⟨k419, k420⟩
theorem GX7_has : g_mv yX7_has := ⟨k423, k424⟩
theorem GX11_promote : g_mv yX11_promote := ⟨k429, k430⟩
theorem GX12_isSymbol : g_mv yX12_isSymbol := ⟨k437, k438⟩
theorem GX12_promote : g_mv yX12_promote := ⟨k441, k442⟩
theorem GX11_rankOf : g_mv yX11_rankOf := ⟨k445, k446⟩
theorem GX12_rankOf : g_mv yX12_rankOf := ⟨k452, k453⟩
theorem GX11_setDirection : g_mv yX11_setDirection := ⟨k456, k457⟩
theorem GX12_setDirection : g_mv yX12_setDirection := ⟨k463, k464⟩
theorem GX7_arity : g_mv yX7_arity := ⟨k467, k468⟩
theorem GX11_term : g_mv yX11_term := ⟨k471, k472⟩
theorem GX12_term : g_mv yX12_term := ⟨k478, k479⟩
theorem GX8_isCrowded : g_mv yX8_isCrowded := ⟨k483, k484⟩
theorem GX11_tidy : g_mv yX11_tidy := ⟨k487, k488⟩
theorem GX5_start : g_mv yX5_start := ⟨k496, k497⟩
theorem GX5_skipBlanks : g_mv yX5_skipBlanks := ⟨k501, k502⟩
theorem GX5_peek : g_mv yX5_peek := ⟨k505, k506⟩
theorem GX5_isLetter : g_mv yX5_isLetter := ⟨k509, k510⟩
theorem GX5_fail : g_mv yX5_fail := ⟨k513, k514⟩
theorem GX5_readName : g_mv yX5_readName := ⟨k517, k518⟩
theorem GX5_readOne : g_mv yX5_readOne := ⟨k521, k522⟩
theorem GX5_readTerm : g_mv yX5_readTerm := ⟨k525, k526⟩
theorem GX11_read : g_mv yX11_read := ⟨k529, k530⟩
theorem GX12_beginText : g_mv yX12_beginText := ⟨k538, k539⟩
theorem GX12_look : g_mv yX12_look := ⟨k542, k543⟩
theorem GX12_error : g_mv yX12_error := ⟨k549, k550⟩
theorem GX12_readsTerm : g_mv yX12_readsTerm := ⟨k553, k554⟩
theorem GX12_read : g_mv yX12_read := ⟨k557, k558⟩
theorem GX5_kind : g_mv yX5_kind := ⟨k561, k562⟩
theorem GX11_errorKind : g_mv yX11_errorKind := ⟨k565, k566⟩
theorem GX12_errorKind : g_mv yX12_errorKind := ⟨k569, k570⟩
theorem GX5_position : g_mv yX5_position := ⟨k573, k574⟩
theorem GX11_errorPosition : g_mv yX11_errorPosition := ⟨k577, k578⟩
theorem GX12_errorPosition : g_mv yX12_errorPosition := ⟨k581, k582⟩
theorem GX11_termCount : g_mv yX11_termCount := ⟨k586, k587⟩
theorem GX12_termCount : g_mv yX12_termCount := ⟨k591, k592⟩
theorem GX11_isTerm : g_mv yX11_isTerm := ⟨k595, k596⟩
theorem GX11_symbolOf : g_mv yX11_symbolOf := ⟨k599, k600⟩
theorem GX12_isNumber : g_mv yX12_isNumber := ⟨k606, k607⟩
theorem GX12_symbolOf : g_mv yX12_symbolOf := ⟨k610, k611⟩
theorem GX11_argument : g_mv yX11_argument := ⟨k614, k615⟩
theorem GX12_argument : g_mv yX12_argument := ⟨k621, k622⟩
theorem GX11_size : g_mv yX11_size := ⟨k625, k626⟩
theorem GX12_size : g_mv yX12_size := ⟨k632, k633⟩
theorem GX11_depth : g_mv yX11_depth := ⟨k636, k637⟩
theorem GX12_depth : g_mv yX12_depth := ⟨k643, k644⟩
theorem GX11_compare : g_mv yX11_compare := ⟨k647, k648⟩
theorem GX12_compare : g_mv yX12_compare := ⟨k654, k655⟩
theorem GX11_occurrences : g_mv yX11_occurrences := ⟨k658, k659⟩
theorem GX12_occurrences : g_mv yX12_occurrences := ⟨k665, k666⟩
theorem GX11_replace : g_mv yX11_replace := ⟨k669, k670⟩
theorem GX12_replace : g_mv yX12_replace := ⟨k676, k677⟩
theorem GX11_write : g_mv yX11_write := ⟨k680, k681⟩
theorem GX12_write : g_mv yX12_write := ⟨k687, k688⟩
theorem GX4_length : g_mv yX4_length := ⟨k692, k693⟩
theorem GX11_outputByte : g_mv yX11_outputByte := ⟨k696, k697⟩
theorem GX12_outputByte : g_mv yX12_outputByte := ⟨k704, k705⟩
theorem GX11_equate : g_mv yX11_equate := ⟨k708, k709⟩
theorem GX12_equate : g_mv yX12_equate := ⟨k715, k716⟩
theorem GX11_separate : g_mv yX11_separate := ⟨k719, k720⟩
theorem GX12_separate : g_mv yX12_separate := ⟨k726, k727⟩
theorem GX5_readTheoryText : g_mv yX5_readTheoryText := ⟨k731, k732⟩
theorem GX5_statementCount : g_mv yX5_statementCount := ⟨k737, k738⟩
theorem GX11_readTheory : g_mv yX11_readTheory := ⟨k741, k742⟩
theorem GX12_readsTheory : g_mv yX12_readsTheory := ⟨k749, k750⟩
theorem GX12_readTheory : g_mv yX12_readTheory := ⟨k755, k756⟩
theorem GX11_equationCount : g_mv yX11_equationCount := ⟨k759, k760⟩
theorem GX12_equationCount : g_mv yX12_equationCount := ⟨k763, k764⟩
theorem GX11_separationCount : g_mv yX11_separationCount := ⟨k767, k768⟩
theorem GX12_separationCount : g_mv yX12_separationCount := ⟨k771, k772⟩
theorem GX9_firstConflict : g_mv yX9_firstConflict := ⟨k776, k777⟩
theorem GX11_isConsistent : g_mv yX11_isConsistent := ⟨k780, k781⟩
theorem GX12_firstConflict : g_mv yX12_firstConflict := ⟨k784, k785⟩
theorem GX12_isConsistent : g_mv yX12_isConsistent := ⟨k788, k789⟩
theorem GX11_conflict : g_mv yX11_conflict := ⟨k794, k795⟩
theorem GX12_conflict : g_mv yX12_conflict := ⟨k802, k803⟩
theorem GX9_openLevel : g_mv yX9_openLevel := ⟨k809, k810⟩
theorem GX11_push : g_mv yX11_push := ⟨k813, k814⟩
theorem GX12_push_ : g_mv yX12_push_ := ⟨k821, k822⟩
theorem GX11_pop : g_mv yX11_pop := ⟨k827, k828⟩
theorem GX12_pop : g_mv yX12_pop := ⟨k835, k836⟩
theorem GX11_ruleCount : g_mv yX11_ruleCount := ⟨k840, k841⟩
theorem GX12_ruleCount : g_mv yX12_ruleCount := ⟨k845, k846⟩
theorem GX11_ruleLeft : g_mv yX11_ruleLeft := ⟨k849, k850⟩
theorem GX12_ruleLeft : g_mv yX12_ruleLeft := ⟨k856, k857⟩
theorem GX11_ruleRight : g_mv yX11_ruleRight := ⟨k860, k861⟩
theorem GX12_ruleRight : g_mv yX12_ruleRight := ⟨k867, k868⟩
theorem GX11_normalForm : g_mv yX11_normalForm := ⟨k871, k872⟩
theorem GX12_normalForm : g_mv yX12_normalForm := ⟨k878, k879⟩
theorem GX11_areEqual : g_mv yX11_areEqual := ⟨k882, k883⟩
theorem GX12_areEqual : g_mv yX12_areEqual := ⟨k889, k890⟩
theorem GX11_dependsOn : g_mv yX11_dependsOn := ⟨k893, k894⟩
theorem GX12_dependsOn : g_mv yX12_dependsOn := ⟨k900, k901⟩
theorem GX11_stepCount : g_mv yX11_stepCount := ⟨k904, k905⟩
theorem GX12_stepCount : g_mv yX12_stepCount := ⟨k911, k912⟩
theorem GX11_afterSteps : g_mv yX11_afterSteps := ⟨k915, k916⟩
theorem GX12_afterSteps : g_mv yX12_afterSteps := ⟨k922, k923⟩
theorem GX11_countOfSize : g_mv yX11_countOfSize := ⟨k926, k927⟩
theorem GX12_countOfSize : g_mv yX12_countOfSize := ⟨k933, k934⟩
theorem GX11_isFinite : g_mv yX11_isFinite := ⟨k937, k938⟩
theorem GX12_isFinite : g_mv yX12_isFinite := ⟨k944, k945⟩
theorem GX11_smallest : g_mv yX11_smallest := ⟨k948, k949⟩
theorem GX12_smallest : g_mv yX12_smallest := ⟨k955, k956⟩
theorem GX11_match : g_mv yX11_match := ⟨k959, k960⟩
theorem GX12_match : g_mv yX12_match := ⟨k966, k967⟩
theorem GX11_solution : g_mv yX11_solution := ⟨k971, k972⟩
theorem GX12_solution : g_mv yX12_solution := ⟨k979, k980⟩
theorem GX11_digest : g_mv yX11_digest := ⟨k985, k986⟩
theorem GX12_digest : g_mv yX12_digest := ⟨k991, k992⟩
theorem i_ge_ge0 {x : Int32} (h : ¬ x < 0) : 0 ≤ x := Int32.not_lt.mp h
theorem i_ltN_ge0 {x : Int32} (h : ¬ x < 0) : ¬ x < 0 := h
theorem i_gt_ne0_ge0 {x : Int32} (h1 : ¬ x = 0) (h2 : ¬ x < 0) : 0 < x := by
  rw [Int32.lt_iff_toInt_lt] at h2 ⊢
  have h3 : ¬ x.toInt = 0 := fun h => h1 (Int32.toInt_inj.mp h)
  have h4 : (0 : Int32).toInt = 0 := rfl
  omega
theorem i_leN_ne0_ge0 {x : Int32} (h1 : ¬ x = 0) (h2 : ¬ x < 0) : ¬ x ≤ 0 := Int32.not_le.mpr (i_gt_ne0_ge0 h1 h2)
section VL12
variable {p : Program} {l : Launch} {e : Env} {R : Room} {s : State} {m : MethodId} {args : Array Value} {below : List Frame} {meth : Method} {c : Code} {Q : State → Prop} {D : va_G} {d : Nat → ClassId} {A : Nat → Prop}
set_option maxHeartbeats 4000000 in
theorem v_loop12a (C : VC p s m args c D d A cX12_init 2 RX12) {a t ck sl : Nat} {fs : List Value} (q0 q1 : Nat) (ws' : (Nat → Int32) → va_W) (he : ∀ g, (ws' g)[q0]? = some (a, .inr (12, fs))) (ht : ∀ g, (ws' g)[q1]? = some (t, .inl (d 0, 1024, .inl g))) (hf : fs[29]? = some (.ref t)) (hw : ∀ g g', (ws' g).set q1 (t, .inl (d 0, 1024, .inl g')) = ws' g') (hlink : Cond.fieldLink RX12 71 "GroundProverModel" "table" "[I" ∈ gW) (k : ∀ g, V p l e R s m args below meth c Q D A 2 (ws' g) [(1, .int 1024), (0, .ref a)] ck sl 571 []) :
    ∀ n j : Nat, j + n = 1024 → ∀ g, V p l e R s m args below meth c Q D A 2 (ws' g) [(1, .int (nI j)), (0, .ref a)] ck sl 549 [] := by
  intro n
  induction n with
  | zero =>
    intro j hj g
    have hj : j = 1024 := by omega
    subst hj
    refine v_iload_n C dX12_init_549 rfl 0 rfl ?_
    refine v_aload_n C dX12_init_550 rfl 1 rfl ?_
    refine v_get C EX12 q0 (he g) rfl 29 (by decide) hlink hf dX12_init_551 ?_
    refine v_alen C q1 0 (ht g) rfl 1024 (show Int32.ofNat 1024 = 1024 by decide +kernel) dX12_init_554 ?_
    refine v_icmp_ge_t C 571 dX12_init_555 (by decide) (by decide +kernel) ?_
    exact k g
  | succ n ih =>
    intro j hj g
    have hlt : j < 1024 := by omega
    refine v_iload_n C dX12_init_549 rfl 0 rfl ?_
    refine v_aload_n C dX12_init_550 rfl 1 rfl ?_
    refine v_get C EX12 q0 (he g) rfl 29 (by decide) hlink hf dX12_init_551 ?_
    refine v_alen C q1 0 (ht g) rfl 1024 (show Int32.ofNat 1024 = 1024 by decide +kernel) dX12_init_554 ?_
    refine v_icmp_ge_f C 571 dX12_init_555 (by decide) (show ¬ nI 1024 ≤ nI j from nI_ge hlt (by omega)) ?_
    refine v_aload_n C dX12_init_558 rfl 1 rfl ?_
    refine v_get C EX12 q0 (he g) rfl 29 (by decide) hlink hf dX12_init_559 ?_
    refine v_iload_n C dX12_init_562 rfl 0 rfl ?_
    refine v_iconst (v := -1) C dX12_init_563 (by decide +kernel) ?_
    refine v_iast C q1 0 (ht g) rfl (vp_in_nI hlt (by omega)) ws' (hw g) dX12_init_564 (fun g' => ?_)
    refine v_iinc C (nI (j + 1)) dX12_init_565 0 rfl (nI_1 j) (by decide) [(1, .int (nI (j + 1))), (0, .ref a)] rfl ?_
    refine v_goto C 549 dX12_init_568 (by decide) ?_
    exact ih (j + 1) (by omega) g'
theorem v_loop12 (C : VC p s m args c D d A cX12_init 2 RX12) {a t ck sl : Nat} {fs : List Value} (q0 q1 : Nat) (ws' : (Nat → Int32) → va_W) (he : ∀ g, (ws' g)[q0]? = some (a, .inr (12, fs))) (ht : ∀ g, (ws' g)[q1]? = some (t, .inl (d 0, 1024, .inl g))) (hf : fs[29]? = some (.ref t)) (hw : ∀ g g', (ws' g).set q1 (t, .inl (d 0, 1024, .inl g')) = ws' g') (hlink : Cond.fieldLink RX12 71 "GroundProverModel" "table" "[I" ∈ gW) {ws : va_W} {w0 : Nat → Int32} (h0 : ws = ws' w0) (k : ∀ g, V p l e R s m args below meth c Q D A 2 (ws' g) [(1, .int 1024), (0, .ref a)] ck sl 571 []) : V p l e R s m args below meth c Q D A 2 ws [(1, .int 0), (0, .ref a)] ck sl 549 [] := by
  subst h0
  exact v_loop12a C q0 q1 ws' he ht hf hw hlink k 1024 0 rfl w0
end VL12
