/-! WORDS: what the tables say, by their places; methods as data -/
theorem co0 : ClsOK 0 RX0 TX0 1 := ⟨by decide, rfl, coi0, tyX0_ok, nmX0⟩
theorem co1 : ClsOK 1 RX1 TX1 7 := ⟨by decide, rfl, coi1, tyX1_ok, nmX1⟩
theorem co2 : ClsOK 2 RX2 TX2 2 := ⟨by decide, rfl, coi2, tyX2_ok, nmX2⟩
theorem co3 : ClsOK 3 RX3 TX3 4 := ⟨by decide, rfl, coi3, tyX3_ok, nmX3⟩
theorem co4 : ClsOK 4 RX4 TX4 2 := ⟨by decide, rfl, coi4, tyX4_ok, nmX4⟩
theorem co5 : ClsOK 5 RX5 TX5 4 := ⟨by decide, rfl, coi5, tyX5_ok, nmX5⟩
theorem co6 : ClsOK 6 RX6 TX6 14 := ⟨by decide, rfl, coi6, tyX6_ok, nmX6⟩
theorem co7 : ClsOK 7 RX7 TX7 8 := ⟨by decide, rfl, coi7, tyX7_ok, nmX7⟩
theorem co8 : ClsOK 8 RX8 TX8 2 := ⟨by decide, rfl, coi8, tyX8_ok, nmX8⟩
theorem co9 : ClsOK 9 RX9 TX9 2 := ⟨by decide, rfl, coi9, tyX9_ok, nmX9⟩
theorem co10 : ClsOK 10 RX10 TX10 7 := ⟨by decide, rfl, coi10, tyX10_ok, nmX10⟩
theorem co11 : ClsOK 11 RJ0 TJ0 4 := ⟨by decide, rfl, coi11, tyJ0_ok, nmJ0⟩
theorem co12 : ClsOK 12 RJ4 TJ4 4 := ⟨by decide, rfl, coi12, tyJ4_ok, nmJ4⟩
theorem fw_RX10_12 : FW RX10 12 10 0 7 true := ⟨RX10, TX10, co10, by decide, w_248, rfl, fun _ => rfl⟩
theorem fw_RX10_23 : FW RX10 23 10 1 7 true := ⟨RX10, TX10, co10, by decide, w_249, rfl, fun _ => rfl⟩
theorem fw_RX10_30 : FW RX10 30 10 2 7 true := ⟨RX10, TX10, co10, by decide, w_250, rfl, fun _ => rfl⟩
theorem fw_RX10_34 : FW RX10 34 10 3 7 true := ⟨RX10, TX10, co10, by decide, w_251, rfl, fun _ => rfl⟩
theorem fw_RX10_39 : FW RX10 39 10 4 7 true := ⟨RX10, TX10, co10, by decide, w_252, rfl, fun _ => rfl⟩
theorem fw_RX10_46 : FW RX10 46 10 5 7 false := ⟨RX10, TX10, co10, by decide, w_253, rfl, fun h => by cases h⟩
theorem fw_RX10_55 : FW RX10 55 7 0 8 true := ⟨RX7, TX7, co7, by decide, w_125, rfl, fun _ => rfl⟩
theorem fw_RX10_59 : FW RX10 59 8 1 2 false := ⟨RX8, TX8, co8, by decide, w_94, rfl, fun h => by cases h⟩
theorem fw_RX10_69 : FW RX10 69 7 3 8 false := ⟨RX7, TX7, co7, by decide, w_134, rfl, fun h => by cases h⟩
theorem fw_RX10_72 : FW RX10 72 3 3 4 false := ⟨RX3, TX3, co3, by decide, w_114, rfl, fun h => by cases h⟩
theorem fw_RX10_86 : FW RX10 86 9 1 2 false := ⟨RX9, TX9, co9, by decide, w_225, rfl, fun h => by cases h⟩
theorem fw_RX10_100 : FW RX10 100 5 3 4 false := ⟨RX5, TX5, co5, by decide, w_1017, rfl, fun h => by cases h⟩
theorem fw_RX10_103 : FW RX10 103 7 2 8 false := ⟨RX7, TX7, co7, by decide, w_132, rfl, fun h => by cases h⟩
theorem fw_RX10_107 : FW RX10 107 4 1 2 false := ⟨RX4, TX4, co4, by decide, w_1007, rfl, fun h => by cases h⟩
theorem fw_RX10_117 : FW RX10 117 1 4 7 false := ⟨RX1, TX1, co1, by decide, w_848, rfl, fun h => by cases h⟩
theorem fw_RX10_118 : FW RX10 118 1 5 7 false := ⟨RX1, TX1, co1, by decide, w_850, rfl, fun h => by cases h⟩
theorem fw_RX10_121 : FW RX10 121 7 1 8 true := ⟨RX7, TX7, co7, by decide, w_129, rfl, fun _ => rfl⟩
theorem fw_RX10_125 : FW RX10 125 1 6 7 true := ⟨RX1, TX1, co1, by decide, w_852, rfl, fun _ => rfl⟩
theorem fw_RX10_138 : FW RX10 138 7 5 8 false := ⟨RX7, TX7, co7, by decide, w_137, rfl, fun h => by cases h⟩
theorem fw_RX10_141 : FW RX10 141 7 4 8 false := ⟨RX7, TX7, co7, by decide, w_136, rfl, fun h => by cases h⟩
theorem fw_RX10_144 : FW RX10 144 7 6 8 false := ⟨RX7, TX7, co7, by decide, w_139, rfl, fun h => by cases h⟩
theorem fw_RX10_147 : FW RX10 147 7 7 8 false := ⟨RX7, TX7, co7, by decide, w_142, rfl, fun h => by cases h⟩
theorem fw_RX10_157 : FW RX10 157 6 9 14 false := ⟨RX6, TX6, co6, by decide, w_177, rfl, fun h => by cases h⟩
theorem fw_RX10_160 : FW RX10 160 6 10 14 false := ⟨RX6, TX6, co6, by decide, w_179, rfl, fun h => by cases h⟩
theorem fw_RX10_166 : FW RX10 166 6 11 14 false := ⟨RX6, TX6, co6, by decide, w_181, rfl, fun h => by cases h⟩
theorem fw_RX10_169 : FW RX10 169 6 12 14 false := ⟨RX6, TX6, co6, by decide, w_183, rfl, fun h => by cases h⟩
theorem fw_RX10_172 : FW RX10 172 6 13 14 false := ⟨RX6, TX6, co6, by decide, w_185, rfl, fun h => by cases h⟩
theorem fw_RX0_11 : FW RX0 11 0 0 1 true := ⟨RX0, TX0, co0, by decide, w_934, rfl, fun _ => rfl⟩
theorem fw_RX0_28 : FW RX0 28 6 0 14 true := ⟨RX6, TX6, co6, by decide, w_167, rfl, fun _ => rfl⟩
theorem fw_RX0_34 : FW RX0 34 7 0 8 true := ⟨RX7, TX7, co7, by decide, w_127, rfl, fun _ => rfl⟩
theorem fw_RX1_9 : FW RX1 9 1 4 7 false := ⟨RX1, TX1, co1, by decide, w_847, rfl, fun h => by cases h⟩
theorem fw_RX1_17 : FW RX1 17 1 6 7 true := ⟨RX1, TX1, co1, by decide, w_851, rfl, fun _ => rfl⟩
theorem fw_RX1_21 : FW RX1 21 1 0 7 true := ⟨RX1, TX1, co1, by decide, w_843, rfl, fun _ => rfl⟩
theorem fw_RX1_25 : FW RX1 25 9 1 2 false := ⟨RX9, TX9, co9, by decide, w_223, rfl, fun h => by cases h⟩
theorem fw_RX1_30 : FW RX1 30 1 1 7 true := ⟨RX1, TX1, co1, by decide, w_844, rfl, fun _ => rfl⟩
theorem fw_RX1_34 : FW RX1 34 1 3 7 false := ⟨RX1, TX1, co1, by decide, w_846, rfl, fun h => by cases h⟩
theorem fw_RX1_55 : FW RX1 55 1 2 7 false := ⟨RX1, TX1, co1, by decide, w_845, rfl, fun h => by cases h⟩
theorem fw_RX1_62 : FW RX1 62 1 5 7 false := ⟨RX1, TX1, co1, by decide, w_849, rfl, fun h => by cases h⟩
theorem fw_RX2_9 : FW RX2 9 2 0 2 true := ⟨RX2, TX2, co2, by decide, w_240, rfl, fun _ => rfl⟩
theorem fw_RX2_15 : FW RX2 15 2 1 2 false := ⟨RX2, TX2, co2, by decide, w_241, rfl, fun h => by cases h⟩
theorem fw_RX3_11 : FW RX3 11 3 0 4 true := ⟨RX3, TX3, co3, by decide, w_110, rfl, fun _ => rfl⟩
theorem fw_RX3_15 : FW RX3 15 3 1 4 true := ⟨RX3, TX3, co3, by decide, w_111, rfl, fun _ => rfl⟩
theorem fw_RX3_18 : FW RX3 18 3 2 4 true := ⟨RX3, TX3, co3, by decide, w_112, rfl, fun _ => rfl⟩
theorem fw_RX3_21 : FW RX3 21 3 3 4 false := ⟨RX3, TX3, co3, by decide, w_113, rfl, fun h => by cases h⟩
theorem fw_RX4_11 : FW RX4 11 4 0 2 true := ⟨RX4, TX4, co4, by decide, w_1004, rfl, fun _ => rfl⟩
theorem fw_RX4_15 : FW RX4 15 4 1 2 false := ⟨RX4, TX4, co4, by decide, w_1005, rfl, fun h => by cases h⟩
theorem fw_RX5_9 : FW RX5 9 5 3 4 false := ⟨RX5, TX5, co5, by decide, w_1016, rfl, fun h => by cases h⟩
theorem fw_RX5_15 : FW RX5 15 5 0 4 true := ⟨RX5, TX5, co5, by decide, w_1013, rfl, fun _ => rfl⟩
theorem fw_RX5_21 : FW RX5 21 9 1 2 false := ⟨RX9, TX9, co9, by decide, w_222, rfl, fun h => by cases h⟩
theorem fw_RX5_29 : FW RX5 29 5 1 4 true := ⟨RX5, TX5, co5, by decide, w_1014, rfl, fun _ => rfl⟩
theorem fw_RX5_37 : FW RX5 37 5 2 4 false := ⟨RX5, TX5, co5, by decide, w_1015, rfl, fun h => by cases h⟩
theorem fw_RX6_9 : FW RX6 9 6 1 14 true := ⟨RX6, TX6, co6, by decide, w_168, rfl, fun _ => rfl⟩
theorem fw_RX6_15 : FW RX6 15 6 2 14 false := ⟨RX6, TX6, co6, by decide, w_169, rfl, fun h => by cases h⟩
theorem fw_RX6_18 : FW RX6 18 6 4 14 false := ⟨RX6, TX6, co6, by decide, w_171, rfl, fun h => by cases h⟩
theorem fw_RX6_21 : FW RX6 21 6 0 14 true := ⟨RX6, TX6, co6, by decide, w_166, rfl, fun _ => rfl⟩
theorem fw_RX6_25 : FW RX6 25 7 2 8 false := ⟨RX7, TX7, co7, by decide, w_131, rfl, fun h => by cases h⟩
theorem fw_RX6_31 : FW RX6 31 7 0 8 true := ⟨RX7, TX7, co7, by decide, w_126, rfl, fun _ => rfl⟩
theorem fw_RX6_35 : FW RX6 35 8 1 2 false := ⟨RX8, TX8, co8, by decide, w_95, rfl, fun h => by cases h⟩
theorem fw_RX6_41 : FW RX6 41 4 1 2 false := ⟨RX4, TX4, co4, by decide, w_1006, rfl, fun h => by cases h⟩
theorem fw_RX6_55 : FW RX6 55 6 8 14 false := ⟨RX6, TX6, co6, by decide, w_175, rfl, fun h => by cases h⟩
theorem fw_RX6_64 : FW RX6 64 6 9 14 false := ⟨RX6, TX6, co6, by decide, w_176, rfl, fun h => by cases h⟩
theorem fw_RX6_67 : FW RX6 67 6 5 14 false := ⟨RX6, TX6, co6, by decide, w_172, rfl, fun h => by cases h⟩
theorem fw_RX6_73 : FW RX6 73 6 6 14 false := ⟨RX6, TX6, co6, by decide, w_173, rfl, fun h => by cases h⟩
theorem fw_RX6_76 : FW RX6 76 6 7 14 false := ⟨RX6, TX6, co6, by decide, w_174, rfl, fun h => by cases h⟩
theorem fw_RX6_79 : FW RX6 79 6 3 14 false := ⟨RX6, TX6, co6, by decide, w_170, rfl, fun h => by cases h⟩
theorem fw_RX6_82 : FW RX6 82 6 10 14 false := ⟨RX6, TX6, co6, by decide, w_178, rfl, fun h => by cases h⟩
theorem fw_RX6_85 : FW RX6 85 6 11 14 false := ⟨RX6, TX6, co6, by decide, w_180, rfl, fun h => by cases h⟩
theorem fw_RX6_88 : FW RX6 88 6 12 14 false := ⟨RX6, TX6, co6, by decide, w_182, rfl, fun h => by cases h⟩
theorem fw_RX6_91 : FW RX6 91 6 13 14 false := ⟨RX6, TX6, co6, by decide, w_184, rfl, fun h => by cases h⟩
theorem fw_RX6_103 : FW RX6 103 7 7 8 false := ⟨RX7, TX7, co7, by decide, w_141, rfl, fun h => by cases h⟩
theorem fw_RX6_144 : FW RX6 144 7 1 8 true := ⟨RX7, TX7, co7, by decide, w_130, rfl, fun _ => rfl⟩
theorem fw_RX7_12 : FW RX7 12 7 0 8 true := ⟨RX7, TX7, co7, by decide, w_124, rfl, fun _ => rfl⟩
theorem fw_RX7_20 : FW RX7 20 7 1 8 true := ⟨RX7, TX7, co7, by decide, w_128, rfl, fun _ => rfl⟩
theorem fw_RX7_27 : FW RX7 27 7 3 8 false := ⟨RX7, TX7, co7, by decide, w_133, rfl, fun h => by cases h⟩
theorem fw_RX7_31 : FW RX7 31 7 4 8 false := ⟨RX7, TX7, co7, by decide, w_135, rfl, fun h => by cases h⟩
theorem fw_RX7_35 : FW RX7 35 7 6 8 false := ⟨RX7, TX7, co7, by decide, w_138, rfl, fun h => by cases h⟩
theorem fw_RX7_38 : FW RX7 38 7 7 8 false := ⟨RX7, TX7, co7, by decide, w_140, rfl, fun h => by cases h⟩
theorem fw_RX8_9 : FW RX8 9 8 0 2 true := ⟨RX8, TX8, co8, by decide, w_92, rfl, fun _ => rfl⟩
theorem fw_RX8_15 : FW RX8 15 8 1 2 false := ⟨RX8, TX8, co8, by decide, w_93, rfl, fun h => by cases h⟩
theorem fw_RX9_9 : FW RX9 9 9 0 2 true := ⟨RX9, TX9, co9, by decide, w_221, rfl, fun _ => rfl⟩
theorem fw_RX9_15 : FW RX9 15 9 1 2 false := ⟨RX9, TX9, co9, by decide, w_224, rfl, fun h => by cases h⟩
theorem fw_RJ5_15 : FW RJ5 15 12 0 4 false := ⟨RJ4, TJ4, co12, by decide, w_584, rfl, fun h => by cases h⟩
theorem fw_RJ5_22 : FW RJ5 22 12 1 4 false := ⟨RJ4, TJ4, co12, by decide, w_585, rfl, fun h => by cases h⟩
theorem fw_RJ5_79 : FW RJ5 79 12 3 4 false := ⟨RJ4, TJ4, co12, by decide, w_587, rfl, fun h => by cases h⟩
theorem fw_RJ0_9 : FW RJ0 9 11 0 4 true := ⟨RJ0, TJ0, co11, by decide, w_795, rfl, fun _ => rfl⟩
theorem fw_RJ0_15 : FW RJ0 15 11 1 4 true := ⟨RJ0, TJ0, co11, by decide, w_796, rfl, fun _ => rfl⟩
theorem fw_RJ0_1048 : FW RJ0 1048 12 2 4 false := ⟨RJ4, TJ4, co12, by decide, w_586, rfl, fun h => by cases h⟩
theorem gw_RJ5_18 : Cond.fieldLink RJ5 18 RJ0 "COMPACT_STRINGS" "Z" ∈ lwg := w_575
theorem gw_RJ6_83 : Cond.fieldLink RJ6 83 RJ6 "DigitOnes" "[B" ∈ lwg := w_975
theorem gw_RJ6_87 : Cond.fieldLink RJ6 87 RJ6 "DigitTens" "[B" ∈ lwg := w_977
theorem gw_RJ0_38 : Cond.fieldLink RJ0 38 RJ0 "COMPACT_STRINGS" "Z" ∈ lwg := w_673
theorem gw_RJ0_1053 : Cond.fieldLink RJ0 1053 RJ3 "SIOOBE_FORMATTER" "Ljava/util/function/BiFunction;" ∈ lwg := w_651
def μX0_init : MI := (RX0, cX0_init, 2, none, yX0_init, none)
theorem cd_X0_init : Cond.code (μy μX0_init) (μc μX0_init) (μn μX0_init) (μr μX0_init) ∈ lwg := w_932
theorem cI_X0_init : Cond.initialized (μy μX0_init).cls ∈ lwg := w_67
def μX0_operand : MI := (RX0, cX0_operand, 2, (some .int), yX0_operand, none)
theorem cd_X0_operand : Cond.code (μy μX0_operand) (μc μX0_operand) (μn μX0_operand) (μr μX0_operand) ∈ lwg := w_923
theorem cI_X0_operand : Cond.initialized (μy μX0_operand).cls ∈ lwg := w_67
def μX0_isTrue : MI := (RX0, cX0_isTrue, 9, (some .boolean), yX0_isTrue, none)
theorem cd_X0_isTrue : Cond.code (μy μX0_isTrue) (μc μX0_isTrue) (μn μX0_isTrue) (μr μX0_isTrue) ∈ lwg := w_341
theorem cI_X0_isTrue : Cond.initialized (μy μX0_isTrue).cls ∈ lwg := w_67
def μX0_compared : MI := (RX0, cX0_compared, 3, (some .boolean), yX0_compared, none)
theorem cd_X0_compared : Cond.code (μy μX0_compared) (μc μX0_compared) (μn μX0_compared) (μr μX0_compared) ∈ lwg := w_374
theorem cI_X0_compared : Cond.initialized (μy μX0_compared).cls ∈ lwg := w_67
def μX0_value : MI := (RX0, cX0_value, 7, (some .int), yX0_value, none)
theorem cd_X0_value : Cond.code (μy μX0_value) (μc μX0_value) (μn μX0_value) (μr μX0_value) ∈ lwg := w_345
theorem cI_X0_value : Cond.initialized (μy μX0_value).cls ∈ lwg := w_67
def μX1_init : MI := (RX1, cX1_init, 2, none, yX1_init, none)
theorem cd_X1_init : Cond.code (μy μX1_init) (μc μX1_init) (μn μX1_init) (μr μX1_init) ∈ lwg := w_840
theorem cI_X1_init : Cond.initialized (μy μX1_init).cls ∈ lwg := w_66
def μX1_read : MI := (RX1, cX1_read, 3, (some .int), yX1_read, none)
theorem cd_X1_read : Cond.code (μy μX1_read) (μc μX1_read) (μn μX1_read) (μr μX1_read) ∈ lwg := w_871
theorem cI_X1_read : Cond.initialized (μy μX1_read).cls ∈ lwg := w_66
def μX1_conditionOf : MI := (RX1, cX1_conditionOf, 3, (some .boolean), yX1_conditionOf, none)
theorem cd_X1_conditionOf : Cond.code (μy μX1_conditionOf) (μc μX1_conditionOf) (μn μX1_conditionOf) (μr μX1_conditionOf) ∈ lwg := w_892
theorem cI_X1_conditionOf : Cond.initialized (μy μX1_conditionOf).cls ∈ lwg := w_66
def μX1_failed : MI := (RX1, cX1_failed, 1, (some .boolean), yX1_failed, none)
theorem cd_X1_failed : Cond.code (μy μX1_failed) (μc μX1_failed) (μn μX1_failed) (μr μX1_failed) ∈ lwg := w_880
theorem cI_X1_failed : Cond.initialized (μy μX1_failed).cls ∈ lwg := w_66
def μX1_comes : MI := (RX1, cX1_comes, 2, (some .boolean), yX1_comes, none)
theorem cd_X1_comes : Cond.code (μy μX1_comes) (μc μX1_comes) (μn μX1_comes) (μr μX1_comes) ∈ lwg := w_888
theorem cI_X1_comes : Cond.initialized (μy μX1_comes).cls ∈ lwg := w_66
def μX1_passes : MI := (RX1, cX1_passes, 2, (some .boolean), yX1_passes, none)
theorem cd_X1_passes : Cond.code (μy μX1_passes) (μc μX1_passes) (μn μX1_passes) (μr μX1_passes) ∈ lwg := w_884
theorem cI_X1_passes : Cond.initialized (μy μX1_passes).cls ∈ lwg := w_66
def μX1_emit : MI := (RX1, cX1_emit, 2, none, yX1_emit, none)
theorem cd_X1_emit : Cond.code (μy μX1_emit) (μc μX1_emit) (μn μX1_emit) (μr μX1_emit) ∈ lwg := w_912
theorem cI_X1_emit : Cond.initialized (μy μX1_emit).cls ∈ lwg := w_66
def μX1_either : MI := (RX1, cX1_either, 4, (some .boolean), yX1_either, none)
theorem cd_X1_either : Cond.code (μy μX1_either) (μc μX1_either) (μn μX1_either) (μr μX1_either) ∈ lwg := w_896
theorem cI_X1_either : Cond.initialized (μy μX1_either).cls ∈ lwg := w_66
def μX1_both : MI := (RX1, cX1_both, 4, (some .boolean), yX1_both, none)
theorem cd_X1_both : Cond.code (μy μX1_both) (μc μX1_both) (μn μX1_both) (μr μX1_both) ∈ lwg := w_900
theorem cI_X1_both : Cond.initialized (μy μX1_both).cls ∈ lwg := w_66
def μX1_factor : MI := (RX1, cX1_factor, 4, (some .boolean), yX1_factor, none)
theorem cd_X1_factor : Cond.code (μy μX1_factor) (μc μX1_factor) (μn μX1_factor) (μr μX1_factor) ∈ lwg := w_904
theorem cI_X1_factor : Cond.initialized (μy μX1_factor).cls ∈ lwg := w_66
def μX1_test : MI := (RX1, cX1_test, 3, (some .boolean), yX1_test, none)
theorem cd_X1_test : Cond.code (μy μX1_test) (μc μX1_test) (μn μX1_test) (μr μX1_test) ∈ lwg := w_908
theorem cI_X1_test : Cond.initialized (μy μX1_test).cls ∈ lwg := w_66
def μX1_operand : MI := (RX1, cX1_operand, 6, (some .boolean), yX1_operand, none)
theorem cd_X1_operand : Cond.code (μy μX1_operand) (μc μX1_operand) (μn μX1_operand) (μr μX1_operand) ∈ lwg := w_916
theorem cI_X1_operand : Cond.initialized (μy μX1_operand).cls ∈ lwg := w_66
def μX1_column : MI := (RX1, cX1_column, 4, (some .boolean), yX1_column, none)
theorem cd_X1_column : Cond.code (μy μX1_column) (μc μX1_column) (μn μX1_column) (μr μX1_column) ∈ lwg := w_920
theorem cI_X1_column : Cond.initialized (μy μX1_column).cls ∈ lwg := w_66
def μX1_number : MI := (RX1, cX1_number, 6, (some .boolean), yX1_number, none)
theorem cd_X1_number : Cond.code (μy μX1_number) (μc μX1_number) (μn μX1_number) (μr μX1_number) ∈ lwg := w_927
theorem cI_X1_number : Cond.initialized (μy μX1_number).cls ∈ lwg := w_66
def μX2_init : MI := (RX2, cX2_init, 1, none, yX2_init, none)
theorem cd_X2_init : Cond.code (μy μX2_init) (μc μX2_init) (μn μX2_init) (μr μX2_init) ∈ lwg := w_238
theorem cI_X2_init : Cond.initialized (μy μX2_init).cls ∈ lwg := w_55
def μX3_init : MI := (RX3, cX3_init, 1, none, yX3_init, none)
theorem cd_X3_init : Cond.code (μy μX3_init) (μc μX3_init) (μn μX3_init) (μr μX3_init) ∈ lwg := w_108
theorem cI_X3_init : Cond.initialized (μy μX3_init).cls ∈ lwg := w_52
def μX3_has : MI := (RX3, cX3_has, 2, (some .boolean), yX3_has, none)
theorem cd_X3_has : Cond.code (μy μX3_has) (μc μX3_has) (μn μX3_has) (μr μX3_has) ∈ lwg := w_463
theorem cI_X3_has : Cond.initialized (μy μX3_has).cls ∈ lwg := w_52
def μX3_add : MI := (RX3, cX3_add, 6, none, yX3_add, none)
theorem cd_X3_add : Cond.code (μy μX3_add) (μc μX3_add) (μn μX3_add) (μr μX3_add) ∈ lwg := w_450
theorem cI_X3_add : Cond.initialized (μy μX3_add).cls ∈ lwg := w_52
def μX3_startOf : MI := (RX3, cX3_startOf, 2, (some .int), yX3_startOf, none)
theorem cd_X3_startOf : Cond.code (μy μX3_startOf) (μc μX3_startOf) (μn μX3_startOf) (μr μX3_startOf) ∈ lwg := w_467
theorem cI_X3_startOf : Cond.initialized (μy μX3_startOf).cls ∈ lwg := w_52
def μX3_rowsOf : MI := (RX3, cX3_rowsOf, 2, (some .int), yX3_rowsOf, none)
theorem cd_X3_rowsOf : Cond.code (μy μX3_rowsOf) (μc μX3_rowsOf) (μn μX3_rowsOf) (μr μX3_rowsOf) ∈ lwg := w_472
theorem cI_X3_rowsOf : Cond.initialized (μy μX3_rowsOf).cls ∈ lwg := w_52
def μX3_letterOf : MI := (RX3, cX3_letterOf, 3, (some .int), yX3_letterOf, none)
theorem cd_X3_letterOf : Cond.code (μy μX3_letterOf) (μc μX3_letterOf) (μn μX3_letterOf) (μr μX3_letterOf) ∈ lwg := w_480
theorem cI_X3_letterOf : Cond.initialized (μy μX3_letterOf).cls ∈ lwg := w_52
def μX3_lettersOf : MI := (RX3, cX3_lettersOf, 5, (some .int), yX3_lettersOf, none)
theorem cd_X3_lettersOf : Cond.code (μy μX3_lettersOf) (μc μX3_lettersOf) (μn μX3_lettersOf) (μr μX3_lettersOf) ∈ lwg := w_476
theorem cI_X3_lettersOf : Cond.initialized (μy μX3_lettersOf).cls ∈ lwg := w_52
def μX3_covering : MI := (RX3, cX3_covering, 4, (some .int), yX3_covering, none)
theorem cd_X3_covering : Cond.code (μy μX3_covering) (μc μX3_covering) (μn μX3_covering) (μr μX3_covering) ∈ lwg := w_503
theorem cI_X3_covering : Cond.initialized (μy μX3_covering).cls ∈ lwg := w_52
def μX4_init : MI := (RX4, cX4_init, 2, none, yX4_init, none)
theorem cd_X4_init : Cond.code (μy μX4_init) (μc μX4_init) (μn μX4_init) (μr μX4_init) ∈ lwg := w_1002
theorem cI_X4_init : Cond.initialized (μy μX4_init).cls ∈ lwg := w_71
def μX4_fact : MI := (RX4, cX4_fact, 4, (some .int), yX4_fact, none)
theorem cd_X4_fact : Cond.code (μy μX4_fact) (μc μX4_fact) (μn μX4_fact) (μr μX4_fact) ∈ lwg := w_304
theorem cI_X4_fact : Cond.initialized (μy μX4_fact).cls ∈ lwg := w_71
def μX4_note : MI := (RX4, cX4_note, 5, none, yX4_note, none)
theorem cd_X4_note : Cond.code (μy μX4_note) (μc μX4_note) (μn μX4_note) (μr μX4_note) ∈ lwg := w_1068
theorem cI_X4_note : Cond.initialized (μy μX4_note).cls ∈ lwg := w_71
def μX4_add : MI := (RX4, cX4_add, 7, (some .int), yX4_add, none)
theorem cd_X4_add : Cond.code (μy μX4_add) (μc μX4_add) (μn μX4_add) (μr μX4_add) ∈ lwg := w_1064
theorem cI_X4_add : Cond.initialized (μy μX4_add).cls ∈ lwg := w_71
def μX4_addLeaf : MI := (RX4, cX4_addLeaf, 4, (some .int), yX4_addLeaf, none)
theorem cd_X4_addLeaf : Cond.code (μy μX4_addLeaf) (μc μX4_addLeaf) (μn μX4_addLeaf) (μr μX4_addLeaf) ∈ lwg := w_1060
theorem cI_X4_addLeaf : Cond.initialized (μy μX4_addLeaf).cls ∈ lwg := w_71
def μX4_addRepetition : MI := (RX4, cX4_addRepetition, 6, (some .int), yX4_addRepetition, none)
theorem cd_X4_addRepetition : Cond.code (μy μX4_addRepetition) (μc μX4_addRepetition) (μn μX4_addRepetition) (μr μX4_addRepetition) ∈ lwg := w_1094
theorem cI_X4_addRepetition : Cond.initialized (μy μX4_addRepetition).cls ∈ lwg := w_71
def μX4_link : MI := (RX4, cX4_link, 3, none, yX4_link, none)
theorem cd_X4_link : Cond.code (μy μX4_link) (μc μX4_link) (μn μX4_link) (μr μX4_link) ∈ lwg := w_1085
theorem cI_X4_link : Cond.initialized (μy μX4_link).cls ∈ lwg := w_71
def μX5_init : MI := (RX5, cX5_init, 2, none, yX5_init, none)
theorem cd_X5_init : Cond.code (μy μX5_init) (μc μX5_init) (μn μX5_init) (μr μX5_init) ∈ lwg := w_996
theorem cI_X5_init : Cond.initialized (μy μX5_init).cls ∈ lwg := w_70
def μX5_read : MI := (RX5, cX5_read, 2, (some (.object "RowPatterns$Parts")), yX5_read, none)
theorem cd_X5_read : Cond.code (μy μX5_read) (μc μX5_read) (μn μX5_read) (μr μX5_read) ∈ lwg := w_1030
theorem cI_X5_read : Cond.initialized (μy μX5_read).cls ∈ lwg := w_70
def μX5_failed : MI := (RX5, cX5_failed, 2, (some .int), yX5_failed, none)
theorem cd_X5_failed : Cond.code (μy μX5_failed) (μc μX5_failed) (μn μX5_failed) (μr μX5_failed) ∈ lwg := w_1056
theorem cI_X5_failed : Cond.initialized (μy μX5_failed).cls ∈ lwg := w_70
def μX5_comes : MI := (RX5, cX5_comes, 2, (some .boolean), yX5_comes, none)
theorem cd_X5_comes : Cond.code (μy μX5_comes) (μc μX5_comes) (μn μX5_comes) (μr μX5_comes) ∈ lwg := w_1077
theorem cI_X5_comes : Cond.initialized (μy μX5_comes).cls ∈ lwg := w_70
def μX5_choice : MI := (RX5, cX5_choice, 6, (some .int), yX5_choice, none)
theorem cd_X5_choice : Cond.code (μy μX5_choice) (μc μX5_choice) (μn μX5_choice) (μr μX5_choice) ∈ lwg := w_1034
theorem cI_X5_choice : Cond.initialized (μy μX5_choice).cls ∈ lwg := w_70
def μX5_sequence : MI := (RX5, cX5_sequence, 6, (some .int), yX5_sequence, none)
theorem cd_X5_sequence : Cond.code (μy μX5_sequence) (μc μX5_sequence) (μn μX5_sequence) (μr μX5_sequence) ∈ lwg := w_1038
theorem cI_X5_sequence : Cond.initialized (μy μX5_sequence).cls ∈ lwg := w_70
def μX5_atomComes : MI := (RX5, cX5_atomComes, 3, (some .boolean), yX5_atomComes, none)
theorem cd_X5_atomComes : Cond.code (μy μX5_atomComes) (μc μX5_atomComes) (μn μX5_atomComes) (μr μX5_atomComes) ∈ lwg := w_1050
theorem cI_X5_atomComes : Cond.initialized (μy μX5_atomComes).cls ∈ lwg := w_70
def μX5_piece : MI := (RX5, cX5_piece, 3, (some .int), yX5_piece, none)
theorem cd_X5_piece : Cond.code (μy μX5_piece) (μc μX5_piece) (μn μX5_piece) (μr μX5_piece) ∈ lwg := w_1042
theorem cI_X5_piece : Cond.initialized (μy μX5_piece).cls ∈ lwg := w_70
def μX5_atom : MI := (RX5, cX5_atom, 3, (some .int), yX5_atom, none)
theorem cd_X5_atom : Cond.code (μy μX5_atom) (μc μX5_atom) (μn μX5_atom) (μr μX5_atom) ∈ lwg := w_1046
theorem cI_X5_atom : Cond.initialized (μy μX5_atom).cls ∈ lwg := w_70
def μX5_bracketed : MI := (RX5, cX5_bracketed, 3, (some .int), yX5_bracketed, none)
theorem cd_X5_bracketed : Cond.code (μy μX5_bracketed) (μc μX5_bracketed) (μn μX5_bracketed) (μr μX5_bracketed) ∈ lwg := w_1073
theorem cI_X5_bracketed : Cond.initialized (μy μX5_bracketed).cls ∈ lwg := w_70
def μX5_anyOrder : MI := (RX5, cX5_anyOrder, 6, (some .int), yX5_anyOrder, none)
theorem cd_X5_anyOrder : Cond.code (μy μX5_anyOrder) (μc μX5_anyOrder) (μn μX5_anyOrder) (μr μX5_anyOrder) ∈ lwg := w_1081
theorem cI_X5_anyOrder : Cond.initialized (μy μX5_anyOrder).cls ∈ lwg := w_70
def μX5_bounded : MI := (RX5, cX5_bounded, 4, (some .int), yX5_bounded, none)
theorem cd_X5_bounded : Cond.code (μy μX5_bounded) (μc μX5_bounded) (μn μX5_bounded) (μr μX5_bounded) ∈ lwg := w_1098
theorem cI_X5_bounded : Cond.initialized (μy μX5_bounded).cls ∈ lwg := w_70
def μX5_mostBehind : MI := (RX5, cX5_mostBehind, 4, (some .int), yX5_mostBehind, none)
theorem cd_X5_mostBehind : Cond.code (μy μX5_mostBehind) (μc μX5_mostBehind) (μn μX5_mostBehind) (μr μX5_mostBehind) ∈ lwg := w_1106
theorem cI_X5_mostBehind : Cond.initialized (μy μX5_mostBehind).cls ∈ lwg := w_70
def μX5_number : MI := (RX5, cX5_number, 5, (some .int), yX5_number, none)
theorem cd_X5_number : Cond.code (μy μX5_number) (μc μX5_number) (μn μX5_number) (μr μX5_number) ∈ lwg := w_1102
theorem cI_X5_number : Cond.initialized (μy μX5_number).cls ∈ lwg := w_70
def μX5_repeated : MI := (RX5, cX5_repeated, 5, (some .int), yX5_repeated, none)
theorem cd_X5_repeated : Cond.code (μy μX5_repeated) (μc μX5_repeated) (μn μX5_repeated) (μr μX5_repeated) ∈ lwg := w_1090
theorem cI_X5_repeated : Cond.initialized (μy μX5_repeated).cls ∈ lwg := w_70
def μX6_init : MI := (RX6, cX6_init, 2, none, yX6_init, none)
theorem cd_X6_init : Cond.code (μy μX6_init) (μc μX6_init) (μn μX6_init) (μr μX6_init) ∈ lwg := w_164
theorem cI_X6_init : Cond.initialized (μy μX6_init).cls ∈ lwg := w_53
def μX6_letterAt : MI := (RX6, cX6_letterAt, 2, (some .int), yX6_letterAt, none)
theorem cd_X6_letterAt : Cond.code (μy μX6_letterAt) (μc μX6_letterAt) (μn μX6_letterAt) (μr μX6_letterAt) ∈ lwg := w_357
theorem cI_X6_letterAt : Cond.initialized (μy μX6_letterAt).cls ∈ lwg := w_53
def μX6_seek : MI := (RX6, cX6_seek, 6, (some .int), yX6_seek, none)
theorem cd_X6_seek : Cond.code (μy μX6_seek) (μc μX6_seek) (μn μX6_seek) (μr μX6_seek) ∈ lwg := w_291
theorem cI_X6_seek : Cond.initialized (μy μX6_seek).cls ∈ lwg := w_53
def μX6_begin : MI := (RX6, cX6_begin, 3, none, yX6_begin, none)
theorem cd_X6_begin : Cond.code (μy μX6_begin) (μc μX6_begin) (μn μX6_begin) (μr μX6_begin) ∈ lwg := w_295
theorem cI_X6_begin : Cond.initialized (μy μX6_begin).cls ∈ lwg := w_53
def μX6_noteWay : MI := (RX6, cX6_noteWay, 2, none, yX6_noteWay, none)
theorem cd_X6_noteWay : Cond.code (μy μX6_noteWay) (μc μX6_noteWay) (μn μX6_noteWay) (μr μX6_noteWay) ∈ lwg := w_409
theorem cI_X6_noteWay : Cond.initialized (μy μX6_noteWay).cls ∈ lwg := w_53
def μX6_mayTry : MI := (RX6, cX6_mayTry, 1, (some .boolean), yX6_mayTry, none)
theorem cd_X6_mayTry : Cond.code (μy μX6_mayTry) (μc μX6_mayTry) (μn μX6_mayTry) (μr μX6_mayTry) ∈ lwg := w_332
theorem cI_X6_mayTry : Cond.initialized (μy μX6_mayTry).cls ∈ lwg := w_53
def μX6_come : MI := (RX6, cX6_come, 3, (some .int), yX6_come, none)
theorem cd_X6_come : Cond.code (μy μX6_come) (μc μX6_come) (μn μX6_come) (μr μX6_come) ∈ lwg := w_300
theorem cI_X6_come : Cond.initialized (μy μX6_come).cls ∈ lwg := w_53
def μX6_goOn : MI := (RX6, cX6_goOn, 5, (some .int), yX6_goOn, none)
theorem cd_X6_goOn : Cond.code (μy μX6_goOn) (μc μX6_goOn) (μn μX6_goOn) (μr μX6_goOn) ∈ lwg := w_401
theorem cI_X6_goOn : Cond.initialized (μy μX6_goOn).cls ∈ lwg := w_53
def μX6_goBack : MI := (RX6, cX6_goBack, 3, (some .int), yX6_goBack, none)
theorem cd_X6_goBack : Cond.code (μy μX6_goBack) (μc μX6_goBack) (μn μX6_goBack) (μr μX6_goBack) ∈ lwg := w_417
theorem cI_X6_goBack : Cond.initialized (μy μX6_goBack).cls ∈ lwg := w_53
def μX6_takeLetter : MI := (RX6, cX6_takeLetter, 3, (some .int), yX6_takeLetter, none)
theorem cd_X6_takeLetter : Cond.code (μy μX6_takeLetter) (μc μX6_takeLetter) (μn μX6_takeLetter) (μr μX6_takeLetter) ∈ lwg := w_336
theorem cI_X6_takeLetter : Cond.initialized (μy μX6_takeLetter).cls ∈ lwg := w_53
def μX6_comeWithin : MI := (RX6, cX6_comeWithin, 3, (some .int), yX6_comeWithin, none)
theorem cd_X6_comeWithin : Cond.code (μy μX6_comeWithin) (μc μX6_comeWithin) (μn μX6_comeWithin) (μr μX6_comeWithin) ∈ lwg := w_308
theorem cI_X6_comeWithin : Cond.initialized (μy μX6_comeWithin).cls ∈ lwg := w_53
def μX6_choose : MI := (RX6, cX6_choose, 4, (some .int), yX6_choose, none)
theorem cd_X6_choose : Cond.code (μy μX6_choose) (μc μX6_choose) (μn μX6_choose) (μr μX6_choose) ∈ lwg := w_378
theorem cI_X6_choose : Cond.initialized (μy μX6_choose).cls ∈ lwg := w_53
def μX6_repeat : MI := (RX6, cX6_repeat, 6, (some .int), yX6_repeat, none)
theorem cd_X6_repeat : Cond.code (μy μX6_repeat) (μc μX6_repeat) (μn μX6_repeat) (μr μX6_repeat) ∈ lwg := w_386
theorem cI_X6_repeat : Cond.initialized (μy μX6_repeat).cls ∈ lwg := w_53
def μX6_onceMore : MI := (RX6, cX6_onceMore, 3, (some .int), yX6_onceMore, none)
theorem cd_X6_onceMore : Cond.code (μy μX6_onceMore) (μc μX6_onceMore) (μn μX6_onceMore) (μr μX6_onceMore) ∈ lwg := w_390
theorem cI_X6_onceMore : Cond.initialized (μy μX6_onceMore).cls ∈ lwg := w_53
def μX6_order : MI := (RX6, cX6_order, 9, (some .int), yX6_order, none)
theorem cd_X6_order : Cond.code (μy μX6_order) (μc μX6_order) (μn μX6_order) (μr μX6_order) ∈ lwg := w_394
theorem cI_X6_order : Cond.initialized (μy μX6_order).cls ∈ lwg := w_53
def μX6_notDone : MI := (RX6, cX6_notDone, 4, (some .int), yX6_notDone, none)
theorem cd_X6_notDone : Cond.code (μy μX6_notDone) (μc μX6_notDone) (μn μX6_notDone) (μr μX6_notDone) ∈ lwg := w_397
theorem cI_X6_notDone : Cond.initialized (μy μX6_notDone).cls ∈ lwg := w_53
def μX6_pushFrame : MI := (RX6, cX6_pushFrame, 3, none, yX6_pushFrame, none)
theorem cd_X6_pushFrame : Cond.code (μy μX6_pushFrame) (μc μX6_pushFrame) (μn μX6_pushFrame) (μr μX6_pushFrame) ∈ lwg := w_312
theorem cI_X6_pushFrame : Cond.initialized (μy μX6_pushFrame).cls ∈ lwg := w_53
def μX6_frameFact : MI := (RX6, cX6_frameFact, 4, (some .int), yX6_frameFact, none)
theorem cd_X6_frameFact : Cond.code (μy μX6_frameFact) (μc μX6_frameFact) (μn μX6_frameFact) (μr μX6_frameFact) ∈ lwg := w_405
theorem cI_X6_frameFact : Cond.initialized (μy μX6_frameFact).cls ∈ lwg := w_53
def μX6_pushOption : MI := (RX6, cX6_pushOption, 3, none, yX6_pushOption, none)
theorem cd_X6_pushOption : Cond.code (μy μX6_pushOption) (μc μX6_pushOption) (μn μX6_pushOption) (μr μX6_pushOption) ∈ lwg := w_382
theorem cI_X6_pushOption : Cond.initialized (μy μX6_pushOption).cls ∈ lwg := w_53
def μX6_optionFact : MI := (RX6, cX6_optionFact, 3, (some .int), yX6_optionFact, none)
theorem cd_X6_optionFact : Cond.code (μy μX6_optionFact) (μc μX6_optionFact) (μn μX6_optionFact) (μr μX6_optionFact) ∈ lwg := w_421
theorem cI_X6_optionFact : Cond.initialized (μy μX6_optionFact).cls ∈ lwg := w_53
def μX6_earliest : MI := (RX6, cX6_earliest, 4, (some .int), yX6_earliest, none)
theorem cd_X6_earliest : Cond.code (μy μX6_earliest) (μc μX6_earliest) (μn μX6_earliest) (μr μX6_earliest) ∈ lwg := w_353
theorem cI_X6_earliest : Cond.initialized (μy μX6_earliest).cls ∈ lwg := w_53
def μX6_latest : MI := (RX6, cX6_latest, 4, (some .int), yX6_latest, none)
theorem cd_X6_latest : Cond.code (μy μX6_latest) (μc μX6_latest) (μn μX6_latest) (μr μX6_latest) ∈ lwg := w_361
theorem cI_X6_latest : Cond.initialized (μy μX6_latest).cls ∈ lwg := w_53
def μX6_count : MI := (RX6, cX6_count, 5, (some .int), yX6_count, none)
theorem cd_X6_count : Cond.code (μy μX6_count) (μc μX6_count) (μn μX6_count) (μr μX6_count) ∈ lwg := w_370
theorem cI_X6_count : Cond.initialized (μy μX6_count).cls ∈ lwg := w_53
def μX6_sum : MI := (RX6, cX6_sum, 7, (some .int), yX6_sum, none)
theorem cd_X6_sum : Cond.code (μy μX6_sum) (μc μX6_sum) (μn μX6_sum) (μr μX6_sum) ∈ lwg := w_365
theorem cI_X6_sum : Cond.initialized (μy μX6_sum).cls ∈ lwg := w_53
def μX7_init : MI := (RX7, cX7_init, 1, none, yX7_init, none)
theorem cd_X7_init : Cond.code (μy μX7_init) (μc μX7_init) (μn μX7_init) (μr μX7_init) ∈ lwg := w_84
theorem cI_X7_init : Cond.initialized (μy μX7_init).cls ∈ lwg := w_50
def μX7_lettersWithCondition : MI := (RX7, cX7_lettersWithCondition, 3, (some .int), yX7_lettersWithCondition, none)
theorem cd_X7_lettersWithCondition : Cond.code (μy μX7_lettersWithCondition) (μc μX7_lettersWithCondition) (μn μX7_lettersWithCondition) (μr μX7_lettersWithCondition) ∈ lwg := w_511
theorem cI_X7_lettersWithCondition : Cond.initialized (μy μX7_lettersWithCondition).cls ∈ lwg := w_50
def μX8_init : MI := (RX8, cX8_init, 1, none, yX8_init, none)
theorem cd_X8_init : Cond.code (μy μX8_init) (μc μX8_init) (μn μX8_init) (μr μX8_init) ∈ lwg := w_90
theorem cI_X8_init : Cond.initialized (μy μX8_init).cls ∈ lwg := w_51
def μX8_hasRow : MI := (RX8, cX8_hasRow, 2, (some .boolean), yX8_hasRow, none)
theorem cd_X8_hasRow : Cond.code (μy μX8_hasRow) (μc μX8_hasRow) (μn μX8_hasRow) (μr μX8_hasRow) ∈ lwg := w_494
theorem cI_X8_hasRow : Cond.initialized (μy μX8_hasRow).cls ∈ lwg := w_51
def μX8_number : MI := (RX8, cX8_number, 4, (some .int), yX8_number, none)
theorem cd_X8_number : Cond.code (μy μX8_number) (μc μX8_number) (μn μX8_number) (μr μX8_number) ∈ lwg := w_349
theorem cI_X8_number : Cond.initialized (μy μX8_number).cls ∈ lwg := w_51
def μX8_write : MI := (RX8, cX8_write, 4, none, yX8_write, none)
theorem cd_X8_write : Cond.code (μy μX8_write) (μc μX8_write) (μn μX8_write) (μr μX8_write) ∈ lwg := w_542
theorem cI_X8_write : Cond.initialized (μy μX8_write).cls ∈ lwg := w_51
def μX9_init : MI := (RX9, cX9_init, 1, none, yX9_init, none)
theorem cd_X9_init : Cond.code (μy μX9_init) (μc μX9_init) (μn μX9_init) (μr μX9_init) ∈ lwg := w_219
theorem cI_X9_init : Cond.initialized (μy μX9_init).cls ∈ lwg := w_54
def μX9_add : MI := (RX9, cX9_add, 2, (some .boolean), yX9_add, none)
theorem cd_X9_add : Cond.code (μy μX9_add) (μc μX9_add) (μn μX9_add) (μr μX9_add) ∈ lwg := w_831
theorem cI_X9_add : Cond.initialized (μy μX9_add).cls ∈ lwg := w_54
def μX9_at : MI := (RX9, cX9_at, 2, (some .int), yX9_at, none)
theorem cd_X9_at : Cond.code (μy μX9_at) (μc μX9_at) (μn μX9_at) (μr μX9_at) ∈ lwg := w_875
theorem cI_X9_at : Cond.initialized (μy μX9_at).cls ∈ lwg := w_54
def μX9_empty : MI := (RX9, cX9_empty, 2, (some .int), yX9_empty, none)
theorem cd_X9_empty : Cond.code (μy μX9_empty) (μc μX9_empty) (μn μX9_empty) (μr μX9_empty) ∈ lwg := w_941
theorem cI_X9_empty : Cond.initialized (μy μX9_empty).cls ∈ lwg := w_54
def μX10_init : MI := (RX10, cX10_init, 2, none, yX10_init, none)
theorem cd_X10_init : Cond.code (μy μX10_init) (μc μX10_init) (μn μX10_init) (μr μX10_init) ∈ lwg := w_76
theorem cI_X10_init : Cond.initialized (μy μX10_init).cls ∈ lwg := w_49
def μX10_row : MI := (RX10, cX10_row, 4, (some .int), yX10_row, none)
theorem cd_X10_row : Cond.code (μy μX10_row) (μc μX10_row) (μn μX10_row) (μr μX10_row) ∈ lwg := w_535
theorem cI_X10_row : Cond.initialized (μy μX10_row).cls ∈ lwg := w_49
def μX10_feed : MI := (RX10, cX10_feed, 2, (some .int), yX10_feed, none)
theorem cd_X10_feed : Cond.code (μy μX10_feed) (μc μX10_feed) (μn μX10_feed) (μr μX10_feed) ∈ lwg := w_827
theorem cI_X10_feed : Cond.initialized (μy μX10_feed).cls ∈ lwg := w_49
def μX10_pattern : MI := (RX10, cX10_pattern, 3, (some .int), yX10_pattern, none)
theorem cd_X10_pattern : Cond.code (μy μX10_pattern) (μc μX10_pattern) (μn μX10_pattern) (μr μX10_pattern) ∈ lwg := w_991
theorem cI_X10_pattern : Cond.initialized (μy μX10_pattern).cls ∈ lwg := w_49
def μX10_define : MI := (RX10, cX10_define, 4, (some .int), yX10_define, none)
theorem cd_X10_define : Cond.code (μy μX10_define) (μc μX10_define) (μn μX10_define) (μr μX10_define) ∈ lwg := w_835
theorem cI_X10_define : Cond.initialized (μy μX10_define).cls ∈ lwg := w_49
def μX10_mode : MI := (RX10, cX10_mode, 4, (some .int), yX10_mode, none)
theorem cd_X10_mode : Cond.code (μy μX10_mode) (μc μX10_mode) (μn μX10_mode) (μr μX10_mode) ∈ lwg := w_272
theorem cI_X10_mode : Cond.initialized (μy μX10_mode).cls ∈ lwg := w_49
def μX10_empties : MI := (RX10, cX10_empties, 3, (some .int), yX10_empties, none)
theorem cd_X10_empties : Cond.code (μy μX10_empties) (μc μX10_empties) (μn μX10_empties) (μr μX10_empties) ∈ lwg := w_279
theorem cI_X10_empties : Cond.initialized (μy μX10_empties).cls ∈ lwg := w_49
def μX10_may : MI := (RX10, cX10_may, 3, (some .int), yX10_may, none)
theorem cd_X10_may : Cond.code (μy μX10_may) (μc μX10_may) (μn μX10_may) (μr μX10_may) ∈ lwg := w_283
theorem cI_X10_may : Cond.initialized (μy μX10_may).cls ∈ lwg := w_49
def μX10_first : MI := (RX10, cX10_first, 3, (some .int), yX10_first, none)
theorem cd_X10_first : Cond.code (μy μX10_first) (μc μX10_first) (μn μX10_first) (μr μX10_first) ∈ lwg := w_287
theorem cI_X10_first : Cond.initialized (μy μX10_first).cls ∈ lwg := w_49
def μX10_tries : MI := (RX10, cX10_tries, 3, (some .int), yX10_tries, none)
theorem cd_X10_tries : Cond.code (μy μX10_tries) (μc μX10_tries) (μn μX10_tries) (μr μX10_tries) ∈ lwg := w_425
theorem cI_X10_tries : Cond.initialized (μy μX10_tries).cls ∈ lwg := w_49
def μX10_way : MI := (RX10, cX10_way, 4, (some .int), yX10_way, none)
theorem cd_X10_way : Cond.code (μy μX10_way) (μc μX10_way) (μn μX10_way) (μr μX10_way) ∈ lwg := w_429
theorem cI_X10_way : Cond.initialized (μy μX10_way).cls ∈ lwg := w_49
def μX10_ways : MI := (RX10, cX10_ways, 3, (some .int), yX10_ways, none)
theorem cd_X10_ways : Cond.code (μy μX10_ways) (μc μX10_ways) (μn μX10_ways) (μr μX10_ways) ∈ lwg := w_434
theorem cI_X10_ways : Cond.initialized (μy μX10_ways).cls ∈ lwg := w_49
def μX10_spans : MI := (RX10, cX10_spans, 4, (some .int), yX10_spans, none)
theorem cd_X10_spans : Cond.code (μy μX10_spans) (μc μX10_spans) (μn μX10_spans) (μr μX10_spans) ∈ lwg := w_438
theorem cI_X10_spans : Cond.initialized (μy μX10_spans).cls ∈ lwg := w_49
def μX10_fits : MI := (RX10, cX10_fits, 3, (some .int), yX10_fits, none)
theorem cd_X10_fits : Cond.code (μy μX10_fits) (μc μX10_fits) (μn μX10_fits) (μr μX10_fits) ∈ lwg := w_442
theorem cI_X10_fits : Cond.initialized (μy μX10_fits).cls ∈ lwg := w_49
def μX10_run : MI := (RX10, cX10_run, 5, (some .int), yX10_run, none)
theorem cd_X10_run : Cond.code (μy μX10_run) (μc μX10_run) (μn μX10_run) (μr μX10_run) ∈ lwg := w_446
theorem cI_X10_run : Cond.initialized (μy μX10_run).cls ∈ lwg := w_49
def μX10_match : MI := (RX10, cX10_match, 3, (some .int), yX10_match, none)
theorem cd_X10_match : Cond.code (μy μX10_match) (μc μX10_match) (μn μX10_match) (μr μX10_match) ∈ lwg := w_459
theorem cI_X10_match : Cond.initialized (μy μX10_match).cls ∈ lwg := w_49
def μX10_label : MI := (RX10, cX10_label, 3, (some .int), yX10_label, none)
theorem cd_X10_label : Cond.code (μy μX10_label) (μc μX10_label) (μn μX10_label) (μr μX10_label) ∈ lwg := w_490
theorem cI_X10_label : Cond.initialized (μy μX10_label).cls ∈ lwg := w_49
def μX10_covered : MI := (RX10, cX10_covered, 2, (some .int), yX10_covered, none)
theorem cd_X10_covered : Cond.code (μy μX10_covered) (μc μX10_covered) (μn μX10_covered) (μr μX10_covered) ∈ lwg := w_499
theorem cI_X10_covered : Cond.initialized (μy μX10_covered).cls ∈ lwg := w_49
def μX10_told : MI := (RX10, cX10_told, 2, (some .int), yX10_told, none)
theorem cd_X10_told : Cond.code (μy μX10_told) (μc μX10_told) (μn μX10_told) (μr μX10_told) ∈ lwg := w_507
theorem cI_X10_told : Cond.initialized (μy μX10_told).cls ∈ lwg := w_49
def μX10_startBehind : MI := (RX10, cX10_startBehind, 4, (some .int), yX10_startBehind, none)
theorem cd_X10_startBehind : Cond.code (μy μX10_startBehind) (μc μX10_startBehind) (μn μX10_startBehind) (μr μX10_startBehind) ∈ lwg := w_455
theorem cI_X10_startBehind : Cond.initialized (μy μX10_startBehind).cls ∈ lwg := w_49
def μX10_rowsInNoMatch : MI := (RX10, cX10_rowsInNoMatch, 3, (some .int), yX10_rowsInNoMatch, none)
theorem cd_X10_rowsInNoMatch : Cond.code (μy μX10_rowsInNoMatch) (μc μX10_rowsInNoMatch) (μn μX10_rowsInNoMatch) (μr μX10_rowsInNoMatch) ∈ lwg := w_515
theorem cI_X10_rowsInNoMatch : Cond.initialized (μy μX10_rowsInNoMatch).cls ∈ lwg := w_49
def μX10_isCell : MI := (RX10, cX10_isCell, 1, (some .boolean), yX10_isCell, none)
theorem cd_X10_isCell : Cond.code (μy μX10_isCell) (μc μX10_isCell) (μn μX10_isCell) (μr μX10_isCell) ∈ lwg := w_538
theorem cI_X10_isCell : Cond.initialized (μy μX10_isCell).cls ∈ lwg := w_49
def μX10_isLetter : MI := (RX10, cX10_isLetter, 1, (some .boolean), yX10_isLetter, none)
theorem cd_X10_isLetter : Cond.code (μy μX10_isLetter) (μc μX10_isLetter) (μn μX10_isLetter) (μr μX10_isLetter) ∈ lwg := w_275
theorem cI_X10_isLetter : Cond.initialized (μy μX10_isLetter).cls ∈ lwg := w_49
def μJ5_init_d00df : MI := (RJ5, cJ5_init_d00df, 2, none, yJ5_init_d00df, none)
theorem cd_J5_init_d00df : Cond.code (μy μJ5_init_d00df) (μc μJ5_init_d00df) (μn μJ5_init_d00df) (μr μJ5_init_d00df) ∈ lwg := w_573
theorem cI_J5_init_d00df : Cond.initialized (μy μJ5_init_d00df).cls ∈ lwg := w_56
def μJ5_length_8abf5 : MI := (RJ5, cJ5_length_8abf5, 1, (some .int), yJ5_length_8abf5, none)
theorem cd_J5_length_8abf5 : Cond.code (μy μJ5_length_8abf5) (μc μJ5_length_8abf5) (μn μJ5_length_8abf5) (μr μJ5_length_8abf5) ∈ lwg := w_771
theorem cI_J5_length_8abf5 : Cond.initialized (μy μJ5_length_8abf5).cls ∈ lwg := w_56
def μJ5_ensureCapacityInternal_d00df : MI := (RJ5, cJ5_ensureCapacityInternal_d00df, 3, none, yJ5_ensureCapacityInternal_d00df, none)
theorem cd_J5_ensureCapacityInternal_d00df : Cond.code (μy μJ5_ensureCapacityInternal_d00df) (μc μJ5_ensureCapacityInternal_d00df) (μn μJ5_ensureCapacityInternal_d00df) (μr μJ5_ensureCapacityInternal_d00df) ∈ lwg := w_612
theorem cI_J5_ensureCapacityInternal_d00df : Cond.initialized (μy μJ5_ensureCapacityInternal_d00df).cls ∈ lwg := w_56
def μJ5_newCapacity_0f7a4 : MI := (RJ5, cJ5_newCapacity_0f7a4, 6, (some .int), yJ5_newCapacity_0f7a4, none)
theorem cd_J5_newCapacity_0f7a4 : Cond.code (μy μJ5_newCapacity_0f7a4) (μc μJ5_newCapacity_0f7a4) (μn μJ5_newCapacity_0f7a4) (μr μJ5_newCapacity_0f7a4) ∈ lwg := w_616
theorem cI_J5_newCapacity_0f7a4 : Cond.initialized (μy μJ5_newCapacity_0f7a4).cls ∈ lwg := w_56
def μJ5_inflate_da8c8 : MI := (RJ5, cJ5_inflate_da8c8, 2, none, yJ5_inflate_da8c8, none)
theorem cd_J5_inflate_da8c8 : Cond.code (μy μJ5_inflate_da8c8) (μc μJ5_inflate_da8c8) (μn μJ5_inflate_da8c8) (μr μJ5_inflate_da8c8) ∈ lwg := w_686
theorem cI_J5_inflate_da8c8 : Cond.initialized (μy μJ5_inflate_da8c8).cls ∈ lwg := w_56
def μJ5_append_cf1ce : MI := (RJ5, cJ5_append_cf1ce, 3, (some (.object "java/lang/AbstractStringBuilder")), yJ5_append_cf1ce, none)
theorem cd_J5_append_cf1ce : Cond.code (μy μJ5_append_cf1ce) (μc μJ5_append_cf1ce) (μn μJ5_append_cf1ce) (μr μJ5_append_cf1ce) ∈ lwg := w_604
theorem cI_J5_append_cf1ce : Cond.initialized (μy μJ5_append_cf1ce).cls ∈ lwg := w_56
def μJ5_appendNull_278bc : MI := (RJ5, cJ5_appendNull_278bc, 3, (some (.object "java/lang/AbstractStringBuilder")), yJ5_appendNull_278bc, none)
theorem cd_J5_appendNull_278bc : Cond.code (μy μJ5_appendNull_278bc) (μc μJ5_appendNull_278bc) (μn μJ5_appendNull_278bc) (μr μJ5_appendNull_278bc) ∈ lwg := w_608
theorem cI_J5_appendNull_278bc : Cond.initialized (μy μJ5_appendNull_278bc).cls ∈ lwg := w_56
def μJ5_append_3fe6f : MI := (RJ5, cJ5_append_3fe6f, 2, (some (.object "java/lang/AbstractStringBuilder")), yJ5_append_3fe6f, none)
theorem cd_J5_append_3fe6f : Cond.code (μy μJ5_append_3fe6f) (μc μJ5_append_3fe6f) (μn μJ5_append_3fe6f) (μr μJ5_append_3fe6f) ∈ lwg := w_716
theorem cI_J5_append_3fe6f : Cond.initialized (μy μJ5_append_3fe6f).cls ∈ lwg := w_56
def μJ5_append_c97b9 : MI := (RJ5, cJ5_append_c97b9, 4, (some (.object "java/lang/AbstractStringBuilder")), yJ5_append_c97b9, none)
theorem cd_J5_append_c97b9 : Cond.code (μy μJ5_append_c97b9) (μc μJ5_append_c97b9) (μn μJ5_append_c97b9) (μr μJ5_append_c97b9) ∈ lwg := w_968
theorem cI_J5_append_c97b9 : Cond.initialized (μy μJ5_append_c97b9).cls ∈ lwg := w_56
def μJ5_getValue_6d5f1 : MI := (RJ5, cJ5_getValue_6d5f1, 1, (some (.array .byte)), yJ5_getValue_6d5f1, none)
theorem cd_J5_getValue_6d5f1 : Cond.code (μy μJ5_getValue_6d5f1) (μc μJ5_getValue_6d5f1) (μn μJ5_getValue_6d5f1) (μr μJ5_getValue_6d5f1) ∈ lwg := w_763
theorem cI_J5_getValue_6d5f1 : Cond.initialized (μy μJ5_getValue_6d5f1).cls ∈ lwg := w_56
def μJ5_isLatin1_aae02 : MI := (RJ5, cJ5_isLatin1_aae02, 1, (some .boolean), yJ5_isLatin1_aae02, none)
theorem cd_J5_isLatin1_aae02 : Cond.code (μy μJ5_isLatin1_aae02) (μc μJ5_isLatin1_aae02) (μn μJ5_isLatin1_aae02) (μr μJ5_isLatin1_aae02) ∈ lwg := w_638
theorem cI_J5_isLatin1_aae02 : Cond.initialized (μy μJ5_isLatin1_aae02).cls ∈ lwg := w_56
def μJ5_inflateIfNeededFor_a7421 : MI := (RJ5, cJ5_inflateIfNeededFor_a7421, 2, none, yJ5_inflateIfNeededFor_a7421, none)
theorem cd_J5_inflateIfNeededFor_a7421 : Cond.code (μy μJ5_inflateIfNeededFor_a7421) (μc μJ5_inflateIfNeededFor_a7421) (μn μJ5_inflateIfNeededFor_a7421) (μr μJ5_inflateIfNeededFor_a7421) ∈ lwg := w_681
theorem cI_J5_inflateIfNeededFor_a7421 : Cond.initialized (μy μJ5_inflateIfNeededFor_a7421).cls ∈ lwg := w_56
def μJ5_putStringAt_47b60 : MI := (RJ5, cJ5_putStringAt_47b60, 3, none, yJ5_putStringAt_47b60, none)
theorem cd_J5_putStringAt_47b60 : Cond.code (μy μJ5_putStringAt_47b60) (μc μJ5_putStringAt_47b60) (μn μJ5_putStringAt_47b60) (μr μJ5_putStringAt_47b60) ∈ lwg := w_677
theorem cI_J5_putStringAt_47b60 : Cond.initialized (μy μJ5_putStringAt_47b60).cls ∈ lwg := w_56
def μJ6_getChars_ba4f3 : MI := (RJ6, cJ6_getChars_ba4f3, 7, (some .int), yJ6_getChars_ba4f3, none)
theorem cd_J6_getChars_ba4f3 : Cond.code (μy μJ6_getChars_ba4f3) (μc μJ6_getChars_ba4f3) (μn μJ6_getChars_ba4f3) (μr μJ6_getChars_ba4f3) ∈ lwg := w_974
theorem cI_J6_getChars_ba4f3 : Cond.initialized (μy μJ6_getChars_ba4f3).cls ∈ lwg := w_69
def μJ6_stringSize_0f7a4 : MI := (RJ6, cJ6_stringSize_0f7a4, 4, (some .int), yJ6_stringSize_0f7a4, none)
theorem cd_J6_stringSize_0f7a4 : Cond.code (μy μJ6_stringSize_0f7a4) (μc μJ6_stringSize_0f7a4) (μn μJ6_stringSize_0f7a4) (μr μJ6_stringSize_0f7a4) ∈ lwg := w_971
theorem cI_J6_stringSize_0f7a4 : Cond.initialized (μy μJ6_stringSize_0f7a4).cls ∈ lwg := w_69
def μJ6_bitCount_0f7a4 : MI := (RJ6, cJ6_bitCount_0f7a4, 1, (some .int), yJ6_bitCount_0f7a4, none)
theorem cd_J6_bitCount_0f7a4 : Cond.code (μy μJ6_bitCount_0f7a4) (μc μJ6_bitCount_0f7a4) (μn μJ6_bitCount_0f7a4) (μr μJ6_bitCount_0f7a4) ∈ lwg := w_483
theorem cI_J6_bitCount_0f7a4 : Cond.initialized (μy μJ6_bitCount_0f7a4).cls ∈ lwg := w_69
def μJ9_max_7cf53 : MI := (RJ9, cJ9_max_7cf53, 2, (some .int), yJ9_max_7cf53, none)
theorem cd_J9_max_7cf53 : Cond.code (μy μJ9_max_7cf53) (μc μJ9_max_7cf53) (μn μJ9_max_7cf53) (μr μJ9_max_7cf53) ∈ lwg := w_413
theorem cI_J9_max_7cf53 : Cond.initialized (μy μJ9_max_7cf53).cls ∈ lwg := w_61
def μJ9_min_7cf53 : MI := (RJ9, cJ9_min_7cf53, 2, (some .int), yJ9_min_7cf53, none)
theorem cd_J9_min_7cf53 : Cond.code (μy μJ9_min_7cf53) (μc μJ9_min_7cf53) (μn μJ9_min_7cf53) (μr μJ9_min_7cf53) ∈ lwg := w_325
theorem cI_J9_min_7cf53 : Cond.initialized (μy μJ9_min_7cf53).cls ∈ lwg := w_61
def μJ0_init_81219 : MI := (RJ0, cJ0_init_81219, 2, none, yJ0_init_81219, none)
theorem cd_J0_init_81219 : Cond.code (μy μJ0_init_81219) (μc μJ0_init_81219) (μn μJ0_init_81219) (μr μJ0_init_81219) ∈ lwg := w_754
theorem cI_J0_init_81219 : Cond.initialized (μy μJ0_init_81219).cls ∈ lwg := w_58
def μJ0_length_8abf5 : MI := (RJ0, cJ0_length_8abf5, 1, (some .int), yJ0_length_8abf5, none)
theorem cd_J0_length_8abf5 : Cond.code (μy μJ0_length_8abf5) (μc μJ0_length_8abf5) (μn μJ0_length_8abf5) (μr μJ0_length_8abf5) ∈ lwg := w_668
theorem cI_J0_length_8abf5 : Cond.initialized (μy μJ0_length_8abf5).cls ∈ lwg := w_58
def μJ0_charAt_5068e : MI := (RJ0, cJ0_charAt_5068e, 2, (some .char), yJ0_charAt_5068e, none)
theorem cd_J0_charAt_5068e : Cond.code (μy μJ0_charAt_5068e) (μc μJ0_charAt_5068e) (μn μJ0_charAt_5068e) (μr μJ0_charAt_5068e) ∈ lwg := w_812
theorem cI_J0_charAt_5068e : Cond.initialized (μy μJ0_charAt_5068e).cls ∈ lwg := w_58
def μJ0_getBytes_840e7 : MI := (RJ0, cJ0_getBytes_840e7, 4, none, yJ0_getBytes_840e7, none)
theorem cd_J0_getBytes_840e7 : Cond.code (μy μJ0_getBytes_840e7) (μc μJ0_getBytes_840e7) (μn μJ0_getBytes_840e7) (μr μJ0_getBytes_840e7) ∈ lwg := w_705
theorem cI_J0_getBytes_840e7 : Cond.initialized (μy μJ0_getBytes_840e7).cls ∈ lwg := w_58
def μJ0_init_db425 : MI := (RJ0, cJ0_init_db425, 5, none, yJ0_init_db425, none)
theorem cd_J0_init_db425 : Cond.code (μy μJ0_init_db425) (μc μJ0_init_db425) (μn μJ0_init_db425) (μr μJ0_init_db425) ∈ lwg := w_757
theorem cI_J0_init_db425 : Cond.initialized (μy μJ0_init_db425).cls ∈ lwg := w_58
def μJ0_coder_7d493 : MI := (RJ0, cJ0_coder_7d493, 1, (some .byte), yJ0_coder_7d493, none)
theorem cd_J0_coder_7d493 : Cond.code (μy μJ0_coder_7d493) (μc μJ0_coder_7d493) (μn μJ0_coder_7d493) (μr μJ0_coder_7d493) ∈ lwg := w_672
theorem cI_J0_coder_7d493 : Cond.initialized (μy μJ0_coder_7d493).cls ∈ lwg := w_58
def μJ0_isLatin1_aae02 : MI := (RJ0, cJ0_isLatin1_aae02, 1, (some .boolean), yJ0_isLatin1_aae02, none)
theorem cd_J0_isLatin1_aae02 : Cond.code (μy μJ0_isLatin1_aae02) (μc μJ0_isLatin1_aae02) (μn μJ0_isLatin1_aae02) (μr μJ0_isLatin1_aae02) ∈ lwg := w_816
theorem cI_J0_isLatin1_aae02 : Cond.initialized (μy μJ0_isLatin1_aae02).cls ∈ lwg := w_58
def μJ0_checkIndex_df160 : MI := (RJ0, cJ0_checkIndex_df160, 2, none, yJ0_checkIndex_df160, none)
theorem cd_J0_checkIndex_df160 : Cond.code (μy μJ0_checkIndex_df160) (μc μJ0_checkIndex_df160) (μn μJ0_checkIndex_df160) (μr μJ0_checkIndex_df160) ∈ lwg := w_728
theorem cI_J0_checkIndex_df160 : Cond.initialized (μy μJ0_checkIndex_df160).cls ∈ lwg := w_58
def μJ0_checkBoundsOffCount_cabcc : MI := (RJ0, cJ0_checkBoundsOffCount_cabcc, 3, (some .int), yJ0_checkBoundsOffCount_cabcc, none)
theorem cd_J0_checkBoundsOffCount_cabcc : Cond.code (μy μJ0_checkBoundsOffCount_cabcc) (μc μJ0_checkBoundsOffCount_cabcc) (μn μJ0_checkBoundsOffCount_cabcc) (μr μJ0_checkBoundsOffCount_cabcc) ∈ lwg := w_698
theorem cI_J0_checkBoundsOffCount_cabcc : Cond.initialized (μy μJ0_checkBoundsOffCount_cabcc).cls ∈ lwg := w_58
def μJ0_checkBoundsBeginEnd_23922 : MI := (RJ0, cJ0_checkBoundsBeginEnd_23922, 3, none, yJ0_checkBoundsBeginEnd_23922, none)
theorem cd_J0_checkBoundsBeginEnd_23922 : Cond.code (μy μJ0_checkBoundsBeginEnd_23922) (μc μJ0_checkBoundsBeginEnd_23922) (μn μJ0_checkBoundsBeginEnd_23922) (μr μJ0_checkBoundsBeginEnd_23922) ∈ lwg := w_650
theorem cI_J0_checkBoundsBeginEnd_23922 : Cond.initialized (μy μJ0_checkBoundsBeginEnd_23922).cls ∈ lwg := w_58
def μJ4_init_da8c8 : MI := (RJ4, cJ4_init_da8c8, 1, none, yJ4_init_da8c8, none)
theorem cd_J4_init_da8c8 : Cond.code (μy μJ4_init_da8c8) (μc μJ4_init_da8c8) (μn μJ4_init_da8c8) (μr μJ4_init_da8c8) ∈ lwg := w_570
theorem cI_J4_init_da8c8 : Cond.initialized (μy μJ4_init_da8c8).cls ∈ lwg := w_57
def μJ4_append_15ec4 : MI := (RJ4, cJ4_append_15ec4, 2, (some (.object "java/lang/StringBuilder")), yJ4_append_15ec4, none)
theorem cd_J4_append_15ec4 : Cond.code (μy μJ4_append_15ec4) (μc μJ4_append_15ec4) (μn μJ4_append_15ec4) (μr μJ4_append_15ec4) ∈ lwg := w_601
theorem cI_J4_append_15ec4 : Cond.initialized (μy μJ4_append_15ec4).cls ∈ lwg := w_57
def μJ4_append_cf468 : MI := (RJ4, cJ4_append_cf468, 2, (some (.object "java/lang/StringBuilder")), yJ4_append_cf468, none)
theorem cd_J4_append_cf468 : Cond.code (μy μJ4_append_cf468) (μc μJ4_append_cf468) (μn μJ4_append_cf468) (μr μJ4_append_cf468) ∈ lwg := w_713
theorem cI_J4_append_cf468 : Cond.initialized (μy μJ4_append_cf468).cls ∈ lwg := w_57
def μJ4_append_bf812 : MI := (RJ4, cJ4_append_bf812, 2, (some (.object "java/lang/StringBuilder")), yJ4_append_bf812, none)
theorem cd_J4_append_bf812 : Cond.code (μy μJ4_append_bf812) (μc μJ4_append_bf812) (μn μJ4_append_bf812) (μr μJ4_append_bf812) ∈ lwg := w_965
theorem cI_J4_append_bf812 : Cond.initialized (μy μJ4_append_bf812).cls ∈ lwg := w_57
def μJ4_toString_0e30d : MI := (RJ4, cJ4_toString_0e30d, 1, (some (.object "java/lang/String")), yJ4_toString_0e30d, none)
theorem cd_J4_toString_0e30d : Cond.code (μy μJ4_toString_0e30d) (μc μJ4_toString_0e30d) (μn μJ4_toString_0e30d) (μr μJ4_toString_0e30d) ∈ lwg := w_749
theorem cI_J4_toString_0e30d : Cond.initialized (μy μJ4_toString_0e30d).cls ∈ lwg := w_57
def μJ4_length_8abf5 : MI := (RJ4, cJ4_length_8abf5, 1, (some .int), yJ4_length_8abf5, none)
theorem cd_J4_length_8abf5 : Cond.code (μy μJ4_length_8abf5) (μc μJ4_length_8abf5) (μn μJ4_length_8abf5) (μr μJ4_length_8abf5) ∈ lwg := w_769
theorem cI_J4_length_8abf5 : Cond.initialized (μy μJ4_length_8abf5).cls ∈ lwg := w_57
def μJ1_charAt_3b067 : MI := (RJ1, cJ1_charAt_3b067, 2, (some .char), yJ1_charAt_3b067, none)
theorem cd_J1_charAt_3b067 : Cond.code (μy μJ1_charAt_3b067) (μc μJ1_charAt_3b067) (μn μJ1_charAt_3b067) (μr μJ1_charAt_3b067) ∈ lwg := w_819
theorem cI_J1_charAt_3b067 : Cond.initialized (μy μJ1_charAt_3b067).cls ∈ lwg := w_65
def μJ1_canEncode_fc78d : MI := (RJ1, cJ1_canEncode_fc78d, 1, (some .boolean), yJ1_canEncode_fc78d, none)
theorem cd_J1_canEncode_fc78d : Cond.code (μy μJ1_canEncode_fc78d) (μc μJ1_canEncode_fc78d) (μn μJ1_canEncode_fc78d) (μr μJ1_canEncode_fc78d) ∈ lwg := w_719
theorem cI_J1_canEncode_fc78d : Cond.initialized (μy μJ1_canEncode_fc78d).cls ∈ lwg := w_65
def μJ1_inflate_0e8fd : MI := (RJ1, cJ1_inflate_0e8fd, 5, none, yJ1_inflate_0e8fd, none)
theorem cd_J1_inflate_0e8fd : Cond.code (μy μJ1_inflate_0e8fd) (μc μJ1_inflate_0e8fd) (μn μJ1_inflate_0e8fd) (μr μJ1_inflate_0e8fd) ∈ lwg := w_689
theorem cI_J1_inflate_0e8fd : Cond.initialized (μy μJ1_inflate_0e8fd).cls ∈ lwg := w_65
def μJ2_newBytesFor_77867 : MI := (RJ2, cJ2_newBytesFor_77867, 1, (some (.array .byte)), yJ2_newBytesFor_77867, none)
theorem cd_J2_newBytesFor_77867 : Cond.code (μy μJ2_newBytesFor_77867) (μc μJ2_newBytesFor_77867) (μn μJ2_newBytesFor_77867) (μr μJ2_newBytesFor_77867) ∈ lwg := w_579
theorem cI_J2_newBytesFor_77867 : Cond.initialized (μy μJ2_newBytesFor_77867).cls ∈ lwg := w_59
def μJ2_newBytesLength_0f7a4 : MI := (RJ2, cJ2_newBytesLength_0f7a4, 1, (some .int), yJ2_newBytesLength_0f7a4, none)
theorem cd_J2_newBytesLength_0f7a4 : Cond.code (μy μJ2_newBytesLength_0f7a4) (μc μJ2_newBytesLength_0f7a4) (μn μJ2_newBytesLength_0f7a4) (μr μJ2_newBytesLength_0f7a4) ∈ lwg := w_582
theorem cI_J2_newBytesLength_0f7a4 : Cond.initialized (μy μJ2_newBytesLength_0f7a4).cls ∈ lwg := w_59
def μJ2_putChar_b72d1 : MI := (RJ2, cJ2_putChar_b72d1, 3, none, yJ2_putChar_b72d1, none)
theorem cd_J2_putChar_b72d1 : Cond.code (μy μJ2_putChar_b72d1) (μc μJ2_putChar_b72d1) (μn μJ2_putChar_b72d1) (μr μJ2_putChar_b72d1) ∈ lwg := w_658
theorem cI_J2_putChar_b72d1 : Cond.initialized (μy μJ2_putChar_b72d1).cls ∈ lwg := w_59
def μJ2_getChar_3b067 : MI := (RJ2, cJ2_getChar_3b067, 2, (some .char), yJ2_getChar_3b067, none)
theorem cd_J2_getChar_3b067 : Cond.code (μy μJ2_getChar_3b067) (μc μJ2_getChar_3b067) (μn μJ2_getChar_3b067) (μr μJ2_getChar_3b067) ∈ lwg := w_790
theorem cI_J2_getChar_3b067 : Cond.initialized (μy μJ2_getChar_3b067).cls ∈ lwg := w_59
def μJ2_length_9d52b : MI := (RJ2, cJ2_length_9d52b, 1, (some .int), yJ2_length_9d52b, none)
theorem cd_J2_length_9d52b : Cond.code (μy μJ2_length_9d52b) (μc μJ2_length_9d52b) (μn μJ2_length_9d52b) (μr μJ2_length_9d52b) ∈ lwg := w_647
theorem cI_J2_length_9d52b : Cond.initialized (μy μJ2_length_9d52b).cls ∈ lwg := w_59
def μJ2_coderFromArrayLen_85cad : MI := (RJ2, cJ2_coderFromArrayLen_85cad, 2, (some .byte), yJ2_coderFromArrayLen_85cad, none)
theorem cd_J2_coderFromArrayLen_85cad : Cond.code (μy μJ2_coderFromArrayLen_85cad) (μc μJ2_coderFromArrayLen_85cad) (μn μJ2_coderFromArrayLen_85cad) (μr μJ2_coderFromArrayLen_85cad) ∈ lwg := w_794
theorem cI_J2_coderFromArrayLen_85cad : Cond.initialized (μy μJ2_coderFromArrayLen_85cad).cls ∈ lwg := w_59
def μJ2_compress_39247 : MI := (RJ2, cJ2_compress_39247, 6, (some (.array .byte)), yJ2_compress_39247, none)
theorem cd_J2_compress_39247 : Cond.code (μy μJ2_compress_39247) (μc μJ2_compress_39247) (μn μJ2_compress_39247) (μr μJ2_compress_39247) ∈ lwg := w_784
theorem cI_J2_compress_39247 : Cond.initialized (μy μJ2_compress_39247).cls ∈ lwg := w_59
def μJ2_compress_5af95 : MI := (RJ2, cJ2_compress_5af95, 7, (some .int), yJ2_compress_5af95, none)
theorem cd_J2_compress_5af95 : Cond.code (μy μJ2_compress_5af95) (μc μJ2_compress_5af95) (μn μJ2_compress_5af95) (μr μJ2_compress_5af95) ∈ lwg := w_787
theorem cI_J2_compress_5af95 : Cond.initialized (μy μJ2_compress_5af95).cls ∈ lwg := w_59
def μJ2_putCharSB_b72d1 : MI := (RJ2, cJ2_putCharSB_b72d1, 3, none, yJ2_putCharSB_b72d1, none)
theorem cd_J2_putCharSB_b72d1 : Cond.code (μy μJ2_putCharSB_b72d1) (μc μJ2_putCharSB_b72d1) (μn μJ2_putCharSB_b72d1) (μr μJ2_putCharSB_b72d1) ∈ lwg := w_722
theorem cI_J2_putCharSB_b72d1 : Cond.initialized (μy μJ2_putCharSB_b72d1).cls ∈ lwg := w_59
def μJ2_getChars_46870 : MI := (RJ2, cJ2_getChars_46870, 5, (some .int), yJ2_getChars_46870, none)
theorem cd_J2_getChars_46870 : Cond.code (μy μJ2_getChars_46870) (μc μJ2_getChars_46870) (μn μJ2_getChars_46870) (μr μJ2_getChars_46870) ∈ lwg := w_981
theorem cI_J2_getChars_46870 : Cond.initialized (μy μJ2_getChars_46870).cls ∈ lwg := w_59
def μJ2_putCharsAt_cd4e5 : MI := (RJ2, cJ2_putCharsAt_cd4e5, 7, (some .int), yJ2_putCharsAt_cd4e5, none)
theorem cd_J2_putCharsAt_cd4e5 : Cond.code (μy μJ2_putCharsAt_cd4e5) (μc μJ2_putCharsAt_cd4e5) (μn μJ2_putCharsAt_cd4e5) (μr μJ2_putCharsAt_cd4e5) ∈ lwg := w_641
theorem cI_J2_putCharsAt_cd4e5 : Cond.initialized (μy μJ2_putCharsAt_cd4e5).cls ∈ lwg := w_59
def μJ2_charAt_3b067 : MI := (RJ2, cJ2_charAt_3b067, 2, (some .char), yJ2_charAt_3b067, none)
theorem cd_J2_charAt_3b067 : Cond.code (μy μJ2_charAt_3b067) (μc μJ2_charAt_3b067) (μn μJ2_charAt_3b067) (μr μJ2_charAt_3b067) ∈ lwg := w_823
theorem cI_J2_charAt_3b067 : Cond.initialized (μy μJ2_charAt_3b067).cls ∈ lwg := w_59
def μJ2_inflate_0e8fd : MI := (RJ2, cJ2_inflate_0e8fd, 6, none, yJ2_inflate_0e8fd, none)
theorem cd_J2_inflate_0e8fd : Cond.code (μy μJ2_inflate_0e8fd) (μc μJ2_inflate_0e8fd) (μn μJ2_inflate_0e8fd) (μr μJ2_inflate_0e8fd) ∈ lwg := w_692
theorem cI_J2_inflate_0e8fd : Cond.initialized (μy μJ2_inflate_0e8fd).cls ∈ lwg := w_59
def μJ2_getChars_ba4f3 : MI := (RJ2, cJ2_getChars_ba4f3, 7, (some .int), yJ2_getChars_ba4f3, none)
theorem cd_J2_getChars_ba4f3 : Cond.code (μy μJ2_getChars_ba4f3) (μc μJ2_getChars_ba4f3) (μn μJ2_getChars_ba4f3) (μr μJ2_getChars_ba4f3) ∈ lwg := w_984
theorem cI_J2_getChars_ba4f3 : Cond.initialized (μy μJ2_getChars_ba4f3).cls ∈ lwg := w_59
def μJ2_checkIndex_2214a : MI := (RJ2, cJ2_checkIndex_2214a, 2, none, yJ2_checkIndex_2214a, none)
theorem cd_J2_checkIndex_2214a : Cond.code (μy μJ2_checkIndex_2214a) (μc μJ2_checkIndex_2214a) (μn μJ2_checkIndex_2214a) (μr μJ2_checkIndex_2214a) ∈ lwg := w_725
theorem cI_J2_checkIndex_2214a : Cond.initialized (μy μJ2_checkIndex_2214a).cls ∈ lwg := w_59
def μJ2_checkBoundsBeginEnd_d044e : MI := (RJ2, cJ2_checkBoundsBeginEnd_d044e, 3, none, yJ2_checkBoundsBeginEnd_d044e, none)
theorem cd_J2_checkBoundsBeginEnd_d044e : Cond.code (μy μJ2_checkBoundsBeginEnd_d044e) (μc μJ2_checkBoundsBeginEnd_d044e) (μn μJ2_checkBoundsBeginEnd_d044e) (μr μJ2_checkBoundsBeginEnd_d044e) ∈ lwg := w_644
theorem cI_J2_checkBoundsBeginEnd_d044e : Cond.initialized (μy μJ2_checkBoundsBeginEnd_d044e).cls ∈ lwg := w_59
def μJ2_checkBoundsOffCount_d044e : MI := (RJ2, cJ2_checkBoundsOffCount_d044e, 3, none, yJ2_checkBoundsOffCount_d044e, none)
theorem cd_J2_checkBoundsOffCount_d044e : Cond.code (μy μJ2_checkBoundsOffCount_d044e) (μc μJ2_checkBoundsOffCount_d044e) (μn μJ2_checkBoundsOffCount_d044e) (μr μJ2_checkBoundsOffCount_d044e) ∈ lwg := w_695
theorem cI_J2_checkBoundsOffCount_d044e : Cond.initialized (μy μJ2_checkBoundsOffCount_d044e).cls ∈ lwg := w_59
def μJ7_copyOf_9075b : MI := (RJ7, cJ7_copyOf_9075b, 3, (some (.array .byte)), yJ7_copyOf_9075b, none)
theorem cd_J7_copyOf_9075b : Cond.code (μy μJ7_copyOf_9075b) (μc μJ7_copyOf_9075b) (μn μJ7_copyOf_9075b) (μr μJ7_copyOf_9075b) ∈ lwg := w_628
theorem cI_J7_copyOf_9075b : Cond.initialized (μy μJ7_copyOf_9075b).cls ∈ lwg := w_62
def μJ7_copyOf_59c91 : MI := (RJ7, cJ7_copyOf_59c91, 3, (some (.array .int)), yJ7_copyOf_59c91, none)
theorem cd_J7_copyOf_59c91 : Cond.code (μy μJ7_copyOf_59c91) (μc μJ7_copyOf_59c91) (μn μJ7_copyOf_59c91) (μr μJ7_copyOf_59c91) ∈ lwg := w_315
theorem cI_J7_copyOf_59c91 : Cond.initialized (μy μJ7_copyOf_59c91).cls ∈ lwg := w_62
def μJ7_checkLength_df160 : MI := (RJ7, cJ7_checkLength_df160, 2, none, yJ7_checkLength_df160, none)
theorem cd_J7_checkLength_df160 : Cond.code (μy μJ7_checkLength_df160) (μc μJ7_checkLength_df160) (μn μJ7_checkLength_df160) (μr μJ7_checkLength_df160) ∈ lwg := w_781
theorem cI_J7_checkLength_df160 : Cond.initialized (μy μJ7_checkLength_df160).cls ∈ lwg := w_62
def μJ7_copyOfRange_39247 : MI := (RJ7, cJ7_copyOfRange_39247, 3, (some (.array .byte)), yJ7_copyOfRange_39247, none)
theorem cd_J7_copyOfRange_39247 : Cond.code (μy μJ7_copyOfRange_39247) (μc μJ7_copyOfRange_39247) (μn μJ7_copyOfRange_39247) (μr μJ7_copyOfRange_39247) ∈ lwg := w_775
theorem cI_J7_copyOfRange_39247 : Cond.initialized (μy μJ7_copyOfRange_39247).cls ∈ lwg := w_62
def μJ7_copyOfRangeByte_39247 : MI := (RJ7, cJ7_copyOfRangeByte_39247, 5, (some (.array .byte)), yJ7_copyOfRangeByte_39247, none)
theorem cd_J7_copyOfRangeByte_39247 : Cond.code (μy μJ7_copyOfRangeByte_39247) (μc μJ7_copyOfRangeByte_39247) (μn μJ7_copyOfRangeByte_39247) (μr μJ7_copyOfRangeByte_39247) ∈ lwg := w_778
theorem cI_J7_copyOfRangeByte_39247 : Cond.initialized (μy μJ7_copyOfRangeByte_39247).cls ∈ lwg := w_62
def μJ8_newLength_cabcc : MI := (RJ8, cJ8_newLength_cabcc, 4, (some .int), yJ8_newLength_cabcc, none)
theorem cd_J8_newLength_cabcc : Cond.code (μy μJ8_newLength_cabcc) (μc μJ8_newLength_cabcc) (μn μJ8_newLength_cabcc) (μr μJ8_newLength_cabcc) ∈ lwg := w_619
theorem cI_J8_newLength_cabcc : Cond.initialized (μy μJ8_newLength_cabcc).cls ∈ lwg := w_60
def μJ8_hugeLength_7cf53 : MI := (RJ8, cJ8_hugeLength_7cf53, 3, (some .int), yJ8_hugeLength_7cf53, none)
theorem cd_J8_hugeLength_7cf53 : Cond.code (μy μJ8_hugeLength_7cf53) (μc μJ8_hugeLength_7cf53) (μn μJ8_hugeLength_7cf53) (μr μJ8_hugeLength_7cf53) ∈ lwg := w_624
theorem cI_J8_hugeLength_7cf53 : Cond.initialized (μy μJ8_hugeLength_7cf53).cls ∈ lwg := w_60
def μJ3_checkIndex_8e157 : MI := (RJ3, cJ3_checkIndex_8e157, 3, (some .int), yJ3_checkIndex_8e157, none)
theorem cd_J3_checkIndex_8e157 : Cond.code (μy μJ3_checkIndex_8e157) (μc μJ3_checkIndex_8e157) (μn μJ3_checkIndex_8e157) (μr μJ3_checkIndex_8e157) ∈ lwg := w_731
theorem cI_J3_checkIndex_8e157 : Cond.initialized (μy μJ3_checkIndex_8e157).cls ∈ lwg := w_64
def μJ3_checkFromToIndex_8c36e : MI := (RJ3, cJ3_checkFromToIndex_8c36e, 4, (some .int), yJ3_checkFromToIndex_8c36e, none)
theorem cd_J3_checkFromToIndex_8c36e : Cond.code (μy μJ3_checkFromToIndex_8c36e) (μc μJ3_checkFromToIndex_8c36e) (μn μJ3_checkFromToIndex_8c36e) (μr μJ3_checkFromToIndex_8c36e) ∈ lwg := w_655
theorem cI_J3_checkFromToIndex_8c36e : Cond.initialized (μy μJ3_checkFromToIndex_8c36e).cls ∈ lwg := w_64
def μJ3_checkFromIndexSize_8c36e : MI := (RJ3, cJ3_checkFromIndexSize_8c36e, 4, (some .int), yJ3_checkFromIndexSize_8c36e, none)
theorem cd_J3_checkFromIndexSize_8c36e : Cond.code (μy μJ3_checkFromIndexSize_8c36e) (μc μJ3_checkFromIndexSize_8c36e) (μn μJ3_checkFromIndexSize_8c36e) (μr μJ3_checkFromIndexSize_8c36e) ∈ lwg := w_701
theorem cI_J3_checkFromIndexSize_8c36e : Cond.initialized (μy μJ3_checkFromIndexSize_8c36e).cls ∈ lwg := w_64
def μL_cell : MI := (RL, cL_cell, 3, (some .int), yL_cell, none)
theorem cd_L_cell : Cond.code (μy μL_cell) (μc μL_cell) (μn μL_cell) (μr μL_cell) ∈ lwg := w_521
theorem cI_L_cell : Cond.initialized (μy μL_cell).cls ∈ lwg := w_48
def μL_pick : MI := (RL, cL_pick, 3, (some .int), yL_pick, none)
theorem cd_L_pick : Cond.code (μy μL_pick) (μc μL_pick) (μn μL_pick) (μr μL_pick) ∈ lwg := w_518
theorem cI_L_pick : Cond.initialized (μy μL_pick).cls ∈ lwg := w_48
def μL_rows : MI := (RL, cL_rows, 6, (some (.array (.array .int))), yL_rows, none)
theorem cd_L_rows : Cond.code (μy μL_rows) (μc μL_rows) (μn μL_rows) (μr μL_rows) ∈ lwg := w_526
theorem cI_L_rows : Cond.initialized (μy μL_rows).cls ∈ lwg := w_48
def μL_tell : MI := (RL, cL_tell, 4, (some .boolean), yL_tell, none)
theorem cd_L_tell : Cond.code (μy μL_tell) (μc μL_tell) (μn μL_tell) (μr μL_tell) ∈ lwg := w_531
theorem cI_L_tell : Cond.initialized (μy μL_tell).cls ∈ lwg := w_48
def μL_feed : MI := (RL, cL_feed, 4, (some .boolean), yL_feed, none)
theorem cd_L_feed : Cond.code (μy μL_feed) (μc μL_feed) (μn μL_feed) (μr μL_feed) ∈ lwg := w_808
theorem cI_L_feed : Cond.initialized (μy μL_feed).cls ∈ lwg := w_48
def μL_told : MI := (RL, cL_told, 2, (some (.object "java/lang/String")), yL_told, none)
theorem cd_L_told : Cond.code (μy μL_told) (μc μL_told) (μn μL_told) (μr μL_told) ∈ lwg := w_735
theorem cI_L_told : Cond.initialized (μy μL_told).cls ∈ lwg := w_48
def μL_value : MI := (RL, cL_value, 3, (some .int), yL_value, none)
theorem cd_L_value : Cond.code (μy μL_value) (μc μL_value) (μn μL_value) (μr μL_value) ∈ lwg := w_558
theorem cI_L_value : Cond.initialized (μy μL_value).cls ∈ lwg := w_48
def μL_isLess : MI := (RL, cL_isLess, 2, (some .boolean), yL_isLess, none)
theorem cd_L_isLess : Cond.code (μy μL_isLess) (μc μL_isLess) (μn μL_isLess) (μr μL_isLess) ∈ lwg := w_552
theorem cI_L_isLess : Cond.initialized (μy μL_isLess).cls ∈ lwg := w_48
def μL_isLike : MI := (RL, cL_isLike, 2, (some .boolean), yL_isLike, none)
theorem cd_L_isLike : Cond.code (μy μL_isLike) (μc μL_isLike) (μn μL_isLike) (μr μL_isLike) ∈ lwg := w_555
theorem cI_L_isLike : Cond.initialized (μy μL_isLike).cls ∈ lwg := w_48
def μL_lettered : MI := (RL, cL_lettered, 7, (some .int), yL_lettered, none)
theorem cd_L_lettered : Cond.code (μy μL_lettered) (μc μL_lettered) (μn μL_lettered) (μr μL_lettered) ∈ lwg := w_561
theorem cI_L_lettered : Cond.initialized (μy μL_lettered).cls ∈ lwg := w_48
def μL_summed : MI := (RL, cL_summed, 9, (some .int), yL_summed, none)
theorem cd_L_summed : Cond.code (μy μL_summed) (μc μL_summed) (μn μL_summed) (μr μL_summed) ∈ lwg := w_549
theorem cI_L_summed : Cond.initialized (μy μL_summed).cls ∈ lwg := w_48
def μL_isHeld : MI := (RL, cL_isHeld, 9, (some .boolean), yL_isHeld, none)
theorem cd_L_isHeld : Cond.code (μy μL_isHeld) (μc μL_isHeld) (μn μL_isHeld) (μr μL_isHeld) ∈ lwg := w_546
theorem cI_L_isHeld : Cond.initialized (μy μL_isHeld).cls ∈ lwg := w_48
def μL_conditions : MI := (RL, cL_conditions, 6, (some (.array .int)), yL_conditions, none)
theorem cd_L_conditions : Cond.code (μy μL_conditions) (μc μL_conditions) (μn μL_conditions) (μr μL_conditions) ∈ lwg := w_564
theorem cI_L_conditions : Cond.initialized (μy μL_conditions).cls ∈ lwg := w_48
def μL_make : MI := (RL, cL_make, 10, (some .int), yL_make, none)
theorem cd_L_make : Cond.code (μy μL_make) (μc μL_make) (μn μL_make) (μr μL_make) ∈ lwg := w_947
theorem cI_L_make : Cond.initialized (μy μL_make).cls ∈ lwg := w_48
def μL_spelled : MI := (RL, cL_spelled, 7, (some (.object "java/lang/String")), yL_spelled, none)
theorem cd_L_spelled : Cond.code (μy μL_spelled) (μc μL_spelled) (μn μL_spelled) (μr μL_spelled) ∈ lwg := w_950
theorem cI_L_spelled : Cond.initialized (μy μL_spelled).cls ∈ lwg := w_48
def μL_pattern : MI := (RL, cL_pattern, 6, (some (.array (.array .int))), yL_pattern, none)
theorem cd_L_pattern : Cond.code (μy μL_pattern) (μc μL_pattern) (μn μL_pattern) (μr μL_pattern) ∈ lwg := w_944
theorem cI_L_pattern : Cond.initialized (μy μL_pattern).cls ∈ lwg := w_48
theorem oi_RX10_3 : Cond.methodLink RX10 3 Lib.objectInit ∈ lwg := w_77
theorem cw_RX10_20 : ciD RX10 20 1 μX6_init := ⟨⟨⟨cd_X6_init, w_162, cI_X6_init⟩, hd_X6_init, by decide⟩, w_163, rfl, rfl⟩
theorem cw_RX10_51 : csD RX10 51 1 μX10_isCell := ⟨⟨⟨cd_X10_isCell, w_536, cI_X10_isCell⟩, hd_X10_isCell, by decide⟩, w_537⟩
theorem cw_RX10_65 : cwD RX10 65 3 8 μX8_write := ⟨⟨⟨cd_X8_write, w_539, cI_X8_write⟩, hd_X8_write, by decide⟩, w_540, w_541, rfl⟩
theorem cw_RX10_73 : cwD RX10 73 1 8 μX8_hasRow := ⟨⟨⟨cd_X8_hasRow, w_491, cI_X8_hasRow⟩, hd_X8_hasRow, by decide⟩, w_492, w_493, rfl⟩
theorem cw_RX10_83 : cwD RX10 83 1 9 μX9_add := ⟨⟨⟨cd_X9_add, w_828, cI_X9_add⟩, hd_X9_add, by decide⟩, w_829, w_830, rfl⟩
theorem cw_RX10_87 : cwD RX10 87 0 9 μX9_empty := ⟨⟨⟨cd_X9_empty, w_938, cI_X9_empty⟩, hd_X9_empty, by decide⟩, w_939, w_940, rfl⟩
theorem cw_RX10_93 : ciD RX10 93 1 μX5_init := ⟨⟨⟨cd_X5_init, w_994, cI_X5_init⟩, hd_X5_init, by decide⟩, w_995, rfl, rfl⟩
theorem cw_RX10_96 : cwD RX10 96 0 5 μX5_read := ⟨⟨⟨cd_X5_read, w_1027, cI_X5_read⟩, hd_X5_read, by decide⟩, w_1028, w_1029, rfl⟩
theorem cw_RX10_114 : ciD RX10 114 1 μX1_init := ⟨⟨⟨cd_X1_init, w_838, cI_X1_init⟩, hd_X1_init, by decide⟩, w_839, rfl, rfl⟩
theorem cw_RX10_115 : cwD RX10 115 0 1 μX1_read := ⟨⟨⟨cd_X1_read, w_868, cI_X1_read⟩, hd_X1_read, by decide⟩, w_869, w_870, rfl⟩
theorem cw_RX10_135 : csD RX10 135 1 μX10_isLetter := ⟨⟨⟨cd_X10_isLetter, w_273, cI_X10_isLetter⟩, hd_X10_isLetter, by decide⟩, w_274⟩
theorem cw_RX10_154 : cwD RX10 154 2 6 μX6_seek := ⟨⟨⟨cd_X6_seek, w_288, cI_X6_seek⟩, hd_X6_seek, by decide⟩, w_289, w_290, rfl⟩
theorem cw_RX10_163 : cwD RX10 163 1 6 μX6_letterAt := ⟨⟨⟨cd_X6_letterAt, w_430, cI_X6_letterAt⟩, hd_X6_letterAt, by decide⟩, w_355, w_356, rfl⟩
theorem cw_RX10_175 : cwD RX10 175 3 3 μX3_add := ⟨⟨⟨cd_X3_add, w_447, cI_X3_add⟩, hd_X3_add, by decide⟩, w_448, w_449, rfl⟩
theorem cw_RX10_178 : cwD RX10 178 1 10 μX10_startBehind := ⟨⟨⟨cd_X10_startBehind, w_452, cI_X10_startBehind⟩, hd_X10_startBehind, by decide⟩, w_454, w_20, rfl⟩
theorem cw_RX10_181 : cwD RX10 181 1 3 μX3_has := ⟨⟨⟨cd_X3_has, w_460, cI_X3_has⟩, hd_X3_has, by decide⟩, w_461, w_462, rfl⟩
theorem cw_RX10_184 : cwD RX10 184 1 3 μX3_startOf := ⟨⟨⟨cd_X3_startOf, w_464, cI_X3_startOf⟩, hd_X3_startOf, by decide⟩, w_465, w_466, rfl⟩
theorem cw_RX10_187 : cwD RX10 187 1 3 μX3_rowsOf := ⟨⟨⟨cd_X3_rowsOf, w_469, cI_X3_rowsOf⟩, hd_X3_rowsOf, by decide⟩, w_470, w_471, rfl⟩
theorem cw_RX10_190 : cwD RX10 190 1 3 μX3_lettersOf := ⟨⟨⟨cd_X3_lettersOf, w_473, cI_X3_lettersOf⟩, hd_X3_lettersOf, by decide⟩, w_474, w_475, rfl⟩
theorem cw_RX10_193 : csD RX10 193 1 μJ6_bitCount_0f7a4 := ⟨⟨⟨cd_J6_bitCount_0f7a4, w_481, cI_J6_bitCount_0f7a4⟩, hd_J6_bitCount_0f7a4, by decide⟩, w_482⟩
theorem cw_RX10_198 : cwD RX10 198 2 3 μX3_letterOf := ⟨⟨⟨cd_X3_letterOf, w_495, cI_X3_letterOf⟩, hd_X3_letterOf, by decide⟩, w_478, w_479, rfl⟩
theorem cw_RX10_211 : cwD RX10 211 1 3 μX3_covering := ⟨⟨⟨cd_X3_covering, w_500, cI_X3_covering⟩, hd_X3_covering, by decide⟩, w_501, w_502, rfl⟩
theorem cw_RX10_214 : cwD RX10 214 0 7 μX7_lettersWithCondition := ⟨⟨⟨cd_X7_lettersWithCondition, w_508, cI_X7_lettersWithCondition⟩, hd_X7_lettersWithCondition, by decide⟩, w_509, w_510, rfl⟩
theorem cw_RX10_217 : cwD RX10 217 0 10 μX10_rowsInNoMatch := ⟨⟨⟨cd_X10_rowsInNoMatch, w_512, cI_X10_rowsInNoMatch⟩, hd_X10_rowsInNoMatch, by decide⟩, w_514, w_21, rfl⟩
theorem oi_RX0_5 : Cond.methodLink RX0 5 Lib.objectInit ∈ lwg := w_933
theorem cw_RX0_19 : csD RX0 19 3 μX0_value := ⟨⟨⟨cd_X0_value, w_343, cI_X0_value⟩, hd_X0_value, by decide⟩, w_344⟩
theorem cw_RX0_23 : csD RX0 23 3 μX0_compared := ⟨⟨⟨cd_X0_compared, w_372, cI_X0_compared⟩, hd_X0_compared, by decide⟩, w_373⟩
theorem cw_RX0_40 : cwD RX0 40 2 8 μX8_number := ⟨⟨⟨cd_X8_number, w_346, cI_X8_number⟩, hd_X8_number, by decide⟩, w_347, w_348, rfl⟩
theorem cw_RX0_46 : cwD RX0 46 2 6 μX6_earliest := ⟨⟨⟨cd_X6_earliest, w_350, cI_X6_earliest⟩, hd_X6_earliest, by decide⟩, w_351, w_352, rfl⟩
theorem cw_RX0_49 : cwD RX0 49 2 6 μX6_latest := ⟨⟨⟨cd_X6_latest, w_358, cI_X6_latest⟩, hd_X6_latest, by decide⟩, w_359, w_360, rfl⟩
theorem cw_RX0_52 : cwD RX0 52 3 6 μX6_sum := ⟨⟨⟨cd_X6_sum, w_362, cI_X6_sum⟩, hd_X6_sum, by decide⟩, w_363, w_364, rfl⟩
theorem cw_RX0_56 : cwD RX0 56 2 6 μX6_count := ⟨⟨⟨cd_X6_count, w_367, cI_X6_count⟩, hd_X6_count, by decide⟩, w_368, w_369, rfl⟩
theorem oi_RX1_3 : Cond.methodLink RX1 3 Lib.objectInit ∈ lwg := w_841
theorem cw_RX1_37 : cwD RX1 37 1 9 μX9_at := ⟨⟨⟨cd_X9_at, w_872, cI_X9_at⟩, hd_X9_at, by decide⟩, w_873, w_874, rfl⟩
theorem cw_RX1_45 : cwD RX1 45 0 1 μX1_failed := ⟨⟨⟨cd_X1_failed, w_877, cI_X1_failed⟩, hd_X1_failed, by decide⟩, w_879, w_22, rfl⟩
theorem cw_RX1_49 : cwD RX1 49 1 1 μX1_passes := ⟨⟨⟨cd_X1_passes, w_881, cI_X1_passes⟩, hd_X1_passes, by decide⟩, w_883, w_23, rfl⟩
theorem cw_RX1_52 : cwD RX1 52 1 1 μX1_conditionOf := ⟨⟨⟨cd_X1_conditionOf, w_889, cI_X1_conditionOf⟩, hd_X1_conditionOf, by decide⟩, w_891, w_25, rfl⟩
theorem cw_RX1_56 : cwD RX1 56 1 1 μX1_comes := ⟨⟨⟨cd_X1_comes, w_885, cI_X1_comes⟩, hd_X1_comes, by decide⟩, w_887, w_24, rfl⟩
theorem cw_RX1_59 : cwD RX1 59 1 1 μX1_either := ⟨⟨⟨cd_X1_either, w_893, cI_X1_either⟩, hd_X1_either, by decide⟩, w_895, w_26, rfl⟩
theorem cw_RX1_65 : csD RX1 65 2 μJ7_copyOf_59c91 := ⟨⟨⟨cd_J7_copyOf_59c91, w_929, cI_J7_copyOf_59c91⟩, hd_J7_copyOf_59c91, by decide⟩, w_314⟩
theorem cw_RX1_71 : ciD RX1 71 1 μX0_init := ⟨⟨⟨cd_X0_init, w_930, cI_X0_init⟩, hd_X0_init, by decide⟩, w_931, rfl, rfl⟩
theorem cw_RX1_74 : cwD RX1 74 1 1 μX1_both := ⟨⟨⟨cd_X1_both, w_897, cI_X1_both⟩, hd_X1_both, by decide⟩, w_899, w_27, rfl⟩
theorem cw_RX1_77 : cwD RX1 77 1 1 μX1_emit := ⟨⟨⟨cd_X1_emit, w_909, cI_X1_emit⟩, hd_X1_emit, by decide⟩, w_911, w_30, rfl⟩
theorem cw_RX1_81 : cwD RX1 81 1 1 μX1_factor := ⟨⟨⟨cd_X1_factor, w_901, cI_X1_factor⟩, hd_X1_factor, by decide⟩, w_903, w_28, rfl⟩
theorem cw_RX1_84 : cwD RX1 84 0 1 μX1_test := ⟨⟨⟨cd_X1_test, w_905, cI_X1_test⟩, hd_X1_test, by decide⟩, w_907, w_29, rfl⟩
theorem cw_RX1_87 : cwD RX1 87 0 1 μX1_operand := ⟨⟨⟨cd_X1_operand, w_913, cI_X1_operand⟩, hd_X1_operand, by decide⟩, w_915, w_31, rfl⟩
theorem cw_RX1_90 : cwD RX1 90 2 1 μX1_column := ⟨⟨⟨cd_X1_column, w_917, cI_X1_column⟩, hd_X1_column, by decide⟩, w_919, w_32, rfl⟩
theorem cw_RX1_94 : cwD RX1 94 0 1 μX1_number := ⟨⟨⟨cd_X1_number, w_924, cI_X1_number⟩, hd_X1_number, by decide⟩, w_926, w_33, rfl⟩
theorem cw_RX1_97 : csD RX1 97 2 μX0_operand := ⟨⟨⟨cd_X0_operand, w_921, cI_X0_operand⟩, hd_X0_operand, by decide⟩, w_922⟩
theorem oi_RX2_3 : Cond.methodLink RX2 3 Lib.objectInit ∈ lwg := w_239
theorem oi_RX3_3 : Cond.methodLink RX3 3 Lib.objectInit ∈ lwg := w_109
theorem cw_RX3_25 : cwD RX3 25 1 6 μX6_letterAt := ⟨⟨⟨cd_X6_letterAt, w_451, cI_X6_letterAt⟩, hd_X6_letterAt, by decide⟩, w_355, w_356, rfl⟩
theorem cw_RX3_37 : cwD RX3 37 1 3 μX3_has := ⟨⟨⟨cd_X3_has, w_468, cI_X3_has⟩, hd_X3_has, by decide⟩, w_461, w_462, rfl⟩
theorem cw_RX3_41 : cwD RX3 41 2 3 μX3_letterOf := ⟨⟨⟨cd_X3_letterOf, w_477, cI_X3_letterOf⟩, hd_X3_letterOf, by decide⟩, w_478, w_479, rfl⟩
theorem oi_RX4_3 : Cond.methodLink RX4 3 Lib.objectInit ∈ lwg := w_1003
theorem cw_RX4_19 : cwD RX4 19 3 4 μX4_note := ⟨⟨⟨cd_X4_note, w_1065, cI_X4_note⟩, hd_X4_note, by decide⟩, w_1067, w_40, rfl⟩
theorem cw_RX4_23 : cwD RX4 23 2 4 μX4_fact := ⟨⟨⟨cd_X4_fact, w_1069, cI_X4_fact⟩, hd_X4_fact, by decide⟩, w_302, w_303, rfl⟩
theorem cw_RX4_27 : cwD RX4 27 3 4 μX4_add := ⟨⟨⟨cd_X4_add, w_1061, cI_X4_add⟩, hd_X4_add, by decide⟩, w_1062, w_1063, rfl⟩
theorem oi_RX5_3 : Cond.methodLink RX5 3 Lib.objectInit ∈ lwg := w_997
theorem cw_RX5_26 : ciD RX5 26 1 μX4_init := ⟨⟨⟨cd_X4_init, w_1000, cI_X4_init⟩, hd_X4_init, by decide⟩, w_1001, rfl, rfl⟩
theorem cw_RX5_33 : cwD RX5 33 1 5 μX5_choice := ⟨⟨⟨cd_X5_choice, w_1031, cI_X5_choice⟩, hd_X5_choice, by decide⟩, w_1033, w_34, rfl⟩
theorem cw_RX5_40 : cwD RX5 40 1 5 μX5_failed := ⟨⟨⟨cd_X5_failed, w_1053, cI_X5_failed⟩, hd_X5_failed, by decide⟩, w_1055, w_39, rfl⟩
theorem cw_RX5_43 : cwD RX5 43 1 9 μX9_at := ⟨⟨⟨cd_X9_at, w_1051, cI_X9_at⟩, hd_X9_at, by decide⟩, w_873, w_874, rfl⟩
theorem cw_RX5_46 : cwD RX5 46 1 5 μX5_sequence := ⟨⟨⟨cd_X5_sequence, w_1035, cI_X5_sequence⟩, hd_X5_sequence, by decide⟩, w_1037, w_35, rfl⟩
theorem cw_RX5_49 : cwD RX5 49 1 5 μX5_comes := ⟨⟨⟨cd_X5_comes, w_1074, cI_X5_comes⟩, hd_X5_comes, by decide⟩, w_1076, w_42, rfl⟩
theorem cw_RX5_53 : cwD RX5 53 2 4 μX4_link := ⟨⟨⟨cd_X4_link, w_1082, cI_X4_link⟩, hd_X4_link, by decide⟩, w_1083, w_1084, rfl⟩
theorem cw_RX5_57 : cwD RX5 57 3 4 μX4_add := ⟨⟨⟨cd_X4_add, w_1086, cI_X4_add⟩, hd_X4_add, by decide⟩, w_1062, w_1063, rfl⟩
theorem cw_RX5_61 : cwD RX5 61 1 5 μX5_piece := ⟨⟨⟨cd_X5_piece, w_1039, cI_X5_piece⟩, hd_X5_piece, by decide⟩, w_1041, w_36, rfl⟩
theorem cw_RX5_64 : cwD RX5 64 1 5 μX5_atomComes := ⟨⟨⟨cd_X5_atomComes, w_1047, cI_X5_atomComes⟩, hd_X5_atomComes, by decide⟩, w_1049, w_38, rfl⟩
theorem cw_RX5_70 : cwD RX5 70 1 5 μX5_atom := ⟨⟨⟨cd_X5_atom, w_1043, cI_X5_atom⟩, hd_X5_atom, by decide⟩, w_1045, w_37, rfl⟩
theorem cw_RX5_73 : cwD RX5 73 3 5 μX5_repeated := ⟨⟨⟨cd_X5_repeated, w_1087, cI_X5_repeated⟩, hd_X5_repeated, by decide⟩, w_1089, w_44, rfl⟩
theorem cw_RX5_76 : cwD RX5 76 1 5 μX5_bounded := ⟨⟨⟨cd_X5_bounded, w_1095, cI_X5_bounded⟩, hd_X5_bounded, by decide⟩, w_1097, w_45, rfl⟩
theorem cw_RX5_79 : cwD RX5 79 2 4 μX4_addLeaf := ⟨⟨⟨cd_X4_addLeaf, w_1057, cI_X4_addLeaf⟩, hd_X4_addLeaf, by decide⟩, w_1058, w_1059, rfl⟩
theorem cw_RX5_83 : cwD RX5 83 1 5 μX5_bracketed := ⟨⟨⟨cd_X5_bracketed, w_1070, cI_X5_bracketed⟩, hd_X5_bracketed, by decide⟩, w_1072, w_41, rfl⟩
theorem cw_RX5_86 : cwD RX5 86 1 5 μX5_anyOrder := ⟨⟨⟨cd_X5_anyOrder, w_1078, cI_X5_anyOrder⟩, hd_X5_anyOrder, by decide⟩, w_1080, w_43, rfl⟩
theorem cw_RX5_89 : cwD RX5 89 0 5 μX5_number := ⟨⟨⟨cd_X5_number, w_1099, cI_X5_number⟩, hd_X5_number, by decide⟩, w_1101, w_46, rfl⟩
theorem cw_RX5_93 : cwD RX5 93 1 5 μX5_mostBehind := ⟨⟨⟨cd_X5_mostBehind, w_1103, cI_X5_mostBehind⟩, hd_X5_mostBehind, by decide⟩, w_1105, w_47, rfl⟩
theorem cw_RX5_96 : cwD RX5 96 4 4 μX4_addRepetition := ⟨⟨⟨cd_X4_addRepetition, w_1091, cI_X4_addRepetition⟩, hd_X4_addRepetition, by decide⟩, w_1092, w_1093, rfl⟩
theorem oi_RX6_3 : Cond.methodLink RX6 3 Lib.objectInit ∈ lwg := w_165
theorem cw_RX6_46 : cwD RX6 46 2 6 μX6_begin := ⟨⟨⟨cd_X6_begin, w_292, cI_X6_begin⟩, hd_X6_begin, by decide⟩, w_294, w_4, rfl⟩
theorem cw_RX6_51 : cwD RX6 51 1 6 μX6_come := ⟨⟨⟨cd_X6_come, w_297, cI_X6_come⟩, hd_X6_come, by decide⟩, w_299, w_5, rfl⟩
theorem cw_RX6_58 : cwD RX6 58 1 6 μX6_goOn := ⟨⟨⟨cd_X6_goOn, w_398, cI_X6_goOn⟩, hd_X6_goOn, by decide⟩, w_400, w_15, rfl⟩
theorem cw_RX6_61 : cwD RX6 61 0 6 μX6_noteWay := ⟨⟨⟨cd_X6_noteWay, w_406, cI_X6_noteWay⟩, hd_X6_noteWay, by decide⟩, w_408, w_17, rfl⟩
theorem cw_RX6_70 : cwD RX6 70 1 6 μX6_goBack := ⟨⟨⟨cd_X6_goBack, w_414, cI_X6_goBack⟩, hd_X6_goBack, by decide⟩, w_416, w_18, rfl⟩
theorem cw_RX6_94 : csD RX6 94 2 μJ9_min_7cf53 := ⟨⟨⟨cd_J9_min_7cf53, w_410, cI_J9_min_7cf53⟩, hd_J9_min_7cf53, by decide⟩, w_324⟩
theorem cw_RX6_100 : csD RX6 100 2 μJ9_max_7cf53 := ⟨⟨⟨cd_J9_max_7cf53, w_411, cI_J9_max_7cf53⟩, hd_J9_max_7cf53, by decide⟩, w_412⟩
theorem cw_RX6_106 : cwD RX6 106 2 4 μX4_fact := ⟨⟨⟨cd_X4_fact, w_301, cI_X4_fact⟩, hd_X4_fact, by decide⟩, w_302, w_303, rfl⟩
theorem cw_RX6_109 : cwD RX6 109 2 6 μX6_comeWithin := ⟨⟨⟨cd_X6_comeWithin, w_305, cI_X6_comeWithin⟩, hd_X6_comeWithin, by decide⟩, w_307, w_6, rfl⟩
theorem cw_RX6_113 : cwD RX6 113 0 6 μX6_mayTry := ⟨⟨⟨cd_X6_mayTry, w_329, cI_X6_mayTry⟩, hd_X6_mayTry, by decide⟩, w_331, w_8, rfl⟩
theorem cw_RX6_117 : cwD RX6 117 1 6 μX6_takeLetter := ⟨⟨⟨cd_X6_takeLetter, w_333, cI_X6_takeLetter⟩, hd_X6_takeLetter, by decide⟩, w_335, w_9, rfl⟩
theorem cw_RX6_121 : cwD RX6 121 2 6 μX6_choose := ⟨⟨⟨cd_X6_choose, w_375, cI_X6_choose⟩, hd_X6_choose, by decide⟩, w_377, w_10, rfl⟩
theorem cw_RX6_124 : cwD RX6 124 3 6 μX6_repeat := ⟨⟨⟨cd_X6_repeat, w_383, cI_X6_repeat⟩, hd_X6_repeat, by decide⟩, w_385, w_12, rfl⟩
theorem cw_RX6_128 : cwD RX6 128 3 6 μX6_order := ⟨⟨⟨cd_X6_order, w_391, cI_X6_order⟩, hd_X6_order, by decide⟩, w_393, w_14, rfl⟩
theorem cw_RX6_131 : cwD RX6 131 2 6 μX6_frameFact := ⟨⟨⟨cd_X6_frameFact, w_402, cI_X6_frameFact⟩, hd_X6_frameFact, by decide⟩, w_404, w_16, rfl⟩
theorem cw_RX6_134 : cwD RX6 134 1 6 μX6_optionFact := ⟨⟨⟨cd_X6_optionFact, w_418, cI_X6_optionFact⟩, hd_X6_optionFact, by decide⟩, w_420, w_19, rfl⟩
theorem cw_RX6_137 : cwD RX6 137 2 6 μX6_onceMore := ⟨⟨⟨cd_X6_onceMore, w_387, cI_X6_onceMore⟩, hd_X6_onceMore, by decide⟩, w_389, w_13, rfl⟩
theorem cw_RX6_148 : cwD RX6 148 2 0 μX0_isTrue := ⟨⟨⟨cd_X0_isTrue, w_338, cI_X0_isTrue⟩, hd_X0_isTrue, by decide⟩, w_339, w_340, rfl⟩
theorem cw_RX6_154 : cwD RX6 154 1 6 μX6_pushFrame := ⟨⟨⟨cd_X6_pushFrame, w_309, cI_X6_pushFrame⟩, hd_X6_pushFrame, by decide⟩, w_311, w_7, rfl⟩
theorem cw_RX6_158 : cwD RX6 158 1 6 μX6_pushOption := ⟨⟨⟨cd_X6_pushOption, w_379, cI_X6_pushOption⟩, hd_X6_pushOption, by decide⟩, w_381, w_11, rfl⟩
theorem cw_RX6_161 : csD RX6 161 3 μX6_notDone := ⟨⟨⟨cd_X6_notDone, w_395, cI_X6_notDone⟩, hd_X6_notDone, by decide⟩, w_396⟩
theorem cw_RX6_165 : csD RX6 165 2 μJ7_copyOf_59c91 := ⟨⟨⟨cd_J7_copyOf_59c91, w_313, cI_J7_copyOf_59c91⟩, hd_J7_copyOf_59c91, by decide⟩, w_314⟩
theorem cw_RX6_171 : cwD RX6 171 1 6 μX6_letterAt := ⟨⟨⟨cd_X6_letterAt, w_354, cI_X6_letterAt⟩, hd_X6_letterAt, by decide⟩, w_355, w_356, rfl⟩
theorem cw_RX6_174 : cwD RX6 174 2 8 μX8_number := ⟨⟨⟨cd_X8_number, w_366, cI_X8_number⟩, hd_X8_number, by decide⟩, w_347, w_348, rfl⟩
theorem oi_RX7_3 : Cond.methodLink RX7 3 Lib.objectInit ∈ lwg := w_85
theorem oi_RX8_3 : Cond.methodLink RX8 3 Lib.objectInit ∈ lwg := w_91
theorem cw_RX8_19 : cwD RX8 19 1 8 μX8_hasRow := ⟨⟨⟨cd_X8_hasRow, w_543, cI_X8_hasRow⟩, hd_X8_hasRow, by decide⟩, w_492, w_493, rfl⟩
theorem oi_RX9_3 : Cond.methodLink RX9 3 Lib.objectInit ∈ lwg := w_220
theorem cw_RL_9 : csD RL 9 2 μL_cell := ⟨⟨⟨cd_L_cell, w_519, cI_L_cell⟩, hd_L_cell, by decide⟩, w_520⟩
theorem cw_RL_17 : csD RL 17 3 μL_pick := ⟨⟨⟨cd_L_pick, w_516, cI_L_pick⟩, hd_L_pick, by decide⟩, w_517⟩
theorem cw_RL_21 : cwD RL 21 2 10 μX10_row := ⟨⟨⟨cd_X10_row, w_532, cI_X10_row⟩, hd_X10_row, by decide⟩, w_533, w_534, rfl⟩
theorem cw_RL_27 : cwD RL 27 0 11 μJ0_length_8abf5 := ⟨⟨⟨cd_J0_length_8abf5, w_708, cI_J0_length_8abf5⟩, hd_J0_length_8abf5, by decide⟩, w_666, w_667, rfl⟩
theorem cw_RL_33 : cwD RL 33 1 11 μJ0_charAt_5068e := ⟨⟨⟨cd_J0_charAt_5068e, w_809, cI_J0_charAt_5068e⟩, hd_J0_charAt_5068e, by decide⟩, w_810, w_811, rfl⟩
theorem cw_RL_37 : cwD RL 37 1 10 μX10_feed := ⟨⟨⟨cd_X10_feed, w_824, cI_X10_feed⟩, hd_X10_feed, by decide⟩, w_825, w_826, rfl⟩
theorem cw_RL_57 : csD RL 57 6 μL_summed := ⟨⟨⟨cd_L_summed, w_547, cI_L_summed⟩, hd_L_summed, by decide⟩, w_548⟩
theorem cw_RL_61 : csD RL 61 2 μL_isLess := ⟨⟨⟨cd_L_isLess, w_550, cI_L_isLess⟩, hd_L_isLess, by decide⟩, w_551⟩
theorem cw_RL_65 : csD RL 65 2 μL_isLike := ⟨⟨⟨cd_L_isLike, w_553, cI_L_isLike⟩, hd_L_isLike, by decide⟩, w_554⟩
theorem cw_RL_68 : csD RL 68 3 μL_value := ⟨⟨⟨cd_L_value, w_556, cI_L_value⟩, hd_L_value, by decide⟩, w_557⟩
theorem cw_RL_72 : csD RL 72 5 μL_lettered := ⟨⟨⟨cd_L_lettered, w_559, cI_L_lettered⟩, hd_L_lettered, by decide⟩, w_560⟩
theorem cw_RL_80 : ciD RL 80 0 μJ4_init_da8c8 := ⟨⟨⟨cd_J4_init_da8c8, w_568, cI_J4_init_da8c8⟩, hd_J4_init_da8c8, by decide⟩, w_569, rfl, rfl⟩
theorem cw_RL_81 : cwD RL 81 1 12 μJ4_append_15ec4 := ⟨⟨⟨cd_J4_append_15ec4, w_598, cI_J4_append_15ec4⟩, hd_J4_append_15ec4, by decide⟩, w_599, w_600, rfl⟩
theorem cw_RL_87 : cwD RL 87 1 12 μJ4_append_cf468 := ⟨⟨⟨cd_J4_append_cf468, w_710, cI_J4_append_cf468⟩, hd_J4_append_cf468, by decide⟩, w_711, w_712, rfl⟩
theorem cw_RL_92 : csD RL 92 1 μL_told := ⟨⟨⟨cd_L_told, w_733, cI_L_told⟩, hd_L_told, by decide⟩, w_734⟩
theorem cw_RL_96 : cwD RL 96 0 12 μJ4_toString_0e30d := ⟨⟨⟨cd_J4_toString_0e30d, w_746, cI_J4_toString_0e30d⟩, hd_J4_toString_0e30d, by decide⟩, w_747, w_748, rfl⟩
theorem cw_RL_100 : csD RL 100 2 μL_feed := ⟨⟨⟨cd_L_feed, w_806, cI_L_feed⟩, hd_L_feed, by decide⟩, w_807⟩
theorem cw_RL_103 : cwD RL 103 0 10 μX10_define := ⟨⟨⟨cd_X10_define, w_832, cI_X10_define⟩, hd_X10_define, by decide⟩, w_833, w_834, rfl⟩
theorem cw_RL_106 : csD RL 106 4 μL_make := ⟨⟨⟨cd_L_make, w_945, cI_L_make⟩, hd_L_make, by decide⟩, w_946⟩
theorem cw_RL_122 : csD RL 122 2 μL_spelled := ⟨⟨⟨cd_L_spelled, w_948, cI_L_spelled⟩, hd_L_spelled, by decide⟩, w_949⟩
theorem cw_RL_136 : cwD RL 136 1 12 μJ4_append_bf812 := ⟨⟨⟨cd_J4_append_bf812, w_962, cI_J4_append_bf812⟩, hd_J4_append_bf812, by decide⟩, w_963, w_964, rfl⟩
theorem cw_RL_141 : cwD RL 141 0 10 μX10_pattern := ⟨⟨⟨cd_X10_pattern, w_988, cI_X10_pattern⟩, hd_X10_pattern, by decide⟩, w_989, w_990, rfl⟩
theorem cw_RL_146 : ciD RL 146 0 μX10_init := ⟨⟨⟨cd_X10_init, w_74, cI_X10_init⟩, hd_X10_init, by decide⟩, w_75, rfl, rfl⟩
theorem cw_RL_147 : csD RL 147 3 μL_rows := ⟨⟨⟨cd_L_rows, w_524, cI_L_rows⟩, hd_L_rows, by decide⟩, w_525⟩
theorem cw_RL_151 : csD RL 151 3 μL_conditions := ⟨⟨⟨cd_L_conditions, w_562, cI_L_conditions⟩, hd_L_conditions, by decide⟩, w_563⟩
theorem cw_RL_155 : csD RL 155 3 μL_pattern := ⟨⟨⟨cd_L_pattern, w_942, cI_L_pattern⟩, hd_L_pattern, by decide⟩, w_943⟩
theorem cw_RL_158 : csD RL 158 2 μL_tell := ⟨⟨⟨cd_L_tell, w_529, cI_L_tell⟩, hd_L_tell, by decide⟩, w_530⟩
theorem cw_RL_162 : cwD RL 162 1 10 μX10_may := ⟨⟨⟨cd_X10_may, w_280, cI_X10_may⟩, hd_X10_may, by decide⟩, w_281, w_282, rfl⟩
theorem cw_RL_165 : cwD RL 165 1 10 μX10_first := ⟨⟨⟨cd_X10_first, w_284, cI_X10_first⟩, hd_X10_first, by decide⟩, w_285, w_286, rfl⟩
theorem cw_RL_168 : cwD RL 168 1 10 μX10_ways := ⟨⟨⟨cd_X10_ways, w_431, cI_X10_ways⟩, hd_X10_ways, by decide⟩, w_432, w_433, rfl⟩
theorem cw_RL_171 : cwD RL 171 2 10 μX10_spans := ⟨⟨⟨cd_X10_spans, w_435, cI_X10_spans⟩, hd_X10_spans, by decide⟩, w_436, w_437, rfl⟩
theorem cw_RL_174 : cwD RL 174 2 10 μX10_way := ⟨⟨⟨cd_X10_way, w_426, cI_X10_way⟩, hd_X10_way, by decide⟩, w_427, w_428, rfl⟩
theorem cw_RL_177 : csD RL 177 5 μL_isHeld := ⟨⟨⟨cd_L_isHeld, w_544, cI_L_isHeld⟩, hd_L_isHeld, by decide⟩, w_545⟩
theorem cw_RL_181 : cwD RL 181 2 10 μX10_fits := ⟨⟨⟨cd_X10_fits, w_439, cI_X10_fits⟩, hd_X10_fits, by decide⟩, w_440, w_441, rfl⟩
theorem cw_RL_184 : cwD RL 184 1 10 μX10_tries := ⟨⟨⟨cd_X10_tries, w_422, cI_X10_tries⟩, hd_X10_tries, by decide⟩, w_423, w_424, rfl⟩
theorem cw_RL_187 : cwD RL 187 2 10 μX10_mode := ⟨⟨⟨cd_X10_mode, w_269, cI_X10_mode⟩, hd_X10_mode, by decide⟩, w_270, w_271, rfl⟩
theorem cw_RL_190 : cwD RL 190 1 10 μX10_empties := ⟨⟨⟨cd_X10_empties, w_276, cI_X10_empties⟩, hd_X10_empties, by decide⟩, w_277, w_278, rfl⟩
theorem cw_RL_193 : cwD RL 193 0 10 μX10_run := ⟨⟨⟨cd_X10_run, w_443, cI_X10_run⟩, hd_X10_run, by decide⟩, w_444, w_445, rfl⟩
theorem cw_RL_196 : cwD RL 196 2 10 μX10_match := ⟨⟨⟨cd_X10_match, w_456, cI_X10_match⟩, hd_X10_match, by decide⟩, w_457, w_458, rfl⟩
theorem cw_RL_199 : cwD RL 199 2 10 μX10_label := ⟨⟨⟨cd_X10_label, w_487, cI_X10_label⟩, hd_X10_label, by decide⟩, w_488, w_489, rfl⟩
theorem cw_RL_202 : cwD RL 202 1 10 μX10_covered := ⟨⟨⟨cd_X10_covered, w_496, cI_X10_covered⟩, hd_X10_covered, by decide⟩, w_497, w_498, rfl⟩
theorem cw_RL_205 : cwD RL 205 1 10 μX10_told := ⟨⟨⟨cd_X10_told, w_504, cI_X10_told⟩, hd_X10_told, by decide⟩, w_505, w_506, rfl⟩
theorem oi_RJ5_3 : Cond.methodLink RJ5 3 Lib.objectInit ∈ lwg := w_574
theorem cw_RJ5_26 : csD RJ5 26 1 μJ2_newBytesFor_77867 := ⟨⟨⟨cd_J2_newBytesFor_77867, w_577, cI_J2_newBytesFor_77867⟩, hd_J2_newBytesFor_77867, by decide⟩, w_578⟩
theorem cw_RJ5_32 : cwD RJ5 32 0 11 μJ0_length_8abf5 := ⟨⟨⟨cd_J0_length_8abf5, w_665, cI_J0_length_8abf5⟩, hd_J0_length_8abf5, by decide⟩, w_666, w_667, rfl⟩
theorem cw_RJ5_40 : cwD RJ5 40 0 11 μJ0_coder_7d493 := ⟨⟨⟨cd_J0_coder_7d493, w_682, cI_J0_coder_7d493⟩, hd_J0_coder_7d493, by decide⟩, w_670, w_671, rfl⟩
theorem cw_RJ5_83 : cuD RJ5 83 0 μJ5_isLatin1_aae02 := ⟨⟨⟨cd_J5_isLatin1_aae02, w_634, cI_J5_isLatin1_aae02⟩, hd_J5_isLatin1_aae02, by decide⟩, w_636, w_637, w_635⟩
theorem cw_RJ5_100 : cuD RJ5 100 1 μJ5_ensureCapacityInternal_d00df := ⟨⟨⟨cd_J5_ensureCapacityInternal_d00df, w_609, cI_J5_ensureCapacityInternal_d00df⟩, hd_J5_ensureCapacityInternal_d00df, by decide⟩, w_1110, w_0, w_611⟩
theorem cw_RJ5_104 : cuD RJ5 104 1 μJ5_newCapacity_0f7a4 := ⟨⟨⟨cd_J5_newCapacity_0f7a4, w_613, cI_J5_newCapacity_0f7a4⟩, hd_J5_newCapacity_0f7a4, by decide⟩, w_1111, w_1, w_615⟩
theorem cw_RJ5_108 : csD RJ5 108 2 μJ7_copyOf_9075b := ⟨⟨⟨cd_J7_copyOf_9075b, w_626, cI_J7_copyOf_9075b⟩, hd_J7_copyOf_9075b, by decide⟩, w_627⟩
theorem cw_RJ5_114 : csD RJ5 114 3 μJ8_newLength_cabcc := ⟨⟨⟨cd_J8_newLength_cabcc, w_617, cI_J8_newLength_cabcc⟩, hd_J8_newLength_cabcc, by decide⟩, w_618⟩
theorem cw_RJ5_125 : csD RJ5 125 5 μJ1_inflate_0e8fd := ⟨⟨⟨cd_J1_inflate_0e8fd, w_687, cI_J1_inflate_0e8fd⟩, hd_J1_inflate_0e8fd, by decide⟩, w_688⟩
theorem cw_RJ5_191 : csD RJ5 191 1 μJ1_canEncode_fc78d := ⟨⟨⟨cd_J1_canEncode_fc78d, w_717, cI_J1_canEncode_fc78d⟩, hd_J1_canEncode_fc78d, by decide⟩, w_718⟩
theorem cw_RJ5_197 : csD RJ5 197 3 μJ2_putCharSB_b72d1 := ⟨⟨⟨cd_J2_putCharSB_b72d1, w_720, cI_J2_putCharSB_b72d1⟩, hd_J2_putCharSB_b72d1, by decide⟩, w_721⟩
theorem cw_RJ5_208 : cuD RJ5 208 2 μJ5_putStringAt_47b60 := ⟨⟨⟨cd_J5_putStringAt_47b60, w_674, cI_J5_putStringAt_47b60⟩, hd_J5_putStringAt_47b60, by decide⟩, w_1112, w_2, w_676⟩
theorem cw_RJ5_226 : csD RJ5 226 6 μJ2_putCharsAt_cd4e5 := ⟨⟨⟨cd_J2_putCharsAt_cd4e5, w_639, cI_J2_putCharsAt_cd4e5⟩, hd_J2_putCharsAt_cd4e5, by decide⟩, w_640⟩
theorem cw_RJ5_245 : csD RJ5 245 1 μJ6_stringSize_0f7a4 := ⟨⟨⟨cd_J6_stringSize_0f7a4, w_969, cI_J6_stringSize_0f7a4⟩, hd_J6_stringSize_0f7a4, by decide⟩, w_970⟩
theorem cw_RJ5_248 : csD RJ5 248 3 μJ6_getChars_ba4f3 := ⟨⟨⟨cd_J6_getChars_ba4f3, w_972, cI_J6_getChars_ba4f3⟩, hd_J6_getChars_ba4f3, by decide⟩, w_973⟩
theorem cw_RJ5_251 : csD RJ5 251 4 μJ2_getChars_46870 := ⟨⟨⟨cd_J2_getChars_46870, w_979, cI_J2_getChars_46870⟩, hd_J2_getChars_46870, by decide⟩, w_980⟩
theorem cw_RJ5_397 : cuD RJ5 397 1 μJ5_inflateIfNeededFor_a7421 := ⟨⟨⟨cd_J5_inflateIfNeededFor_a7421, w_678, cI_J5_inflateIfNeededFor_a7421⟩, hd_J5_inflateIfNeededFor_a7421, by decide⟩, w_1113, w_3, w_680⟩
theorem cw_RJ5_399 : cwD RJ5 399 3 11 μJ0_getBytes_840e7 := ⟨⟨⟨cd_J0_getBytes_840e7, w_702, cI_J0_getBytes_840e7⟩, hd_J0_getBytes_840e7, by decide⟩, w_703, w_704, rfl⟩
theorem oi_RJ0_1 : Cond.methodLink RJ0 1 Lib.objectInit ∈ lwg := w_758
theorem cw_RJ0_47 : csD RJ0 47 2 μJ2_coderFromArrayLen_85cad := ⟨⟨⟨cd_J2_coderFromArrayLen_85cad, w_792, cI_J2_coderFromArrayLen_85cad⟩, hd_J2_coderFromArrayLen_85cad, by decide⟩, w_793⟩
theorem cw_RJ0_54 : csD RJ0 54 3 μJ7_copyOfRange_39247 := ⟨⟨⟨cd_J7_copyOfRange_39247, w_773, cI_J7_copyOfRange_39247⟩, hd_J7_copyOfRange_39247, by decide⟩, w_774⟩
theorem cw_RJ0_106 : csD RJ0 106 5 μJ1_inflate_0e8fd := ⟨⟨⟨cd_J1_inflate_0e8fd, w_707, cI_J1_inflate_0e8fd⟩, hd_J1_inflate_0e8fd, by decide⟩, w_688⟩
theorem ac_RJ0_212 : acD RJ0 212 := ⟨w_706, w_328, w_327, w_63⟩
theorem cw_RJ0_335 : cwD RJ0 335 0 11 μJ0_coder_7d493 := ⟨⟨⟨cd_J0_coder_7d493, w_669, cI_J0_coder_7d493⟩, hd_J0_coder_7d493, by decide⟩, w_670, w_671, rfl⟩
theorem cw_RJ0_489 : ciD RJ0 489 2 μJ0_init_db425 := ⟨⟨⟨cd_J0_init_db425, w_755, cI_J0_init_db425⟩, hd_J0_init_db425, by decide⟩, w_756, rfl, rfl⟩
theorem cw_RJ0_492 : cwD RJ0 492 0 11 μJ0_isLatin1_aae02 := ⟨⟨⟨cd_J0_isLatin1_aae02, w_813, cI_J0_isLatin1_aae02⟩, hd_J0_isLatin1_aae02, by decide⟩, w_814, w_815, rfl⟩
theorem cw_RJ0_495 : csD RJ0 495 2 μJ1_charAt_3b067 := ⟨⟨⟨cd_J1_charAt_3b067, w_817, cI_J1_charAt_3b067⟩, hd_J1_charAt_3b067, by decide⟩, w_818⟩
theorem cw_RJ0_498 : csD RJ0 498 2 μJ2_charAt_3b067 := ⟨⟨⟨cd_J2_charAt_3b067, w_821, cI_J2_charAt_3b067⟩, hd_J2_charAt_3b067, by decide⟩, w_822⟩
theorem cw_RJ0_549 : coD RJ0 549 0 yJ5_length_8abf5 μJ4_length_8abf5 := ⟨⟨cd_J4_length_8abf5, w_764, cI_J4_length_8abf5⟩, hd_J5_length_8abf5, by decide, w_766, w_765, w_767, w_768, ⟨_, _, _, cd_J5_length_8abf5⟩⟩
theorem cw_RJ0_552 : cuD RJ0 552 0 μJ5_getValue_6d5f1 := ⟨⟨⟨cd_J5_getValue_6d5f1, w_759, cI_J5_getValue_6d5f1⟩, hd_J5_getValue_6d5f1, by decide⟩, w_761, w_762, w_760⟩
theorem cw_RJ0_1047 : cuD RJ0 1047 0 μJ5_isLatin1_aae02 := ⟨⟨⟨cd_J5_isLatin1_aae02, w_772, cI_J5_isLatin1_aae02⟩, hd_J5_isLatin1_aae02, by decide⟩, w_636, w_637, w_635⟩
theorem cw_RJ0_1051 : csD RJ0 1051 3 μJ2_compress_39247 := ⟨⟨⟨cd_J2_compress_39247, w_782, cI_J2_compress_39247⟩, hd_J2_compress_39247, by decide⟩, w_783⟩
theorem cw_RJ0_1059 : csD RJ0 1059 3 μJ3_checkIndex_8e157 := ⟨⟨⟨cd_J3_checkIndex_8e157, w_729, cI_J3_checkIndex_8e157⟩, hd_J3_checkIndex_8e157, by decide⟩, w_730⟩
theorem cw_RJ0_1062 : csD RJ0 1062 4 μJ3_checkFromToIndex_8c36e := ⟨⟨⟨cd_J3_checkFromToIndex_8c36e, w_653, cI_J3_checkFromToIndex_8c36e⟩, hd_J3_checkFromToIndex_8c36e, by decide⟩, w_654⟩
theorem cw_RJ0_1065 : csD RJ0 1065 4 μJ3_checkFromIndexSize_8c36e := ⟨⟨⟨cd_J3_checkFromIndexSize_8c36e, w_699, cI_J3_checkFromIndexSize_8c36e⟩, hd_J3_checkFromIndexSize_8c36e, by decide⟩, w_700⟩
theorem cw_RJ4_1 : ciD RJ4 1 1 μJ5_init_d00df := ⟨⟨⟨cd_J5_init_d00df, w_571, cI_J5_init_d00df⟩, hd_J5_init_d00df, by decide⟩, w_572, rfl, rfl⟩
theorem cw_RJ4_29 : cuS RJ4 29 1 μJ5_append_cf1ce := ⟨⟨⟨cd_J5_append_cf1ce, w_602, cI_J5_append_cf1ce⟩, hd_J5_append_cf1ce, by decide⟩, w_1108, w_596, w_603, by decide +kernel⟩
theorem cw_RJ4_50 : cuS RJ4 50 1 μJ5_append_3fe6f := ⟨⟨⟨cd_J5_append_3fe6f, w_714, cI_J5_append_3fe6f⟩, hd_J5_append_3fe6f, by decide⟩, w_1115, w_596, w_715, by decide +kernel⟩
theorem cw_RJ4_53 : cuS RJ4 53 1 μJ5_append_c97b9 := ⟨⟨⟨cd_J5_append_c97b9, w_966, cI_J5_append_c97b9⟩, hd_J5_append_c97b9, by decide⟩, w_1116, w_596, w_967, by decide +kernel⟩
theorem cw_RJ4_137 : ciD RJ4 137 1 μJ0_init_81219 := ⟨⟨⟨cd_J0_init_81219, w_752, cI_J0_init_81219⟩, hd_J0_init_81219, by decide⟩, w_753, rfl, rfl⟩
theorem cw_RJ4_343 : cuS RJ4 343 0 μJ5_length_8abf5 := ⟨⟨⟨cd_J5_length_8abf5, w_770, cI_J5_length_8abf5⟩, hd_J5_length_8abf5, by decide⟩, w_766, w_596, w_765, by decide +kernel⟩
theorem cw_RJ1_9 : csD RJ1 9 2 μJ0_checkIndex_df160 := ⟨⟨⟨cd_J0_checkIndex_df160, w_820, cI_J0_checkIndex_df160⟩, hd_J0_checkIndex_df160, by decide⟩, w_727⟩
theorem cw_RJ1_240 : csD RJ1 240 5 μJ2_inflate_0e8fd := ⟨⟨⟨cd_J2_inflate_0e8fd, w_690, cI_J2_inflate_0e8fd⟩, hd_J2_inflate_0e8fd, by decide⟩, w_691⟩
theorem ac_RJ7_150 : acD RJ7 150 := ⟨w_326, w_328, w_327, w_63⟩
theorem cw_RJ7_304 : csD RJ7 304 2 μJ9_min_7cf53 := ⟨⟨⟨cd_J9_min_7cf53, w_323, cI_J9_min_7cf53⟩, hd_J9_min_7cf53, by decide⟩, w_324⟩
theorem cw_RJ7_339 : csD RJ7 339 3 μJ7_copyOfRangeByte_39247 := ⟨⟨⟨cd_J7_copyOfRangeByte_39247, w_776, cI_J7_copyOfRangeByte_39247⟩, hd_J7_copyOfRangeByte_39247, by decide⟩, w_777⟩
theorem cw_RJ7_343 : csD RJ7 343 2 μJ7_checkLength_df160 := ⟨⟨⟨cd_J7_checkLength_df160, w_779, cI_J7_checkLength_df160⟩, hd_J7_checkLength_df160, by decide⟩, w_780⟩
theorem cw_RJ8_194 : csD RJ8 194 2 μJ9_max_7cf53 := ⟨⟨⟨cd_J9_max_7cf53, w_620, cI_J9_max_7cf53⟩, hd_J9_max_7cf53, by decide⟩, w_412⟩
theorem cw_RJ8_201 : csD RJ8 201 2 μJ8_hugeLength_7cf53 := ⟨⟨⟨cd_J8_hugeLength_7cf53, w_622, cI_J8_hugeLength_7cf53⟩, hd_J8_hugeLength_7cf53, by decide⟩, w_623⟩
theorem cn_RX10_11 : cnD RX10 11 0 μX7_init RX10 := ⟨⟨cd_X7_init, List.mem_of_getElem? (i := 0) rfl, cI_X7_init⟩, hd_X7_init, by decide, w_83, rfl, rfl⟩
theorem cn_RX10_29 : cnD RX10 29 0 μX9_init RX10 := ⟨⟨cd_X9_init, List.mem_of_getElem? (i := 1) rfl, cI_X9_init⟩, hd_X9_init, by decide, w_218, rfl, rfl⟩
theorem cn_RX10_45 : cnD RX10 45 0 μX3_init RX10 := ⟨⟨cd_X3_init, List.mem_of_getElem? (i := 2) rfl, cI_X3_init⟩, hd_X3_init, by decide, w_107, rfl, rfl⟩
theorem cn_RX10_50 : cnD RX10 50 0 μX2_init RX10 := ⟨⟨cd_X2_init, List.mem_of_getElem? (i := 3) rfl, cI_X2_init⟩, hd_X2_init, by decide, w_237, rfl, rfl⟩
theorem cn_RX1_41 : csnD RX1 41 1 μX10_isLetter RX10 := ⟨⟨cd_X10_isLetter, List.mem_of_getElem? (i := 4) rfl, cI_X10_isLetter⟩, hd_X10_isLetter, by decide, w_274⟩
theorem cn_RX5_67 : csnD RX5 67 1 μX10_isLetter RX10 := ⟨⟨cd_X10_isLetter, List.mem_of_getElem? (i := 5) rfl, cI_X10_isLetter⟩, hd_X10_isLetter, by decide, w_274⟩
theorem cn_RX6_140 : csnD RX6 140 1 μX10_isLetter RX10 := ⟨⟨cd_X10_isLetter, List.mem_of_getElem? (i := 6) rfl, cI_X10_isLetter⟩, hd_X10_isLetter, by decide, w_274⟩
theorem cn_RX7_11 : cnD RX7 11 0 μX8_init RX10 := ⟨⟨cd_X8_init, List.mem_of_getElem? (i := 7) rfl, cI_X8_init⟩, hd_X8_init, by decide, w_89, rfl, rfl⟩
theorem cn_RX7_26 : cnD RX7 26 0 μX3_init RX10 := ⟨⟨cd_X3_init, List.mem_of_getElem? (i := 8) rfl, cI_X3_init⟩, hd_X3_init, by decide, w_107, rfl, rfl⟩
theorem cl_RX10_9 : Cond.classLink RX10 9 RX7 ∈ lwg := w_80
theorem nw_RX10_9 : NW RX10 9 7 8 := ⟨RX7, TX7, co7, cl_RX10_9, w_81, w_50, by decide +kernel⟩
theorem cl_RX10_18 : Cond.classLink RX10 18 RX6 ∈ lwg := w_160
theorem nw_RX10_18 : NW RX10 18 6 14 := ⟨RX6, TX6, co6, cl_RX10_18, w_161, w_53, by decide +kernel⟩
theorem cl_RX10_27 : Cond.classLink RX10 27 RX9 ∈ lwg := w_215
theorem nw_RX10_27 : NW RX10 27 9 2 := ⟨RX9, TX9, co9, cl_RX10_27, w_216, w_54, by decide +kernel⟩
theorem cl_RX10_37 : Cond.classLink RX10 37 RX2 ∈ lwg := w_231
theorem nw_RX10_37 : NW RX10 37 2 2 := ⟨RX2, TX2, co2, cl_RX10_37, w_235, w_55, by decide +kernel⟩
theorem cl_RX10_43 : Cond.classLink RX10 43 RX3 ∈ lwg := w_233
theorem nw_RX10_43 : NW RX10 43 3 4 := ⟨RX3, TX3, co3, cl_RX10_43, w_105, w_52, by decide +kernel⟩
theorem cl_RX10_91 : Cond.classLink RX10 91 RX5 ∈ lwg := w_992
theorem nw_RX10_91 : NW RX10 91 5 4 := ⟨RX5, TX5, co5, cl_RX10_91, w_993, w_70, by decide +kernel⟩
theorem cl_RX10_112 : Cond.classLink RX10 112 RX1 ∈ lwg := w_836
theorem nw_RX10_112 : NW RX10 112 1 7 := ⟨RX1, TX1, co1, cl_RX10_112, w_837, w_66, by decide +kernel⟩
theorem cl_RX1_15 : Cond.classLink RX1 15 RX0 ∈ lwg := w_842
theorem nw_RX1_15 : NW RX1 15 0 1 := ⟨RX0, TX0, co0, cl_RX1_15, w_928, w_67, by decide +kernel⟩
theorem cl_RX5_19 : Cond.classLink RX5 19 RX4 ∈ lwg := w_998
theorem nw_RX5_19 : NW RX5 19 4 2 := ⟨RX4, TX4, co4, cl_RX5_19, w_999, w_71, by decide +kernel⟩
theorem cl_RX7_9 : Cond.classLink RX7 9 RX8 ∈ lwg := w_86
theorem nw_RX7_9 : NW RX7 9 8 2 := ⟨RX8, TX8, co8, cl_RX7_9, w_87, w_51, by decide +kernel⟩
theorem cl_RX7_18 : Cond.classLink RX7 18 RX0 ∈ lwg := w_102
theorem nw_RX7_18 : NW RX7 18 0 1 := ⟨RX0, TX0, co0, cl_RX7_18, w_928, w_67, by decide +kernel⟩
theorem cl_RX7_24 : Cond.classLink RX7 24 RX3 ∈ lwg := w_104
theorem nw_RX7_24 : NW RX7 24 3 4 := ⟨RX3, TX3, co3, cl_RX7_24, w_105, w_52, by decide +kernel⟩
theorem cl_RL_15 : Cond.classLink RL 15 "[I" ∈ lwg := w_527
theorem cl_RL_22 : Cond.classLink RL 22 RX10 ∈ lwg := w_72
theorem nw_RL_22 : NW RL 22 10 7 := ⟨RX10, TX10, co10, cl_RL_22, w_73, w_49, by decide +kernel⟩
theorem cl_RL_28 : Cond.classLink RL 28 RJ0 ∈ lwg := w_736
theorem nw_RL_28 : NW RL 28 11 4 := ⟨RJ0, TJ0, co11, cl_RL_28, w_751, w_58, by decide +kernel⟩
theorem cl_RL_78 : Cond.classLink RL 78 RJ4 ∈ lwg := w_566
theorem nw_RL_78 : NW RL 78 12 4 := ⟨RJ4, TJ4, co12, cl_RL_78, w_567, w_57, by decide +kernel⟩
theorem cl_RJ4_18 : Cond.classLink RJ4 18 RJ0 ∈ lwg := w_750
theorem nw_RJ4_18 : NW RJ4 18 11 4 := ⟨RJ0, TJ0, co11, cl_RJ4_18, w_751, w_58, by decide +kernel⟩
theorem cl_RJ7_311 : Cond.classLink RJ7 311 "[B" ∈ lwg := w_633
theorem cl_RJ7_317 : Cond.classLink RJ7 317 "[I" ∈ lwg := w_322
