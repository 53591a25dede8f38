def TW : List Cond := lw_tbl.filter goodWord
theorem tw_all : ∀ w ∈ TW, w ∈ lw_tbl := fun w h => (List.mem_filter.mp h).1
theorem tw_good : GoodIn TW TW := fun w h => ⟨h, good_of_word (List.mem_filter.mp h).2⟩
theorem tw_lw {w : Cond} (h : w ∈ tables_1) (g : goodWord w = true) : w ∈ TW := List.mem_filter.mpr ⟨List.mem_append_right _ h, g⟩
theorem tl_1 {w : Cond} (j : Nat) (h0 : tables_1_1[j]? = some w) : w ∈ lw_tbl := by
  have h := List.mem_of_getElem? h0
  exact List.mem_append_right _ (List.mem_append_left _ h)
theorem tw_1 {w : Cond} (j : Nat) (h0 : tables_1_1[j]? = some w) (g : goodWord w = true) : w ∈ TW := by
  have h := List.mem_of_getElem? h0
  exact tw_lw (List.mem_append_left _ h) g
theorem tl_2 {w : Cond} (j : Nat) (h0 : tables_1_2[j]? = some w) : w ∈ lw_tbl := by
  have h := List.mem_of_getElem? h0
  exact List.mem_append_right _ (List.mem_append_right _ (List.mem_append_left _ h))
theorem tw_2 {w : Cond} (j : Nat) (h0 : tables_1_2[j]? = some w) (g : goodWord w = true) : w ∈ TW := by
  have h := List.mem_of_getElem? h0
  exact tw_lw (List.mem_append_right _ (List.mem_append_left _ h)) g
theorem tl_3 {w : Cond} (j : Nat) (h0 : tables_1_3[j]? = some w) : w ∈ lw_tbl := by
  have h := List.mem_of_getElem? h0
  exact List.mem_append_right _ (List.mem_append_right _ (List.mem_append_right _ (List.mem_append_left _ h)))
theorem tw_3 {w : Cond} (j : Nat) (h0 : tables_1_3[j]? = some w) (g : goodWord w = true) : w ∈ TW := by
  have h := List.mem_of_getElem? h0
  exact tw_lw (List.mem_append_right _ (List.mem_append_right _ (List.mem_append_left _ h))) g
theorem tl_4 {w : Cond} (j : Nat) (h0 : tables_1_4[j]? = some w) : w ∈ lw_tbl := by
  have h := List.mem_of_getElem? h0
  exact List.mem_append_right _ (List.mem_append_right _ (List.mem_append_right _ (List.mem_append_right _ (List.mem_append_left _ h))))
theorem tw_4 {w : Cond} (j : Nat) (h0 : tables_1_4[j]? = some w) (g : goodWord w = true) : w ∈ TW := by
  have h := List.mem_of_getElem? h0
  exact tw_lw (List.mem_append_right _ (List.mem_append_right _ (List.mem_append_right _ (List.mem_append_left _ h)))) g
theorem tl_5 {w : Cond} (j : Nat) (h0 : tables_1_5[j]? = some w) : w ∈ lw_tbl := by
  have h := List.mem_of_getElem? h0
  exact List.mem_append_right _ (List.mem_append_right _ (List.mem_append_right _ (List.mem_append_right _ (List.mem_append_right _ (List.mem_append_left _ h)))))
theorem tw_5 {w : Cond} (j : Nat) (h0 : tables_1_5[j]? = some w) (g : goodWord w = true) : w ∈ TW := by
  have h := List.mem_of_getElem? h0
  exact tw_lw (List.mem_append_right _ (List.mem_append_right _ (List.mem_append_right _ (List.mem_append_right _ (List.mem_append_left _ h))))) g
theorem tl_6 {w : Cond} (j : Nat) (h0 : tables_1_6[j]? = some w) : w ∈ lw_tbl := by
  have h := List.mem_of_getElem? h0
  exact List.mem_append_right _ (List.mem_append_right _ (List.mem_append_right _ (List.mem_append_right _ (List.mem_append_right _ (List.mem_append_right _ (List.mem_append_left _ h))))))
theorem tw_6 {w : Cond} (j : Nat) (h0 : tables_1_6[j]? = some w) (g : goodWord w = true) : w ∈ TW := by
  have h := List.mem_of_getElem? h0
  exact tw_lw (List.mem_append_right _ (List.mem_append_right _ (List.mem_append_right _ (List.mem_append_right _ (List.mem_append_right _ (List.mem_append_left _ h)))))) g
theorem tl_7 {w : Cond} (j : Nat) (h0 : tables_1_7[j]? = some w) : w ∈ lw_tbl := by
  have h := List.mem_of_getElem? h0
  exact List.mem_append_right _ (List.mem_append_right _ (List.mem_append_right _ (List.mem_append_right _ (List.mem_append_right _ (List.mem_append_right _ (List.mem_append_right _ (List.mem_append_left _ h)))))))
theorem tw_7 {w : Cond} (j : Nat) (h0 : tables_1_7[j]? = some w) (g : goodWord w = true) : w ∈ TW := by
  have h := List.mem_of_getElem? h0
  exact tw_lw (List.mem_append_right _ (List.mem_append_right _ (List.mem_append_right _ (List.mem_append_right _ (List.mem_append_right _ (List.mem_append_right _ (List.mem_append_left _ h))))))) g
theorem tl_8 {w : Cond} (j : Nat) (h0 : tables_1_8[j]? = some w) : w ∈ lw_tbl := by
  have h := List.mem_of_getElem? h0
  exact List.mem_append_right _ (List.mem_append_right _ (List.mem_append_right _ (List.mem_append_right _ (List.mem_append_right _ (List.mem_append_right _ (List.mem_append_right _ (List.mem_append_right _ (h))))))))
theorem tw_8 {w : Cond} (j : Nat) (h0 : tables_1_8[j]? = some w) (g : goodWord w = true) : w ∈ TW := by
  have h := List.mem_of_getElem? h0
  exact tw_lw (List.mem_append_right _ (List.mem_append_right _ (List.mem_append_right _ (List.mem_append_right _ (List.mem_append_right _ (List.mem_append_right _ (List.mem_append_right _ (h)))))))) g
theorem kn_L : (Cond.initialized RL) ∈ TW := tw_1 0 rfl rfl
theorem kn_X11 : (Cond.initialized RX11) ∈ TW := tw_1 1 rfl rfl
theorem kn_X10 : (Cond.initialized RX10) ∈ TW := tw_1 2 rfl rfl
theorem kn_X5 : (Cond.initialized RX5) ∈ TW := tw_1 3 rfl rfl
theorem kn_X6 : (Cond.initialized RX6) ∈ TW := tw_1 4 rfl rfl
theorem kn_X1 : (Cond.initialized RX1) ∈ TW := tw_1 5 rfl rfl
theorem kn_X2 : (Cond.initialized RX2) ∈ TW := tw_1 6 rfl rfl
theorem kn_X0 : (Cond.initialized RX0) ∈ TW := tw_1 7 rfl rfl
theorem kn_X8 : (Cond.initialized RX8) ∈ TW := tw_1 8 rfl rfl
theorem kn_X3 : (Cond.initialized RX3) ∈ TW := tw_1 9 rfl rfl
theorem kn_X4 : (Cond.initialized RX4) ∈ TW := tw_1 10 rfl rfl
theorem kn_X7 : (Cond.initialized RX7) ∈ TW := tw_1 11 rfl rfl
theorem kn_X9 : (Cond.initialized RX9) ∈ TW := tw_1 12 rfl rfl
theorem kn_X12 : (Cond.initialized RX12) ∈ TW := tw_1 13 rfl rfl
theorem kn_J0 : (Cond.initialized RJ0) ∈ TW := tw_1 14 rfl rfl
theorem kn_J1 : (Cond.initialized RJ1) ∈ TW := tw_1 15 rfl rfl
theorem kn_J3 : (Cond.initialized RJ3) ∈ TW := tw_1 16 rfl rfl
theorem kn_J2 : (Cond.initialized RJ2) ∈ TW := tw_1 17 rfl rfl
theorem kn_J10 : (Cond.initialized RJ10) ∈ TW := tw_1 18 rfl rfl
theorem kn_J9 : (Cond.initialized RJ9) ∈ TW := tw_1 19 rfl rfl
theorem kl_L_7 : ((Jvm.Cond.classLink "RoundRowsLaw" (7 : Nat) "RoundRows")) ∈ TW := tw_1 20 rfl rfl
theorem kz_X11 : ((Jvm.Cond.instantiable "RoundRows" (14 : Nat))) ∈ TW := tw_1 21 rfl rfl
theorem km_L_9 : (Cond.methodLink RL 9 yX11_init) ∈ TW := tw_1 22 rfl rfl
theorem ki_X11_init : (Cond.instanceMethod yX11_init) ∈ TW := tw_1 23 rfl rfl
theorem kc_X11_init : (Cond.code yX11_init cX11_init (2 : Nat) (Option.none : Option Jvm.ClassFile.FieldType)) ∈ TW := tw_1 24 rfl rfl
theorem km_X11_3 : (Cond.methodLink RX11 3 ({ cls := "java/lang/Object", name := "<init>", desc := "()V" } : Jvm.MethodName)) ∈ TW := tw_1 25 rfl rfl
theorem ki_o1_26 : ((Jvm.Cond.instanceMethod ({ cls := "java/lang/Object", name := "<init>", desc := "()V" } : Jvm.MethodName))) ∈ TW := tw_1 26 rfl rfl
theorem kc_o1_27 : ((Jvm.Cond.code ({ cls := "java/lang/Object", name := "<init>", desc := "()V" } : Jvm.MethodName) object_method_1_code (1 : Nat) (Option.none : Option Jvm.ClassFile.FieldType))) ∈ TW := tw_1 27 rfl rfl
theorem kl_X11_9 : ((Jvm.Cond.classLink "RoundRows" (9 : Nat) "RoundRows$Tape")) ∈ TW := tw_1 28 rfl rfl
theorem kz_X10 : ((Jvm.Cond.instantiable "RoundRows$Tape" (6 : Nat))) ∈ TW := tw_1 29 rfl rfl
theorem kx_X11_11 : (Cond.methodLinkNest RX11 11 yX10_init "RoundRows") ∈ lw_tbl := tl_1 30 rfl
theorem ki_X10_init : (Cond.instanceMethod yX10_init) ∈ TW := tw_1 31 rfl rfl
theorem kc_X10_init : (Cond.code yX10_init cX10_init (1 : Nat) (Option.none : Option Jvm.ClassFile.FieldType)) ∈ TW := tw_1 32 rfl rfl
theorem km_X10_3 : (Cond.methodLink RX10 3 ({ cls := "java/lang/Object", name := "<init>", desc := "()V" } : Jvm.MethodName)) ∈ TW := tw_1 33 rfl rfl
theorem kf_X10_9 : (Cond.fieldLink RX10 9 "RoundRows$Tape" "signs" "[C") ∈ TW := tw_1 34 rfl rfl
theorem kf_X11_62 : (Cond.fieldLink RX11 62 "RoundRows$Tape" "length" "I") ∈ TW := tw_1 35 rfl rfl
theorem kf_X10_25 : (Cond.fieldLink RX10 25 "RoundRows$Tape" "length" "I") ∈ TW := tw_1 36 rfl rfl
theorem kf_X10_15 : (Cond.fieldLink RX10 15 "RoundRows$Tape" "kinds" "[I") ∈ TW := tw_1 37 rfl rfl
theorem kf_X10_19 : (Cond.fieldLink RX10 19 "RoundRows$Tape" "starts" "[I") ∈ TW := tw_1 38 rfl rfl
theorem kf_X10_22 : (Cond.fieldLink RX10 22 "RoundRows$Tape" "stops" "[I") ∈ TW := tw_1 39 rfl rfl
theorem kf_X10_29 : (Cond.fieldLink RX10 29 "RoundRows$Tape" "tokens" "I") ∈ TW := tw_1 40 rfl rfl
theorem ky_X10_signs : ((Jvm.Cond.laysFinal "RoundRows$Tape" "RoundRows$Tape" "signs" "[C")) ∈ TW := tw_1 41 rfl rfl
theorem ky_X10_length : ((Jvm.Cond.lays "RoundRows$Tape" "RoundRows$Tape" "length" "I")) ∈ TW := tw_1 43 rfl rfl
theorem ky_X10_kinds : ((Jvm.Cond.laysFinal "RoundRows$Tape" "RoundRows$Tape" "kinds" "[I")) ∈ TW := tw_1 45 rfl rfl
theorem ky_X10_starts : ((Jvm.Cond.laysFinal "RoundRows$Tape" "RoundRows$Tape" "starts" "[I")) ∈ TW := tw_1 47 rfl rfl
theorem ky_X10_stops : ((Jvm.Cond.laysFinal "RoundRows$Tape" "RoundRows$Tape" "stops" "[I")) ∈ TW := tw_1 49 rfl rfl
theorem ky_X10_tokens : ((Jvm.Cond.lays "RoundRows$Tape" "RoundRows$Tape" "tokens" "I")) ∈ TW := tw_1 51 rfl rfl
theorem ka_arrayClass_1_54 : ((Jvm.Cond.arrayClass Jvm.ClassFile.FieldType.char)) ∈ TW := tw_1 54 rfl rfl
theorem ka_arrayClass_1_55 : ((Jvm.Cond.arrayClass Jvm.ClassFile.FieldType.int)) ∈ TW := tw_1 55 rfl rfl
theorem kl_X11_16 : ((Jvm.Cond.classLink "RoundRows" (16 : Nat) "RoundRows$Parser")) ∈ TW := tw_1 56 rfl rfl
theorem kz_X5 : ((Jvm.Cond.instantiable "RoundRows$Parser" (10 : Nat))) ∈ TW := tw_1 57 rfl rfl
theorem kx_X11_18 : (Cond.methodLinkNest RX11 18 yX5_init "RoundRows") ∈ lw_tbl := tl_1 58 rfl
theorem ki_X5_init : (Cond.instanceMethod yX5_init) ∈ TW := tw_1 59 rfl rfl
theorem kc_X5_init : (Cond.code yX5_init cX5_init (1 : Nat) (Option.none : Option Jvm.ClassFile.FieldType)) ∈ TW := tw_1 60 rfl rfl
theorem km_X5_3 : (Cond.methodLink RX5 3 ({ cls := "java/lang/Object", name := "<init>", desc := "()V" } : Jvm.MethodName)) ∈ TW := tw_1 61 rfl rfl
theorem kf_X5_21 : (Cond.fieldLink RX5 21 "RoundRows$Parser" "tape" "LRoundRows$Tape;") ∈ TW := tw_1 62 rfl rfl
theorem kf_X5_25 : (Cond.fieldLink RX5 25 "RoundRows$Parser" "plan" "LRoundRows$Plan;") ∈ TW := tw_1 63 rfl rfl
theorem kf_X5_34 : (Cond.fieldLink RX5 34 "RoundRows$Parser" "token" "I") ∈ TW := tw_1 64 rfl rfl
theorem kf_X5_41 : (Cond.fieldLink RX5 41 "RoundRows$Parser" "fault" "I") ∈ TW := tw_1 65 rfl rfl
theorem kf_X11_76 : (Cond.fieldLink RX11 76 "RoundRows$Parser" "fault" "I") ∈ TW := tw_1 66 rfl rfl
theorem kf_X5_44 : (Cond.fieldLink RX5 44 "RoundRows$Parser" "place" "I") ∈ TW := tw_1 67 rfl rfl
theorem kf_X11_80 : (Cond.fieldLink RX11 80 "RoundRows$Parser" "place" "I") ∈ TW := tw_1 68 rfl rfl
theorem kf_X5_11 : (Cond.fieldLink RX5 11 "RoundRows$Parser" "nameTokens" "[I") ∈ TW := tw_1 69 rfl rfl
theorem kf_X5_15 : (Cond.fieldLink RX5 15 "RoundRows$Parser" "nameBearers" "[I") ∈ TW := tw_1 70 rfl rfl
theorem kf_X5_38 : (Cond.fieldLink RX5 38 "RoundRows$Parser" "names" "I") ∈ TW := tw_1 71 rfl rfl
theorem kf_X5_18 : (Cond.fieldLink RX5 18 "RoundRows$Parser" "waiting" "[I") ∈ TW := tw_1 72 rfl rfl
theorem kf_X5_204 : (Cond.fieldLink RX5 204 "RoundRows$Parser" "waits" "I") ∈ TW := tw_1 73 rfl rfl
theorem ky_X5_tape : ((Jvm.Cond.lays "RoundRows$Parser" "RoundRows$Parser" "tape" "LRoundRows$Tape;")) ∈ TW := tw_1 74 rfl rfl
theorem ky_X5_plan : ((Jvm.Cond.lays "RoundRows$Parser" "RoundRows$Parser" "plan" "LRoundRows$Plan;")) ∈ TW := tw_1 76 rfl rfl
theorem ky_X5_token : ((Jvm.Cond.lays "RoundRows$Parser" "RoundRows$Parser" "token" "I")) ∈ TW := tw_1 78 rfl rfl
theorem ky_X5_fault : ((Jvm.Cond.lays "RoundRows$Parser" "RoundRows$Parser" "fault" "I")) ∈ TW := tw_1 80 rfl rfl
theorem ky_X5_place : ((Jvm.Cond.lays "RoundRows$Parser" "RoundRows$Parser" "place" "I")) ∈ TW := tw_1 82 rfl rfl
theorem ky_X5_nameTokens : ((Jvm.Cond.laysFinal "RoundRows$Parser" "RoundRows$Parser" "nameTokens" "[I")) ∈ TW := tw_1 84 rfl rfl
theorem ky_X5_nameBearers : ((Jvm.Cond.laysFinal "RoundRows$Parser" "RoundRows$Parser" "nameBearers" "[I")) ∈ TW := tw_1 86 rfl rfl
theorem ky_X5_names : ((Jvm.Cond.lays "RoundRows$Parser" "RoundRows$Parser" "names" "I")) ∈ TW := tw_1 88 rfl rfl
theorem ky_X5_waiting : ((Jvm.Cond.laysFinal "RoundRows$Parser" "RoundRows$Parser" "waiting" "[I")) ∈ TW := tw_1 90 rfl rfl
theorem ky_X5_waits : ((Jvm.Cond.lays "RoundRows$Parser" "RoundRows$Parser" "waits" "I")) ∈ TW := tw_1 92 rfl rfl
theorem kl_X11_23 : ((Jvm.Cond.classLink "RoundRows" (23 : Nat) "RoundRows$Plan")) ∈ TW := tw_1 95 rfl rfl
theorem kz_X6 : ((Jvm.Cond.instantiable "RoundRows$Plan" (6 : Nat))) ∈ TW := tw_1 96 rfl rfl
theorem km_X11_25 : (Cond.methodLink RX11 25 yX6_init) ∈ TW := tw_1 97 rfl rfl
theorem ki_X6_init : (Cond.instanceMethod yX6_init) ∈ TW := tw_1 98 rfl rfl
theorem kc_X6_init : (Cond.code yX6_init cX6_init (2 : Nat) (Option.none : Option Jvm.ClassFile.FieldType)) ∈ TW := tw_1 99 rfl rfl
theorem km_X6_3 : (Cond.methodLink RX6 3 ({ cls := "java/lang/Object", name := "<init>", desc := "()V" } : Jvm.MethodName)) ∈ TW := tw_1 100 rfl rfl
theorem kl_X6_15 : ((Jvm.Cond.classLink "RoundRows$Plan" (15 : Nat) "RoundRows$MeasurePlan")) ∈ TW := tw_1 101 rfl rfl
theorem ka_arrayOver_1_102 : ((Jvm.Cond.arrayOver (Jvm.ClassFile.FieldType.object "RoundRows$MeasurePlan"))) ∈ lw_tbl := tl_1 102 rfl
theorem kl_X6_21 : ((Jvm.Cond.classLink "RoundRows$Plan" (21 : Nat) "RoundRows$ArchivePlan")) ∈ TW := tw_1 103 rfl rfl
theorem ka_arrayOver_1_104 : ((Jvm.Cond.arrayOver (Jvm.ClassFile.FieldType.object "RoundRows$ArchivePlan"))) ∈ lw_tbl := tl_1 104 rfl
theorem kl_X6_27 : ((Jvm.Cond.classLink "RoundRows$Plan" (27 : Nat) "RoundRows$Formulas")) ∈ TW := tw_1 105 rfl rfl
theorem kz_X1 : ((Jvm.Cond.instantiable "RoundRows$Formulas" (9 : Nat))) ∈ TW := tw_1 106 rfl rfl
theorem kx_X6_29 : (Cond.methodLinkNest RX6 29 yX1_init "RoundRows") ∈ lw_tbl := tl_1 107 rfl
theorem ki_X1_init : (Cond.instanceMethod yX1_init) ∈ TW := tw_1 108 rfl rfl
theorem kc_X1_init : (Cond.code yX1_init cX1_init (1 : Nat) (Option.none : Option Jvm.ClassFile.FieldType)) ∈ TW := tw_1 109 rfl rfl
theorem km_X1_3 : (Cond.methodLink RX1 3 ({ cls := "java/lang/Object", name := "<init>", desc := "()V" } : Jvm.MethodName)) ∈ TW := tw_1 110 rfl rfl
theorem kf_X1_27 : (Cond.fieldLink RX1 27 "RoundRows$Formulas" "shows" "I") ∈ TW := tw_1 111 rfl rfl
theorem kf_X5_189 : (Cond.fieldLink RX5 189 "RoundRows$Formulas" "shows" "I") ∈ TW := tw_1 112 rfl rfl
theorem kf_X11_385 : (Cond.fieldLink RX11 385 "RoundRows$Formulas" "shows" "I") ∈ TW := tw_1 113 rfl rfl
theorem kf_X1_31 : (Cond.fieldLink RX1 31 "RoundRows$Formulas" "units" "I") ∈ TW := tw_1 114 rfl rfl
theorem kf_X5_220 : (Cond.fieldLink RX5 220 "RoundRows$Formulas" "units" "I") ∈ TW := tw_1 115 rfl rfl
theorem kf_X11_394 : (Cond.fieldLink RX11 394 "RoundRows$Formulas" "units" "I") ∈ TW := tw_1 116 rfl rfl
theorem kf_X1_34 : (Cond.fieldLink RX1 34 "RoundRows$Formulas" "length" "I") ∈ TW := tw_1 117 rfl rfl
theorem kf_X1_9 : (Cond.fieldLink RX1 9 "RoundRows$Formulas" "codes" "[I") ∈ TW := tw_1 118 rfl rfl
theorem kf_X1_15 : (Cond.fieldLink RX1 15 "RoundRows$Formulas" "parts" "[I") ∈ TW := tw_1 119 rfl rfl
theorem kf_X1_18 : (Cond.fieldLink RX1 18 "RoundRows$Formulas" "ends" "[I") ∈ TW := tw_1 120 rfl rfl
theorem kf_X1_21 : (Cond.fieldLink RX1 21 "RoundRows$Formulas" "results" "[I") ∈ TW := tw_1 121 rfl rfl
theorem kf_X1_24 : (Cond.fieldLink RX1 24 "RoundRows$Formulas" "stack" "[I") ∈ TW := tw_1 122 rfl rfl
theorem kf_X1_38 : (Cond.fieldLink RX1 38 "RoundRows$Formulas" "top" "I") ∈ TW := tw_1 123 rfl rfl
theorem ky_X1_shows : ((Jvm.Cond.lays "RoundRows$Formulas" "RoundRows$Formulas" "shows" "I")) ∈ TW := tw_1 124 rfl rfl
theorem ky_X1_units : ((Jvm.Cond.lays "RoundRows$Formulas" "RoundRows$Formulas" "units" "I")) ∈ TW := tw_1 126 rfl rfl
theorem ky_X1_length : ((Jvm.Cond.lays "RoundRows$Formulas" "RoundRows$Formulas" "length" "I")) ∈ TW := tw_1 128 rfl rfl
theorem ky_X1_codes : ((Jvm.Cond.laysFinal "RoundRows$Formulas" "RoundRows$Formulas" "codes" "[I")) ∈ TW := tw_1 130 rfl rfl
theorem ky_X1_parts : ((Jvm.Cond.laysFinal "RoundRows$Formulas" "RoundRows$Formulas" "parts" "[I")) ∈ TW := tw_1 132 rfl rfl
theorem ky_X1_ends : ((Jvm.Cond.laysFinal "RoundRows$Formulas" "RoundRows$Formulas" "ends" "[I")) ∈ TW := tw_1 134 rfl rfl
theorem ky_X1_results : ((Jvm.Cond.laysFinal "RoundRows$Formulas" "RoundRows$Formulas" "results" "[I")) ∈ TW := tw_1 136 rfl rfl
theorem ky_X1_stack : ((Jvm.Cond.laysFinal "RoundRows$Formulas" "RoundRows$Formulas" "stack" "[I")) ∈ TW := tw_1 138 rfl rfl
theorem ky_X1_top : ((Jvm.Cond.lays "RoundRows$Formulas" "RoundRows$Formulas" "top" "I")) ∈ TW := tw_1 140 rfl rfl
theorem kz_X2 : ((Jvm.Cond.instantiable "RoundRows$MeasurePlan" (11 : Nat))) ∈ TW := tw_1 143 rfl rfl
theorem kx_X6_34 : (Cond.methodLinkNest RX6 34 yX2_init "RoundRows") ∈ lw_tbl := tl_1 144 rfl
theorem ki_X2_init : (Cond.instanceMethod yX2_init) ∈ TW := tw_1 145 rfl rfl
theorem kc_X2_init : (Cond.code yX2_init cX2_init (1 : Nat) (Option.none : Option Jvm.ClassFile.FieldType)) ∈ TW := tw_1 146 rfl rfl
theorem km_X2_3 : (Cond.methodLink RX2 3 ({ cls := "java/lang/Object", name := "<init>", desc := "()V" } : Jvm.MethodName)) ∈ TW := tw_1 147 rfl rfl
theorem kf_X2_22 : (Cond.fieldLink RX2 22 "RoundRows$MeasurePlan" "sort" "I") ∈ TW := tw_1 148 rfl rfl
theorem kf_X3_56 : (Cond.fieldLink RX3 56 "RoundRows$MeasurePlan" "sort" "I") ∈ TW := tw_1 149 rfl rfl
theorem kf_X5_123 : (Cond.fieldLink RX5 123 "RoundRows$MeasurePlan" "sort" "I") ∈ TW := tw_1 150 rfl rfl
theorem kf_X11_163 : (Cond.fieldLink RX11 163 "RoundRows$MeasurePlan" "sort" "I") ∈ TW := tw_1 151 rfl rfl
theorem kf_X3_73 : (Cond.fieldLink RX3 73 "RoundRows$MeasurePlan" "widthOne" "I") ∈ TW := tw_1 152 rfl rfl
theorem kf_X5_125 : (Cond.fieldLink RX5 125 "RoundRows$MeasurePlan" "widthOne" "I") ∈ TW := tw_1 153 rfl rfl
theorem kf_X2_25 : (Cond.fieldLink RX2 25 "RoundRows$MeasurePlan" "widthTwo" "I") ∈ TW := tw_1 154 rfl rfl
theorem kf_X3_76 : (Cond.fieldLink RX3 76 "RoundRows$MeasurePlan" "widthTwo" "I") ∈ TW := tw_1 155 rfl rfl
theorem kf_X5_128 : (Cond.fieldLink RX5 128 "RoundRows$MeasurePlan" "widthTwo" "I") ∈ TW := tw_1 156 rfl rfl
theorem kf_X3_30 : (Cond.fieldLink RX3 30 "RoundRows$MeasurePlan" "silence" "I") ∈ TW := tw_1 157 rfl rfl
theorem kf_X5_131 : (Cond.fieldLink RX5 131 "RoundRows$MeasurePlan" "silence" "I") ∈ TW := tw_1 158 rfl rfl
theorem kf_X2_9 : (Cond.fieldLink RX2 9 "RoundRows$MeasurePlan" "least" "I") ∈ TW := tw_1 159 rfl rfl
theorem kf_X3_36 : (Cond.fieldLink RX3 36 "RoundRows$MeasurePlan" "least" "I") ∈ TW := tw_1 160 rfl rfl
theorem kf_X5_134 : (Cond.fieldLink RX5 134 "RoundRows$MeasurePlan" "least" "I") ∈ TW := tw_1 161 rfl rfl
theorem kf_X2_16 : (Cond.fieldLink RX2 16 "RoundRows$MeasurePlan" "most" "I") ∈ TW := tw_1 162 rfl rfl
theorem kf_X3_40 : (Cond.fieldLink RX3 40 "RoundRows$MeasurePlan" "most" "I") ∈ TW := tw_1 163 rfl rfl
theorem kf_X5_137 : (Cond.fieldLink RX5 137 "RoundRows$MeasurePlan" "most" "I") ∈ TW := tw_1 164 rfl rfl
theorem kf_X2_19 : (Cond.fieldLink RX2 19 "RoundRows$MeasurePlan" "season" "I") ∈ TW := tw_1 165 rfl rfl
theorem kf_X8_115 : (Cond.fieldLink RX8 115 "RoundRows$MeasurePlan" "season" "I") ∈ TW := tw_1 166 rfl rfl
theorem kf_X5_167 : (Cond.fieldLink RX5 167 "RoundRows$MeasurePlan" "season" "I") ∈ TW := tw_1 167 rfl rfl
theorem kf_X11_342 : (Cond.fieldLink RX11 342 "RoundRows$MeasurePlan" "season" "I") ∈ TW := tw_1 168 rfl rfl
theorem kf_X4_69 : (Cond.fieldLink RX4 69 "RoundRows$MeasurePlan" "levelWeight" "I") ∈ TW := tw_1 169 rfl rfl
theorem kf_X5_173 : (Cond.fieldLink RX5 173 "RoundRows$MeasurePlan" "levelWeight" "I") ∈ TW := tw_1 170 rfl rfl
theorem kf_X4_76 : (Cond.fieldLink RX4 76 "RoundRows$MeasurePlan" "trendWeight" "I") ∈ TW := tw_1 171 rfl rfl
theorem kf_X5_176 : (Cond.fieldLink RX5 176 "RoundRows$MeasurePlan" "trendWeight" "I") ∈ TW := tw_1 172 rfl rfl
theorem kf_X4_79 : (Cond.fieldLink RX4 79 "RoundRows$MeasurePlan" "swingWeight" "I") ∈ TW := tw_1 173 rfl rfl
theorem kf_X5_179 : (Cond.fieldLink RX5 179 "RoundRows$MeasurePlan" "swingWeight" "I") ∈ TW := tw_1 174 rfl rfl
theorem kf_X4_64 : (Cond.fieldLink RX4 64 "RoundRows$MeasurePlan" "band" "I") ∈ TW := tw_1 175 rfl rfl
theorem kf_X5_182 : (Cond.fieldLink RX5 182 "RoundRows$MeasurePlan" "band" "I") ∈ TW := tw_1 176 rfl rfl
theorem kf_X11_345 : (Cond.fieldLink RX11 345 "RoundRows$MeasurePlan" "band" "I") ∈ TW := tw_1 177 rfl rfl
theorem ky_X2_sort : ((Jvm.Cond.lays "RoundRows$MeasurePlan" "RoundRows$MeasurePlan" "sort" "I")) ∈ TW := tw_1 178 rfl rfl
theorem ky_X2_widthOne : ((Jvm.Cond.lays "RoundRows$MeasurePlan" "RoundRows$MeasurePlan" "widthOne" "I")) ∈ TW := tw_1 180 rfl rfl
theorem ky_X2_widthTwo : ((Jvm.Cond.lays "RoundRows$MeasurePlan" "RoundRows$MeasurePlan" "widthTwo" "I")) ∈ TW := tw_1 182 rfl rfl
theorem ky_X2_silence : ((Jvm.Cond.lays "RoundRows$MeasurePlan" "RoundRows$MeasurePlan" "silence" "I")) ∈ TW := tw_1 184 rfl rfl
theorem ky_X2_least : ((Jvm.Cond.lays "RoundRows$MeasurePlan" "RoundRows$MeasurePlan" "least" "I")) ∈ TW := tw_1 186 rfl rfl
theorem ky_X2_most : ((Jvm.Cond.lays "RoundRows$MeasurePlan" "RoundRows$MeasurePlan" "most" "I")) ∈ TW := tw_1 188 rfl rfl
theorem ky_X2_season : ((Jvm.Cond.lays "RoundRows$MeasurePlan" "RoundRows$MeasurePlan" "season" "I")) ∈ TW := tw_1 190 rfl rfl
theorem ky_X2_levelWeight : ((Jvm.Cond.lays "RoundRows$MeasurePlan" "RoundRows$MeasurePlan" "levelWeight" "I")) ∈ TW := tw_1 192 rfl rfl
theorem ky_X2_trendWeight : ((Jvm.Cond.lays "RoundRows$MeasurePlan" "RoundRows$MeasurePlan" "trendWeight" "I")) ∈ TW := tw_1 194 rfl rfl
theorem ky_X2_swingWeight : ((Jvm.Cond.lays "RoundRows$MeasurePlan" "RoundRows$MeasurePlan" "swingWeight" "I")) ∈ TW := tw_1 196 rfl rfl
theorem ky_X2_band : ((Jvm.Cond.lays "RoundRows$MeasurePlan" "RoundRows$MeasurePlan" "band" "I")) ∈ TW := tw_1 198 rfl rfl
theorem kz_X0 : ((Jvm.Cond.instantiable "RoundRows$ArchivePlan" (4 : Nat))) ∈ TW := tw_1 201 rfl rfl
theorem kx_X6_35 : (Cond.methodLinkNest RX6 35 yX0_init "RoundRows") ∈ lw_tbl := tl_1 202 rfl
theorem ki_X0_init : (Cond.instanceMethod yX0_init) ∈ TW := tw_1 203 rfl rfl
theorem kc_X0_init : (Cond.code yX0_init cX0_init (1 : Nat) (Option.none : Option Jvm.ClassFile.FieldType)) ∈ TW := tw_1 204 rfl rfl
theorem km_X0_1 : (Cond.methodLink RX0 1 ({ cls := "java/lang/Object", name := "<init>", desc := "()V" } : Jvm.MethodName)) ∈ TW := tw_1 205 rfl rfl
theorem kf_X7_48 : (Cond.fieldLink RX7 48 "RoundRows$ArchivePlan" "how" "I") ∈ TW := tw_1 206 rfl rfl
theorem kf_X5_150 : (Cond.fieldLink RX5 150 "RoundRows$ArchivePlan" "how" "I") ∈ TW := tw_1 207 rfl rfl
theorem kf_X11_225 : (Cond.fieldLink RX11 225 "RoundRows$ArchivePlan" "how" "I") ∈ TW := tw_1 208 rfl rfl
theorem kf_X0_7 : (Cond.fieldLink RX0 7 "RoundRows$ArchivePlan" "per" "I") ∈ TW := tw_1 209 rfl rfl
theorem kf_X7_36 : (Cond.fieldLink RX7 36 "RoundRows$ArchivePlan" "per" "I") ∈ TW := tw_1 210 rfl rfl
theorem kf_X8_127 : (Cond.fieldLink RX8 127 "RoundRows$ArchivePlan" "per" "I") ∈ TW := tw_1 211 rfl rfl
theorem kf_X5_155 : (Cond.fieldLink RX5 155 "RoundRows$ArchivePlan" "per" "I") ∈ TW := tw_1 212 rfl rfl
theorem kf_X11_230 : (Cond.fieldLink RX11 230 "RoundRows$ArchivePlan" "per" "I") ∈ TW := tw_1 213 rfl rfl
theorem kf_X0_13 : (Cond.fieldLink RX0 13 "RoundRows$ArchivePlan" "rows" "I") ∈ TW := tw_1 214 rfl rfl
theorem kf_X5_158 : (Cond.fieldLink RX5 158 "RoundRows$ArchivePlan" "rows" "I") ∈ TW := tw_1 215 rfl rfl
theorem kf_X11_233 : (Cond.fieldLink RX11 233 "RoundRows$ArchivePlan" "rows" "I") ∈ TW := tw_1 216 rfl rfl
theorem kf_X7_45 : (Cond.fieldLink RX7 45 "RoundRows$ArchivePlan" "share" "I") ∈ TW := tw_1 217 rfl rfl
theorem kf_X5_161 : (Cond.fieldLink RX5 161 "RoundRows$ArchivePlan" "share" "I") ∈ TW := tw_1 218 rfl rfl
theorem kf_X11_236 : (Cond.fieldLink RX11 236 "RoundRows$ArchivePlan" "share" "I") ∈ TW := tw_1 219 rfl rfl
theorem ky_X0_how : ((Jvm.Cond.lays "RoundRows$ArchivePlan" "RoundRows$ArchivePlan" "how" "I")) ∈ TW := tw_1 220 rfl rfl
theorem ky_X0_per : ((Jvm.Cond.lays "RoundRows$ArchivePlan" "RoundRows$ArchivePlan" "per" "I")) ∈ TW := tw_1 222 rfl rfl
theorem ky_X0_rows : ((Jvm.Cond.lays "RoundRows$ArchivePlan" "RoundRows$ArchivePlan" "rows" "I")) ∈ TW := tw_1 224 rfl rfl
theorem ky_X0_share : ((Jvm.Cond.lays "RoundRows$ArchivePlan" "RoundRows$ArchivePlan" "share" "I")) ∈ TW := tw_1 226 rfl rfl
theorem kf_X6_9 : (Cond.fieldLink RX6 9 "RoundRows$Plan" "step" "I") ∈ TW := tw_1 229 rfl rfl
theorem kf_X8_71 : (Cond.fieldLink RX8 71 "RoundRows$Plan" "step" "I") ∈ TW := tw_1 230 rfl rfl
theorem kf_X5_87 : (Cond.fieldLink RX5 87 "RoundRows$Plan" "step" "I") ∈ TW := tw_1 231 rfl rfl
theorem kf_X11_197 : (Cond.fieldLink RX11 197 "RoundRows$Plan" "step" "I") ∈ TW := tw_1 232 rfl rfl
theorem kf_X6_36 : (Cond.fieldLink RX6 36 "RoundRows$Plan" "measureCount" "I") ∈ TW := tw_1 233 rfl rfl
theorem kf_X8_64 : (Cond.fieldLink RX8 64 "RoundRows$Plan" "measureCount" "I") ∈ TW := tw_1 234 rfl rfl
theorem kf_X11_94 : (Cond.fieldLink RX11 94 "RoundRows$Plan" "measureCount" "I") ∈ TW := tw_1 235 rfl rfl
theorem kf_X5_93 : (Cond.fieldLink RX5 93 "RoundRows$Plan" "measureCount" "I") ∈ TW := tw_1 236 rfl rfl
theorem kf_X6_39 : (Cond.fieldLink RX6 39 "RoundRows$Plan" "archiveCount" "I") ∈ TW := tw_1 237 rfl rfl
theorem kf_X8_99 : (Cond.fieldLink RX8 99 "RoundRows$Plan" "archiveCount" "I") ∈ TW := tw_1 238 rfl rfl
theorem kf_X5_140 : (Cond.fieldLink RX5 140 "RoundRows$Plan" "archiveCount" "I") ∈ TW := tw_1 239 rfl rfl
theorem kf_X11_295 : (Cond.fieldLink RX11 295 "RoundRows$Plan" "archiveCount" "I") ∈ TW := tw_2 0 rfl rfl
theorem kf_X6_17 : (Cond.fieldLink RX6 17 "RoundRows$Plan" "measures" "[LRoundRows$MeasurePlan;") ∈ TW := tw_2 1 rfl rfl
theorem kf_X8_39 : (Cond.fieldLink RX8 39 "RoundRows$Plan" "measures" "[LRoundRows$MeasurePlan;") ∈ TW := tw_2 2 rfl rfl
theorem kf_X5_96 : (Cond.fieldLink RX5 96 "RoundRows$Plan" "measures" "[LRoundRows$MeasurePlan;") ∈ TW := tw_2 3 rfl rfl
theorem kf_X11_159 : (Cond.fieldLink RX11 159 "RoundRows$Plan" "measures" "[LRoundRows$MeasurePlan;") ∈ TW := tw_2 4 rfl rfl
theorem kf_X6_23 : (Cond.fieldLink RX6 23 "RoundRows$Plan" "archives" "[LRoundRows$ArchivePlan;") ∈ TW := tw_2 5 rfl rfl
theorem kf_X8_123 : (Cond.fieldLink RX8 123 "RoundRows$Plan" "archives" "[LRoundRows$ArchivePlan;") ∈ TW := tw_2 6 rfl rfl
theorem kf_X5_143 : (Cond.fieldLink RX5 143 "RoundRows$Plan" "archives" "[LRoundRows$ArchivePlan;") ∈ TW := tw_2 7 rfl rfl
theorem kf_X11_221 : (Cond.fieldLink RX11 221 "RoundRows$Plan" "archives" "[LRoundRows$ArchivePlan;") ∈ TW := tw_2 8 rfl rfl
theorem kf_X6_30 : (Cond.fieldLink RX6 30 "RoundRows$Plan" "formulas" "LRoundRows$Formulas;") ∈ TW := tw_2 9 rfl rfl
theorem kf_X5_185 : (Cond.fieldLink RX5 185 "RoundRows$Plan" "formulas" "LRoundRows$Formulas;") ∈ TW := tw_2 10 rfl rfl
theorem kf_X11_375 : (Cond.fieldLink RX11 375 "RoundRows$Plan" "formulas" "LRoundRows$Formulas;") ∈ TW := tw_2 11 rfl rfl
theorem ky_X6_step : ((Jvm.Cond.lays "RoundRows$Plan" "RoundRows$Plan" "step" "I")) ∈ TW := tw_2 12 rfl rfl
theorem ky_X6_measureCount : ((Jvm.Cond.lays "RoundRows$Plan" "RoundRows$Plan" "measureCount" "I")) ∈ TW := tw_2 14 rfl rfl
theorem ky_X6_archiveCount : ((Jvm.Cond.lays "RoundRows$Plan" "RoundRows$Plan" "archiveCount" "I")) ∈ TW := tw_2 16 rfl rfl
theorem ky_X6_measures : ((Jvm.Cond.laysFinal "RoundRows$Plan" "RoundRows$Plan" "measures" "[LRoundRows$MeasurePlan;")) ∈ TW := tw_2 18 rfl rfl
theorem ky_X6_archives : ((Jvm.Cond.laysFinal "RoundRows$Plan" "RoundRows$Plan" "archives" "[LRoundRows$ArchivePlan;")) ∈ TW := tw_2 20 rfl rfl
theorem ky_X6_formulas : ((Jvm.Cond.laysFinal "RoundRows$Plan" "RoundRows$Plan" "formulas" "LRoundRows$Formulas;")) ∈ TW := tw_2 22 rfl rfl
theorem kl_X11_33 : ((Jvm.Cond.classLink "RoundRows" (33 : Nat) "RoundRows$State")) ∈ TW := tw_2 25 rfl rfl
theorem ka_arrayOver_2_26 : ((Jvm.Cond.arrayOver (Jvm.ClassFile.FieldType.object "RoundRows$State"))) ∈ lw_tbl := tl_2 26 rfl
theorem kz_X8 : ((Jvm.Cond.instantiable "RoundRows$State" (5 : Nat))) ∈ TW := tw_2 27 rfl rfl
theorem km_X11_39 : (Cond.methodLink RX11 39 yX8_init) ∈ TW := tw_2 28 rfl rfl
theorem ki_X8_init : (Cond.instanceMethod yX8_init) ∈ TW := tw_2 29 rfl rfl
theorem kc_X8_init : (Cond.code yX8_init cX8_init (2 : Nat) (Option.none : Option Jvm.ClassFile.FieldType)) ∈ TW := tw_2 30 rfl rfl
theorem km_X8_3 : (Cond.methodLink RX8 3 ({ cls := "java/lang/Object", name := "<init>", desc := "()V" } : Jvm.MethodName)) ∈ TW := tw_2 31 rfl rfl
theorem kl_X8_9 : ((Jvm.Cond.classLink "RoundRows$State" (9 : Nat) "RoundRows$Meter")) ∈ TW := tw_2 32 rfl rfl
theorem ka_arrayOver_2_33 : ((Jvm.Cond.arrayOver (Jvm.ClassFile.FieldType.object "RoundRows$Meter"))) ∈ lw_tbl := tl_2 33 rfl
theorem kl_X8_17 : ((Jvm.Cond.classLink "RoundRows$State" (17 : Nat) "RoundRows$Outlook")) ∈ TW := tw_2 34 rfl rfl
theorem ka_arrayOver_2_35 : ((Jvm.Cond.arrayOver (Jvm.ClassFile.FieldType.object "RoundRows$Outlook"))) ∈ lw_tbl := tl_2 35 rfl
theorem kl_X8_23 : ((Jvm.Cond.classLink "RoundRows$State" (23 : Nat) "RoundRows$Ring")) ∈ TW := tw_2 36 rfl rfl
theorem ka_arrayOver_2_37 : ((Jvm.Cond.arrayOver (Jvm.ClassFile.FieldType.object "RoundRows$Ring"))) ∈ lw_tbl := tl_2 37 rfl
theorem kz_X3 : ((Jvm.Cond.instantiable "RoundRows$Meter" (10 : Nat))) ∈ TW := tw_2 38 rfl rfl
theorem kx_X8_29 : (Cond.methodLinkNest RX8 29 yX3_init "RoundRows") ∈ lw_tbl := tl_2 39 rfl
theorem ki_X3_init : (Cond.instanceMethod yX3_init) ∈ TW := tw_2 40 rfl rfl
theorem kc_X3_init : (Cond.code yX3_init cX3_init (1 : Nat) (Option.none : Option Jvm.ClassFile.FieldType)) ∈ TW := tw_2 41 rfl rfl
theorem km_X3_3 : (Cond.methodLink RX3 3 ({ cls := "java/lang/Object", name := "<init>", desc := "()V" } : Jvm.MethodName)) ∈ TW := tw_2 42 rfl rfl
theorem kk_X3_15 : ((Jvm.Cond.constant "RoundRows$Meter" (15 : Nat) (-2147483648 : Int32))) ∈ TW := tw_2 43 rfl rfl
theorem kk_X3_22 : ((Jvm.Cond.constant "RoundRows$Meter" (22 : Nat) (-2000000000 : Int32))) ∈ TW := tw_2 44 rfl rfl
theorem kk_X3_26 : ((Jvm.Cond.constant "RoundRows$Meter" (26 : Nat) (2000000000 : Int32))) ∈ TW := tw_2 45 rfl rfl
theorem kf_X3_35 : (Cond.fieldLink RX3 35 "RoundRows$Meter" "silence" "I") ∈ TW := tw_2 46 rfl rfl
theorem kf_X11_150 : (Cond.fieldLink RX11 150 "RoundRows$Meter" "silence" "I") ∈ TW := tw_2 47 rfl rfl
theorem kf_X3_39 : (Cond.fieldLink RX3 39 "RoundRows$Meter" "least" "I") ∈ TW := tw_2 48 rfl rfl
theorem kf_X11_153 : (Cond.fieldLink RX11 153 "RoundRows$Meter" "least" "I") ∈ TW := tw_2 49 rfl rfl
theorem kf_X3_43 : (Cond.fieldLink RX3 43 "RoundRows$Meter" "most" "I") ∈ TW := tw_2 50 rfl rfl
theorem kf_X11_156 : (Cond.fieldLink RX11 156 "RoundRows$Meter" "most" "I") ∈ TW := tw_2 51 rfl rfl
theorem kf_X3_9 : (Cond.fieldLink RX3 9 "RoundRows$Meter" "last" "I") ∈ TW := tw_2 52 rfl rfl
theorem kf_X11_171 : (Cond.fieldLink RX11 171 "RoundRows$Meter" "last" "I") ∈ TW := tw_2 53 rfl rfl
theorem kf_X3_16 : (Cond.fieldLink RX3 16 "RoundRows$Meter" "rate" "I") ∈ TW := tw_2 54 rfl rfl
theorem kf_X11_174 : (Cond.fieldLink RX11 174 "RoundRows$Meter" "rate" "I") ∈ TW := tw_2 55 rfl rfl
theorem kf_X3_19 : (Cond.fieldLink RX3 19 "RoundRows$Meter" "value" "I") ∈ TW := tw_2 56 rfl rfl
theorem kf_X8_106 : (Cond.fieldLink RX8 106 "RoundRows$Meter" "value" "I") ∈ TW := tw_2 57 rfl rfl
theorem kf_X11_178 : (Cond.fieldLink RX11 178 "RoundRows$Meter" "value" "I") ∈ TW := tw_2 58 rfl rfl
theorem kf_X3_44 : (Cond.fieldLink RX3 44 "RoundRows$Meter" "units" "I") ∈ TW := tw_2 59 rfl rfl
theorem kf_X8_94 : (Cond.fieldLink RX8 94 "RoundRows$Meter" "units" "I") ∈ TW := tw_2 60 rfl rfl
theorem kf_X11_168 : (Cond.fieldLink RX11 168 "RoundRows$Meter" "units" "I") ∈ TW := tw_2 61 rfl rfl
theorem kf_X3_47 : (Cond.fieldLink RX3 47 "RoundRows$Meter" "sum" "J") ∈ TW := tw_2 62 rfl rfl
theorem kf_X11_207 : (Cond.fieldLink RX11 207 "RoundRows$Meter" "sum" "J") ∈ TW := tw_2 63 rfl rfl
theorem kf_X3_23 : (Cond.fieldLink RX3 23 "RoundRows$Meter" "everGreatest" "I") ∈ TW := tw_2 64 rfl rfl
theorem kf_X11_305 : (Cond.fieldLink RX11 305 "RoundRows$Meter" "everGreatest" "I") ∈ TW := tw_2 65 rfl rfl
theorem kf_X3_27 : (Cond.fieldLink RX3 27 "RoundRows$Meter" "everLeast" "I") ∈ TW := tw_2 66 rfl rfl
theorem kf_X11_308 : (Cond.fieldLink RX11 308 "RoundRows$Meter" "everLeast" "I") ∈ TW := tw_2 67 rfl rfl
theorem ky_X3_silence : ((Jvm.Cond.lays "RoundRows$Meter" "RoundRows$Meter" "silence" "I")) ∈ TW := tw_2 68 rfl rfl
theorem ky_X3_least : ((Jvm.Cond.lays "RoundRows$Meter" "RoundRows$Meter" "least" "I")) ∈ TW := tw_2 70 rfl rfl
theorem ky_X3_most : ((Jvm.Cond.lays "RoundRows$Meter" "RoundRows$Meter" "most" "I")) ∈ TW := tw_2 72 rfl rfl
theorem ky_X3_last : ((Jvm.Cond.lays "RoundRows$Meter" "RoundRows$Meter" "last" "I")) ∈ TW := tw_2 74 rfl rfl
theorem ky_X3_rate : ((Jvm.Cond.lays "RoundRows$Meter" "RoundRows$Meter" "rate" "I")) ∈ TW := tw_2 76 rfl rfl
theorem ky_X3_value : ((Jvm.Cond.lays "RoundRows$Meter" "RoundRows$Meter" "value" "I")) ∈ TW := tw_2 78 rfl rfl
theorem ky_X3_units : ((Jvm.Cond.lays "RoundRows$Meter" "RoundRows$Meter" "units" "I")) ∈ TW := tw_2 80 rfl rfl
theorem ky_X3_sum : ((Jvm.Cond.lays "RoundRows$Meter" "RoundRows$Meter" "sum" "J")) ∈ TW := tw_2 82 rfl rfl
theorem ky_X3_everGreatest : ((Jvm.Cond.lays "RoundRows$Meter" "RoundRows$Meter" "everGreatest" "I")) ∈ TW := tw_2 84 rfl rfl
theorem ky_X3_everLeast : ((Jvm.Cond.lays "RoundRows$Meter" "RoundRows$Meter" "everLeast" "I")) ∈ TW := tw_2 86 rfl rfl
theorem kz_X4 : ((Jvm.Cond.instantiable "RoundRows$Outlook" (8 : Nat))) ∈ TW := tw_2 89 rfl rfl
theorem kx_X8_30 : (Cond.methodLinkNest RX8 30 yX4_init "RoundRows") ∈ lw_tbl := tl_2 90 rfl
theorem ki_X4_init : (Cond.instanceMethod yX4_init) ∈ TW := tw_2 91 rfl rfl
theorem kc_X4_init : (Cond.code yX4_init cX4_init (1 : Nat) (Option.none : Option Jvm.ClassFile.FieldType)) ∈ TW := tw_2 92 rfl rfl
theorem km_X4_3 : (Cond.methodLink RX4 3 ({ cls := "java/lang/Object", name := "<init>", desc := "()V" } : Jvm.MethodName)) ∈ TW := tw_2 93 rfl rfl
theorem kf_X4_25 : (Cond.fieldLink RX4 25 "RoundRows$Outlook" "began" "Z") ∈ TW := tw_2 94 rfl rfl
theorem kf_X11_338 : (Cond.fieldLink RX11 338 "RoundRows$Outlook" "began" "Z") ∈ TW := tw_2 95 rfl rfl
theorem kf_X4_29 : (Cond.fieldLink RX4 29 "RoundRows$Outlook" "level" "I") ∈ TW := tw_2 96 rfl rfl
theorem kf_X11_330 : (Cond.fieldLink RX11 330 "RoundRows$Outlook" "level" "I") ∈ TW := tw_2 97 rfl rfl
theorem kf_X4_33 : (Cond.fieldLink RX4 33 "RoundRows$Outlook" "trend" "I") ∈ TW := tw_2 98 rfl rfl
theorem kf_X11_335 : (Cond.fieldLink RX11 335 "RoundRows$Outlook" "trend" "I") ∈ TW := tw_2 99 rfl rfl
theorem kf_X4_9 : (Cond.fieldLink RX4 9 "RoundRows$Outlook" "swing" "[I") ∈ TW := tw_2 100 rfl rfl
theorem kf_X11_351 : (Cond.fieldLink RX11 351 "RoundRows$Outlook" "swing" "[I") ∈ TW := tw_2 101 rfl rfl
theorem kf_X4_15 : (Cond.fieldLink RX4 15 "RoundRows$Outlook" "spread" "[I") ∈ TW := tw_2 102 rfl rfl
theorem kf_X11_354 : (Cond.fieldLink RX11 354 "RoundRows$Outlook" "spread" "[I") ∈ TW := tw_2 103 rfl rfl
theorem kf_X4_18 : (Cond.fieldLink RX4 18 "RoundRows$Outlook" "told" "[I") ∈ TW := tw_2 104 rfl rfl
theorem kf_X4_21 : (Cond.fieldLink RX4 21 "RoundRows$Outlook" "odd" "[Z") ∈ TW := tw_2 105 rfl rfl
theorem kf_X4_36 : (Cond.fieldLink RX4 36 "RoundRows$Outlook" "tells" "I") ∈ TW := tw_2 106 rfl rfl
theorem ky_X4_began : ((Jvm.Cond.lays "RoundRows$Outlook" "RoundRows$Outlook" "began" "Z")) ∈ TW := tw_2 107 rfl rfl
theorem ky_X4_level : ((Jvm.Cond.lays "RoundRows$Outlook" "RoundRows$Outlook" "level" "I")) ∈ TW := tw_2 109 rfl rfl
theorem ky_X4_trend : ((Jvm.Cond.lays "RoundRows$Outlook" "RoundRows$Outlook" "trend" "I")) ∈ TW := tw_2 111 rfl rfl
theorem ky_X4_swing : ((Jvm.Cond.laysFinal "RoundRows$Outlook" "RoundRows$Outlook" "swing" "[I")) ∈ TW := tw_2 113 rfl rfl
theorem ky_X4_spread : ((Jvm.Cond.laysFinal "RoundRows$Outlook" "RoundRows$Outlook" "spread" "[I")) ∈ TW := tw_2 115 rfl rfl
theorem ky_X4_told : ((Jvm.Cond.laysFinal "RoundRows$Outlook" "RoundRows$Outlook" "told" "[I")) ∈ TW := tw_2 117 rfl rfl
theorem ky_X4_odd : ((Jvm.Cond.laysFinal "RoundRows$Outlook" "RoundRows$Outlook" "odd" "[Z")) ∈ TW := tw_2 119 rfl rfl
theorem ky_X4_tells : ((Jvm.Cond.lays "RoundRows$Outlook" "RoundRows$Outlook" "tells" "I")) ∈ TW := tw_2 121 rfl rfl
theorem ka_arrayClass_2_124 : ((Jvm.Cond.arrayClass Jvm.ClassFile.FieldType.boolean)) ∈ TW := tw_2 124 rfl rfl
theorem kz_X7 : ((Jvm.Cond.instantiable "RoundRows$Ring" (2 : Nat))) ∈ TW := tw_2 125 rfl rfl
theorem km_X8_31 : (Cond.methodLink RX8 31 yX7_init) ∈ TW := tw_2 126 rfl rfl
theorem ki_X7_init : (Cond.instanceMethod yX7_init) ∈ TW := tw_2 127 rfl rfl
theorem kc_X7_init : (Cond.code yX7_init cX7_init (2 : Nat) (Option.none : Option Jvm.ClassFile.FieldType)) ∈ TW := tw_2 128 rfl rfl
theorem km_X7_3 : (Cond.methodLink RX7 3 ({ cls := "java/lang/Object", name := "<init>", desc := "()V" } : Jvm.MethodName)) ∈ TW := tw_2 129 rfl rfl
theorem kl_X7_15 : ((Jvm.Cond.classLink "RoundRows$Ring" (15 : Nat) "RoundRows$Tally")) ∈ TW := tw_2 130 rfl rfl
theorem ka_arrayOver_2_131 : ((Jvm.Cond.arrayOver (Jvm.ClassFile.FieldType.object "RoundRows$Tally"))) ∈ lw_tbl := tl_2 131 rfl
theorem kz_X9 : ((Jvm.Cond.instantiable "RoundRows$Tally" (6 : Nat))) ∈ TW := tw_2 132 rfl rfl
theorem kx_X7_21 : (Cond.methodLinkNest RX7 21 yX9_init "RoundRows") ∈ lw_tbl := tl_2 133 rfl
theorem ki_X9_init : (Cond.instanceMethod yX9_init) ∈ TW := tw_2 134 rfl rfl
theorem kc_X9_init : (Cond.code yX9_init cX9_init (1 : Nat) (Option.none : Option Jvm.ClassFile.FieldType)) ∈ TW := tw_2 135 rfl rfl
theorem km_X9_3 : (Cond.methodLink RX9 3 ({ cls := "java/lang/Object", name := "<init>", desc := "()V" } : Jvm.MethodName)) ∈ TW := tw_2 136 rfl rfl
theorem kk_X9_9 : ((Jvm.Cond.constant "RoundRows$Tally" (9 : Nat) (-2147483648 : Int32))) ∈ TW := tw_2 137 rfl rfl
theorem kf_X9_22 : (Cond.fieldLink RX9 22 "RoundRows$Tally" "sum" "J") ∈ TW := tw_2 138 rfl rfl
theorem kf_X11_271 : (Cond.fieldLink RX11 271 "RoundRows$Tally" "sum" "J") ∈ TW := tw_2 139 rfl rfl
theorem kf_X9_26 : (Cond.fieldLink RX9 26 "RoundRows$Tally" "weight" "I") ∈ TW := tw_2 140 rfl rfl
theorem kf_X9_29 : (Cond.fieldLink RX9 29 "RoundRows$Tally" "known" "I") ∈ TW := tw_2 141 rfl rfl
theorem kf_X7_42 : (Cond.fieldLink RX7 42 "RoundRows$Tally" "known" "I") ∈ TW := tw_2 142 rfl rfl
theorem kf_X11_258 : (Cond.fieldLink RX11 258 "RoundRows$Tally" "known" "I") ∈ TW := tw_2 143 rfl rfl
theorem kf_X9_10 : (Cond.fieldLink RX9 10 "RoundRows$Tally" "greatest" "I") ∈ TW := tw_2 144 rfl rfl
theorem kf_X11_264 : (Cond.fieldLink RX11 264 "RoundRows$Tally" "greatest" "I") ∈ TW := tw_2 145 rfl rfl
theorem kf_X9_16 : (Cond.fieldLink RX9 16 "RoundRows$Tally" "least" "I") ∈ TW := tw_2 146 rfl rfl
theorem kf_X11_267 : (Cond.fieldLink RX11 267 "RoundRows$Tally" "least" "I") ∈ TW := tw_2 147 rfl rfl
theorem kf_X9_19 : (Cond.fieldLink RX9 19 "RoundRows$Tally" "latest" "I") ∈ TW := tw_2 148 rfl rfl
theorem ky_X9_sum : ((Jvm.Cond.lays "RoundRows$Tally" "RoundRows$Tally" "sum" "J")) ∈ TW := tw_2 149 rfl rfl
theorem ky_X9_weight : ((Jvm.Cond.lays "RoundRows$Tally" "RoundRows$Tally" "weight" "I")) ∈ TW := tw_2 151 rfl rfl
theorem ky_X9_known : ((Jvm.Cond.lays "RoundRows$Tally" "RoundRows$Tally" "known" "I")) ∈ TW := tw_2 153 rfl rfl
theorem ky_X9_greatest : ((Jvm.Cond.lays "RoundRows$Tally" "RoundRows$Tally" "greatest" "I")) ∈ TW := tw_2 155 rfl rfl
theorem ky_X9_least : ((Jvm.Cond.lays "RoundRows$Tally" "RoundRows$Tally" "least" "I")) ∈ TW := tw_2 157 rfl rfl
theorem ky_X9_latest : ((Jvm.Cond.lays "RoundRows$Tally" "RoundRows$Tally" "latest" "I")) ∈ TW := tw_2 159 rfl rfl
theorem kf_X7_11 : (Cond.fieldLink RX7 11 "RoundRows$Ring" "cells" "[I") ∈ TW := tw_2 162 rfl rfl
theorem kf_X7_17 : (Cond.fieldLink RX7 17 "RoundRows$Ring" "parts" "[LRoundRows$Tally;") ∈ TW := tw_2 163 rfl rfl
theorem kf_X8_102 : (Cond.fieldLink RX8 102 "RoundRows$Ring" "parts" "[LRoundRows$Tally;") ∈ TW := tw_2 164 rfl rfl
theorem ky_X7_cells : ((Jvm.Cond.laysFinal "RoundRows$Ring" "RoundRows$Ring" "cells" "[I")) ∈ TW := tw_2 165 rfl rfl
theorem ky_X7_parts : ((Jvm.Cond.laysFinal "RoundRows$Ring" "RoundRows$Ring" "parts" "[LRoundRows$Tally;")) ∈ TW := tw_2 167 rfl rfl
theorem kf_X8_32 : (Cond.fieldLink RX8 32 "RoundRows$State" "time" "I") ∈ TW := tw_2 170 rfl rfl
theorem kf_X11_141 : (Cond.fieldLink RX11 141 "RoundRows$State" "time" "I") ∈ TW := tw_2 171 rfl rfl
theorem kf_X8_36 : (Cond.fieldLink RX8 36 "RoundRows$State" "readings" "I") ∈ TW := tw_2 172 rfl rfl
theorem kf_X11_391 : (Cond.fieldLink RX11 391 "RoundRows$State" "readings" "I") ∈ TW := tw_2 173 rfl rfl
theorem kf_X8_11 : (Cond.fieldLink RX8 11 "RoundRows$State" "meters" "[LRoundRows$Meter;") ∈ TW := tw_2 174 rfl rfl
theorem kf_X11_111 : (Cond.fieldLink RX11 111 "RoundRows$State" "meters" "[LRoundRows$Meter;") ∈ TW := tw_2 175 rfl rfl
theorem kf_X8_19 : (Cond.fieldLink RX8 19 "RoundRows$State" "outlooks" "[LRoundRows$Outlook;") ∈ TW := tw_2 176 rfl rfl
theorem kf_X11_326 : (Cond.fieldLink RX11 326 "RoundRows$State" "outlooks" "[LRoundRows$Outlook;") ∈ TW := tw_2 177 rfl rfl
theorem kf_X8_25 : (Cond.fieldLink RX8 25 "RoundRows$State" "rings" "[LRoundRows$Ring;") ∈ TW := tw_2 178 rfl rfl
theorem kf_X11_311 : (Cond.fieldLink RX11 311 "RoundRows$State" "rings" "[LRoundRows$Ring;") ∈ TW := tw_2 179 rfl rfl
theorem ky_X8_time : ((Jvm.Cond.lays "RoundRows$State" "RoundRows$State" "time" "I")) ∈ TW := tw_2 180 rfl rfl
theorem ky_X8_readings : ((Jvm.Cond.lays "RoundRows$State" "RoundRows$State" "readings" "I")) ∈ TW := tw_2 182 rfl rfl
theorem ky_X8_meters : ((Jvm.Cond.laysFinal "RoundRows$State" "RoundRows$State" "meters" "[LRoundRows$Meter;")) ∈ TW := tw_2 184 rfl rfl
theorem ky_X8_outlooks : ((Jvm.Cond.laysFinal "RoundRows$State" "RoundRows$State" "outlooks" "[LRoundRows$Outlook;")) ∈ TW := tw_2 186 rfl rfl
theorem ky_X8_rings : ((Jvm.Cond.laysFinal "RoundRows$State" "RoundRows$State" "rings" "[LRoundRows$Ring;")) ∈ TW := tw_2 188 rfl rfl
theorem kl_X11_55 : ((Jvm.Cond.classLink "RoundRows" (55 : Nat) "RoundRows$Tally")) ∈ TW := tw_2 191 rfl rfl
theorem kx_X11_57 : (Cond.methodLinkNest RX11 57 yX9_init "RoundRows") ∈ lw_tbl := tl_2 192 rfl
theorem kf_X11_12 : (Cond.fieldLink RX11 12 "RoundRows" "tape" "LRoundRows$Tape;") ∈ TW := tw_2 193 rfl rfl
theorem kf_X11_19 : (Cond.fieldLink RX11 19 "RoundRows" "parser" "LRoundRows$Parser;") ∈ TW := tw_2 194 rfl rfl
theorem kf_X11_26 : (Cond.fieldLink RX11 26 "RoundRows" "plan" "LRoundRows$Plan;") ∈ TW := tw_2 195 rfl rfl
theorem kf_X11_30 : (Cond.fieldLink RX11 30 "RoundRows" "spare" "LRoundRows$Plan;") ∈ TW := tw_2 196 rfl rfl
theorem kf_X11_35 : (Cond.fieldLink RX11 35 "RoundRows" "states" "[LRoundRows$State;") ∈ TW := tw_2 197 rfl rfl
theorem kf_X11_128 : (Cond.fieldLink RX11 128 "RoundRows" "present" "I") ∈ TW := tw_2 198 rfl rfl
theorem kf_X11_125 : (Cond.fieldLink RX11 125 "RoundRows" "undoable" "I") ∈ TW := tw_2 199 rfl rfl
theorem kf_X11_131 : (Cond.fieldLink RX11 131 "RoundRows" "redoable" "I") ∈ TW := tw_2 200 rfl rfl
theorem kf_X11_40 : (Cond.fieldLink RX11 40 "RoundRows" "boxes" "[LRoundRows$State;") ∈ TW := tw_2 201 rfl rfl
theorem kf_X11_43 : (Cond.fieldLink RX11 43 "RoundRows" "boxFull" "[Z") ∈ TW := tw_2 202 rfl rfl
theorem kf_X11_79 : (Cond.fieldLink RX11 79 "RoundRows" "fault" "I") ∈ TW := tw_2 203 rfl rfl
theorem kf_X11_47 : (Cond.fieldLink RX11 47 "RoundRows" "faultPlace" "I") ∈ TW := tw_2 204 rfl rfl
theorem kf_X11_51 : (Cond.fieldLink RX11 51 "RoundRows" "numbers" "[I") ∈ TW := tw_2 205 rfl rfl
theorem kf_X11_58 : (Cond.fieldLink RX11 58 "RoundRows" "tally" "LRoundRows$Tally;") ∈ TW := tw_2 206 rfl rfl
theorem ky_X11_tape : ((Jvm.Cond.laysFinal "RoundRows" "RoundRows" "tape" "LRoundRows$Tape;")) ∈ TW := tw_2 207 rfl rfl
theorem ky_X11_parser : ((Jvm.Cond.laysFinal "RoundRows" "RoundRows" "parser" "LRoundRows$Parser;")) ∈ TW := tw_2 209 rfl rfl
theorem ky_X11_plan : ((Jvm.Cond.lays "RoundRows" "RoundRows" "plan" "LRoundRows$Plan;")) ∈ TW := tw_2 211 rfl rfl
theorem ky_X11_spare : ((Jvm.Cond.lays "RoundRows" "RoundRows" "spare" "LRoundRows$Plan;")) ∈ TW := tw_2 213 rfl rfl
theorem ky_X11_states : ((Jvm.Cond.laysFinal "RoundRows" "RoundRows" "states" "[LRoundRows$State;")) ∈ TW := tw_2 215 rfl rfl
theorem ky_X11_present : ((Jvm.Cond.lays "RoundRows" "RoundRows" "present" "I")) ∈ TW := tw_2 217 rfl rfl
theorem ky_X11_undoable : ((Jvm.Cond.lays "RoundRows" "RoundRows" "undoable" "I")) ∈ TW := tw_2 219 rfl rfl
theorem ky_X11_redoable : ((Jvm.Cond.lays "RoundRows" "RoundRows" "redoable" "I")) ∈ TW := tw_2 221 rfl rfl
theorem ky_X11_boxes : ((Jvm.Cond.laysFinal "RoundRows" "RoundRows" "boxes" "[LRoundRows$State;")) ∈ TW := tw_2 223 rfl rfl
theorem ky_X11_boxFull : ((Jvm.Cond.laysFinal "RoundRows" "RoundRows" "boxFull" "[Z")) ∈ TW := tw_2 225 rfl rfl
theorem ky_X11_fault : ((Jvm.Cond.lays "RoundRows" "RoundRows" "fault" "I")) ∈ TW := tw_2 227 rfl rfl
theorem ky_X11_faultPlace : ((Jvm.Cond.lays "RoundRows" "RoundRows" "faultPlace" "I")) ∈ TW := tw_2 229 rfl rfl
theorem ky_X11_numbers : ((Jvm.Cond.laysFinal "RoundRows" "RoundRows" "numbers" "[I")) ∈ TW := tw_2 231 rfl rfl
theorem ky_X11_tally : ((Jvm.Cond.laysFinal "RoundRows" "RoundRows" "tally" "LRoundRows$Tally;")) ∈ TW := tw_2 233 rfl rfl
theorem km_L_13 : (Cond.methodLink RL 13 yX11_feed) ∈ TW := tw_2 236 rfl rfl
theorem ki_X11_feed : (Cond.instanceMethod yX11_feed) ∈ TW := tw_2 237 rfl rfl
theorem kv_X11_feed : (Cond.selects RX11 yX11_feed yX11_feed) ∈ TW := tw_2 238 rfl rfl
theorem kc_X11_feed : (Cond.code yX11_feed cX11_feed (6 : Nat) (Option.some Jvm.ClassFile.FieldType.int)) ∈ TW := tw_2 239 rfl rfl
theorem km_X11_65 : (Cond.methodLink RX11 65 yX10_put) ∈ TW := tw_3 0 rfl rfl
theorem ki_X10_put : (Cond.instanceMethod yX10_put) ∈ TW := tw_3 1 rfl rfl
theorem kv_X10_put : (Cond.selects RX10 yX10_put yX10_put) ∈ TW := tw_3 2 rfl rfl
theorem kc_X10_put : (Cond.code yX10_put cX10_put (3 : Nat) (Option.none : Option Jvm.ClassFile.FieldType)) ∈ TW := tw_3 3 rfl rfl
theorem km_L_18 : (Cond.methodLink RL 18 yX11_end) ∈ TW := tw_3 4 rfl rfl
theorem ki_X11_end : (Cond.instanceMethod yX11_end) ∈ TW := tw_3 5 rfl rfl
theorem kv_X11_end : (Cond.selects RX11 yX11_end yX11_end) ∈ TW := tw_3 6 rfl rfl
theorem kc_X11_end : (Cond.code yX11_end cX11_end (2 : Nat) (Option.some Jvm.ClassFile.FieldType.int)) ∈ TW := tw_3 7 rfl rfl
theorem km_L_23 : (Cond.methodLink RL 23 yX11_store) ∈ TW := tw_3 8 rfl rfl
theorem ki_X11_store : (Cond.instanceMethod yX11_store) ∈ TW := tw_3 9 rfl rfl
theorem kv_X11_store : (Cond.selects RX11 yX11_store yX11_store) ∈ TW := tw_3 10 rfl rfl
theorem kc_X11_store : (Cond.code yX11_store cX11_store (4 : Nat) (Option.some Jvm.ClassFile.FieldType.int)) ∈ TW := tw_3 11 rfl rfl
theorem km_X11_69 : (Cond.methodLink RX11 69 yX10_scan) ∈ TW := tw_3 12 rfl rfl
theorem ki_X10_scan : (Cond.instanceMethod yX10_scan) ∈ TW := tw_3 13 rfl rfl
theorem kv_X10_scan : (Cond.selects RX10 yX10_scan yX10_scan) ∈ TW := tw_3 14 rfl rfl
theorem kc_X10_scan : (Cond.code yX10_scan cX10_scan (4 : Nat) (Option.none : Option Jvm.ClassFile.FieldType)) ∈ TW := tw_3 15 rfl rfl
theorem km_X10_32 : (Cond.methodLink RX10 32 yX10_isBlank) ∈ TW := tw_3 16 rfl rfl
theorem ks_X10_isBlank : (Cond.static yX10_isBlank) ∈ TW := tw_3 17 rfl rfl
theorem kc_X10_isBlank : (Cond.code yX10_isBlank cX10_isBlank (1 : Nat) (Option.some Jvm.ClassFile.FieldType.boolean)) ∈ TW := tw_3 18 rfl rfl
theorem km_X10_36 : (Cond.methodLink RX10 36 yX10_stopOf) ∈ TW := tw_3 19 rfl rfl
theorem ki_X10_stopOf : (Cond.instanceMethod yX10_stopOf) ∈ TW := tw_3 21 rfl rfl
theorem kc_X10_stopOf : (Cond.code yX10_stopOf cX10_stopOf (3 : Nat) (Option.some Jvm.ClassFile.FieldType.int)) ∈ TW := tw_3 22 rfl rfl
theorem km_X10_48 : (Cond.methodLink RX10 48 yX10_isLetter) ∈ TW := tw_3 23 rfl rfl
theorem ks_X10_isLetter : (Cond.static yX10_isLetter) ∈ TW := tw_3 24 rfl rfl
theorem kc_X10_isLetter : (Cond.code yX10_isLetter cX10_isLetter (1 : Nat) (Option.some Jvm.ClassFile.FieldType.boolean)) ∈ TW := tw_3 25 rfl rfl
theorem km_X10_51 : (Cond.methodLink RX10 51 yX10_isDigit) ∈ TW := tw_3 26 rfl rfl
theorem ks_X10_isDigit : (Cond.static yX10_isDigit) ∈ TW := tw_3 27 rfl rfl
theorem kc_X10_isDigit : (Cond.code yX10_isDigit cX10_isDigit (1 : Nat) (Option.some Jvm.ClassFile.FieldType.boolean)) ∈ TW := tw_3 28 rfl rfl
theorem km_X10_40 : (Cond.methodLink RX10 40 yX10_kindOf) ∈ TW := tw_3 29 rfl rfl
theorem ki_X10_kindOf : (Cond.instanceMethod yX10_kindOf) ∈ TW := tw_3 31 rfl rfl
theorem kc_X10_kindOf : (Cond.code yX10_kindOf cX10_kindOf (5 : Nat) (Option.some Jvm.ClassFile.FieldType.int)) ∈ TW := tw_3 32 rfl rfl
theorem km_X10_54 : (Cond.methodLink RX10 54 yX10_wordKind) ∈ TW := tw_3 33 rfl rfl
theorem ki_X10_wordKind : (Cond.instanceMethod yX10_wordKind) ∈ TW := tw_3 35 rfl rfl
theorem kc_X10_wordKind : (Cond.code yX10_wordKind cX10_wordKind (8 : Nat) (Option.some Jvm.ClassFile.FieldType.int)) ∈ TW := tw_3 36 rfl rfl
theorem kw_stringRef_3_37 : ((Jvm.Cond.stringRef "RoundRows$Tape" (57 : Nat) "step measure gauge amount counter silence least most archive mean latest by share forecast season band show or ")) ∈ lw_tbl := tl_3 37 rfl
theorem km_X10_59 : (Cond.methodLink RX10 59 yJ0_length_8abf5) ∈ TW := tw_3 38 rfl rfl
theorem ki_J0_length_8abf5 : (Cond.instanceMethod yJ0_length_8abf5) ∈ TW := tw_3 39 rfl rfl
theorem kv_J0_length_8abf5 : (Cond.selects RJ0 yJ0_length_8abf5 yJ0_length_8abf5) ∈ TW := tw_3 40 rfl rfl
theorem kc_J0_length_8abf5 : (Cond.code yJ0_length_8abf5 cJ0_length_8abf5 (1 : Nat) (Option.some Jvm.ClassFile.FieldType.int)) ∈ TW := tw_3 41 rfl rfl
theorem km_J0_335 : (Cond.methodLink RJ0 335 yJ0_coder_7d493) ∈ TW := tw_3 42 rfl rfl
theorem ki_J0_coder_7d493 : (Cond.instanceMethod yJ0_coder_7d493) ∈ TW := tw_3 43 rfl rfl
theorem kv_J0_coder_7d493 : (Cond.selects RJ0 yJ0_coder_7d493 yJ0_coder_7d493) ∈ TW := tw_3 44 rfl rfl
theorem kc_J0_coder_7d493 : (Cond.code yJ0_coder_7d493 cJ0_coder_7d493 (1 : Nat) (Option.some Jvm.ClassFile.FieldType.byte)) ∈ TW := tw_3 45 rfl rfl
theorem kf_J0_38 : (Cond.fieldLink RJ0 38 "java/lang/String" "COMPACT_STRINGS" "Z") ∈ TW := tw_3 46 rfl rfl
theorem kw_laysStatic_3_47 : ((Jvm.Cond.laysStatic "java/lang/String" "COMPACT_STRINGS" "Z")) ∈ lw_tbl := tl_3 47 rfl
theorem km_X10_64 : (Cond.methodLink RX10 64 yJ0_charAt_5068e) ∈ TW := tw_3 48 rfl rfl
theorem ki_J0_charAt_5068e : (Cond.instanceMethod yJ0_charAt_5068e) ∈ TW := tw_3 49 rfl rfl
theorem kv_J0_charAt_5068e : (Cond.selects RJ0 yJ0_charAt_5068e yJ0_charAt_5068e) ∈ TW := tw_3 50 rfl rfl
theorem kc_J0_charAt_5068e : (Cond.code yJ0_charAt_5068e cJ0_charAt_5068e (2 : Nat) (Option.some Jvm.ClassFile.FieldType.char)) ∈ TW := tw_3 51 rfl rfl
theorem km_J0_492 : (Cond.methodLink RJ0 492 yJ0_isLatin1_aae02) ∈ TW := tw_3 52 rfl rfl
theorem ki_J0_isLatin1_aae02 : (Cond.instanceMethod yJ0_isLatin1_aae02) ∈ TW := tw_3 53 rfl rfl
theorem kv_J0_isLatin1_aae02 : (Cond.selects RJ0 yJ0_isLatin1_aae02 yJ0_isLatin1_aae02) ∈ TW := tw_3 54 rfl rfl
theorem kc_J0_isLatin1_aae02 : (Cond.code yJ0_isLatin1_aae02 cJ0_isLatin1_aae02 (1 : Nat) (Option.some Jvm.ClassFile.FieldType.boolean)) ∈ TW := tw_3 55 rfl rfl
theorem km_J0_495 : (Cond.methodLink RJ0 495 yJ1_charAt_3b067) ∈ TW := tw_3 56 rfl rfl
theorem ks_J1_charAt_3b067 : (Cond.static yJ1_charAt_3b067) ∈ TW := tw_3 57 rfl rfl
theorem kc_J1_charAt_3b067 : (Cond.code yJ1_charAt_3b067 cJ1_charAt_3b067 (2 : Nat) (Option.some Jvm.ClassFile.FieldType.char)) ∈ TW := tw_3 58 rfl rfl
theorem km_J1_9 : (Cond.methodLink RJ1 9 yJ0_checkIndex_df160) ∈ TW := tw_3 59 rfl rfl
theorem ks_J0_checkIndex_df160 : (Cond.static yJ0_checkIndex_df160) ∈ TW := tw_3 60 rfl rfl
theorem kc_J0_checkIndex_df160 : (Cond.code yJ0_checkIndex_df160 cJ0_checkIndex_df160 (2 : Nat) (Option.none : Option Jvm.ClassFile.FieldType)) ∈ TW := tw_3 61 rfl rfl
theorem kf_J0_1053 : (Cond.fieldLink RJ0 1053 "jdk/internal/util/Preconditions" "SIOOBE_FORMATTER" "Ljava/util/function/BiFunction;") ∈ TW := tw_3 62 rfl rfl
theorem kw_laysStatic_3_63 : ((Jvm.Cond.laysStatic "jdk/internal/util/Preconditions" "SIOOBE_FORMATTER" "Ljava/util/function/BiFunction;")) ∈ lw_tbl := tl_3 63 rfl
theorem km_J0_1059 : (Cond.methodLink RJ0 1059 yJ3_checkIndex_8e157) ∈ TW := tw_3 64 rfl rfl
theorem ks_J3_checkIndex_8e157 : (Cond.static yJ3_checkIndex_8e157) ∈ TW := tw_3 65 rfl rfl
theorem kc_J3_checkIndex_8e157 : (Cond.code yJ3_checkIndex_8e157 cJ3_checkIndex_8e157 (3 : Nat) (Option.some Jvm.ClassFile.FieldType.int)) ∈ TW := tw_3 66 rfl rfl
theorem km_J0_498 : (Cond.methodLink RJ0 498 yJ2_charAt_3b067) ∈ TW := tw_3 67 rfl rfl
theorem ks_J2_charAt_3b067 : (Cond.static yJ2_charAt_3b067) ∈ TW := tw_3 68 rfl rfl
theorem kc_J2_charAt_3b067 : (Cond.code yJ2_charAt_3b067 cJ2_charAt_3b067 (2 : Nat) (Option.some Jvm.ClassFile.FieldType.char)) ∈ TW := tw_3 69 rfl rfl
theorem km_J2_67 : (Cond.methodLink RJ2 67 yJ2_checkIndex_2214a) ∈ TW := tw_3 70 rfl rfl
theorem ks_J2_checkIndex_2214a : (Cond.static yJ2_checkIndex_2214a) ∈ TW := tw_3 71 rfl rfl
theorem kc_J2_checkIndex_2214a : (Cond.code yJ2_checkIndex_2214a cJ2_checkIndex_2214a (2 : Nat) (Option.none : Option Jvm.ClassFile.FieldType)) ∈ TW := tw_3 72 rfl rfl
theorem km_J2_48 : (Cond.methodLink RJ2 48 yJ2_length_9d52b) ∈ TW := tw_3 73 rfl rfl
theorem ks_J2_length_9d52b : (Cond.static yJ2_length_9d52b) ∈ TW := tw_3 74 rfl rfl
theorem kc_J2_length_9d52b : (Cond.code yJ2_length_9d52b cJ2_length_9d52b (1 : Nat) (Option.some Jvm.ClassFile.FieldType.int)) ∈ TW := tw_3 75 rfl rfl
theorem km_J2_414 : (Cond.methodLink RJ2 414 yJ0_checkIndex_df160) ∈ TW := tw_3 76 rfl rfl
theorem km_J2_71 : (Cond.methodLink RJ2 71 yJ2_getChar_3b067) ∈ TW := tw_3 77 rfl rfl
theorem ks_J2_getChar_3b067 : (Cond.static yJ2_getChar_3b067) ∈ TW := tw_3 78 rfl rfl
theorem kc_J2_getChar_3b067 : (Cond.code yJ2_getChar_3b067 cJ2_getChar_3b067 (2 : Nat) (Option.some Jvm.ClassFile.FieldType.char)) ∈ TW := tw_3 79 rfl rfl
theorem kf_J2_44 : (Cond.fieldLink RJ2 44 "java/lang/StringUTF16" "$assertionsDisabled" "Z") ∈ TW := tw_3 80 rfl rfl
theorem kw_laysStatic_3_81 : ((Jvm.Cond.laysStatic "java/lang/StringUTF16" "$assertionsDisabled" "Z")) ∈ lw_tbl := tl_3 81 rfl
theorem kf_J2_59 : (Cond.fieldLink RJ2 59 "java/lang/StringUTF16" "HI_BYTE_SHIFT" "I") ∈ TW := tw_3 82 rfl rfl
theorem kw_laysStatic_3_83 : ((Jvm.Cond.laysStatic "java/lang/StringUTF16" "HI_BYTE_SHIFT" "I")) ∈ lw_tbl := tl_3 83 rfl
theorem kf_J2_63 : (Cond.fieldLink RJ2 63 "java/lang/StringUTF16" "LO_BYTE_SHIFT" "I") ∈ TW := tw_3 84 rfl rfl
theorem kw_laysStatic_3_85 : ((Jvm.Cond.laysStatic "java/lang/StringUTF16" "LO_BYTE_SHIFT" "I")) ∈ lw_tbl := tl_3 85 rfl
theorem km_X10_44 : (Cond.methodLink RX10 44 yX10_add) ∈ TW := tw_3 86 rfl rfl
theorem ki_X10_add : (Cond.instanceMethod yX10_add) ∈ TW := tw_3 88 rfl rfl
theorem kc_X10_add : (Cond.code yX10_add cX10_add (4 : Nat) (Option.none : Option Jvm.ClassFile.FieldType)) ∈ TW := tw_3 89 rfl rfl
theorem km_X11_72 : (Cond.methodLink RX11 72 yX5_parse) ∈ TW := tw_3 90 rfl rfl
theorem ki_X5_parse : (Cond.instanceMethod yX5_parse) ∈ TW := tw_3 91 rfl rfl
theorem kv_X5_parse : (Cond.selects RX5 yX5_parse yX5_parse) ∈ TW := tw_3 92 rfl rfl
theorem kc_X5_parse : (Cond.code yX5_parse cX5_parse (5 : Nat) (Option.some Jvm.ClassFile.FieldType.boolean)) ∈ TW := tw_3 93 rfl rfl
theorem km_X5_29 : (Cond.methodLink RX5 29 yX6_clear) ∈ TW := tw_3 94 rfl rfl
theorem ki_X6_clear : (Cond.instanceMethod yX6_clear) ∈ TW := tw_3 95 rfl rfl
theorem kv_X6_clear : (Cond.selects RX6 yX6_clear yX6_clear) ∈ TW := tw_3 96 rfl rfl
theorem kc_X6_clear : (Cond.code yX6_clear cX6_clear (1 : Nat) (Option.none : Option Jvm.ClassFile.FieldType)) ∈ TW := tw_3 97 rfl rfl
theorem km_X6_42 : (Cond.methodLink RX6 42 yX1_clear) ∈ TW := tw_3 98 rfl rfl
theorem ki_X1_clear : (Cond.instanceMethod yX1_clear) ∈ TW := tw_3 99 rfl rfl
theorem kv_X1_clear : (Cond.selects RX1 yX1_clear yX1_clear) ∈ TW := tw_3 100 rfl rfl
theorem kc_X1_clear : (Cond.code yX1_clear cX1_clear (1 : Nat) (Option.none : Option Jvm.ClassFile.FieldType)) ∈ TW := tw_3 101 rfl rfl
theorem km_X5_47 : (Cond.methodLink RX5 47 yX5_kind) ∈ TW := tw_3 102 rfl rfl
theorem ki_X5_kind : (Cond.instanceMethod yX5_kind) ∈ TW := tw_3 104 rfl rfl
theorem kc_X5_kind : (Cond.code yX5_kind cX5_kind (1 : Nat) (Option.some Jvm.ClassFile.FieldType.int)) ∈ TW := tw_3 105 rfl rfl
theorem km_X5_71 : (Cond.methodLink RX5 71 yX10_kindAt) ∈ TW := tw_3 106 rfl rfl
theorem ki_X10_kindAt : (Cond.instanceMethod yX10_kindAt) ∈ TW := tw_3 107 rfl rfl
theorem kv_X10_kindAt : (Cond.selects RX10 yX10_kindAt yX10_kindAt) ∈ TW := tw_3 108 rfl rfl
theorem kc_X10_kindAt : (Cond.code yX10_kindAt cX10_kindAt (2 : Nat) (Option.some Jvm.ClassFile.FieldType.int)) ∈ TW := tw_3 109 rfl rfl
theorem km_X10_68 : (Cond.methodLink RX10 68 yX10_isToken) ∈ TW := tw_3 110 rfl rfl
theorem ki_X10_isToken : (Cond.instanceMethod yX10_isToken) ∈ TW := tw_3 112 rfl rfl
theorem kc_X10_isToken : (Cond.code yX10_isToken cX10_isToken (2 : Nat) (Option.some Jvm.ClassFile.FieldType.boolean)) ∈ TW := tw_3 113 rfl rfl
theorem km_X5_51 : (Cond.methodLink RX5 51 yX5_fail) ∈ TW := tw_3 114 rfl rfl
theorem ki_X5_fail : (Cond.instanceMethod yX5_fail) ∈ TW := tw_3 116 rfl rfl
theorem kc_X5_fail : (Cond.code yX5_fail cX5_fail (2 : Nat) (Option.some Jvm.ClassFile.FieldType.boolean)) ∈ TW := tw_3 117 rfl rfl
theorem km_X5_77 : (Cond.methodLink RX5 77 yX10_placeOf) ∈ TW := tw_3 118 rfl rfl
theorem ki_X10_placeOf : (Cond.instanceMethod yX10_placeOf) ∈ TW := tw_3 119 rfl rfl
theorem kv_X10_placeOf : (Cond.selects RX10 yX10_placeOf yX10_placeOf) ∈ TW := tw_3 120 rfl rfl
theorem kc_X10_placeOf : (Cond.code yX10_placeOf cX10_placeOf (2 : Nat) (Option.some Jvm.ClassFile.FieldType.int)) ∈ TW := tw_3 121 rfl rfl
theorem km_X5_55 : (Cond.methodLink RX5 55 yX5_stepLine) ∈ TW := tw_3 122 rfl rfl
theorem ki_X5_stepLine : (Cond.instanceMethod yX5_stepLine) ∈ TW := tw_3 124 rfl rfl
theorem kc_X5_stepLine : (Cond.code yX5_stepLine cX5_stepLine (2 : Nat) (Option.some Jvm.ClassFile.FieldType.boolean)) ∈ TW := tw_3 125 rfl rfl
theorem km_X5_83 : (Cond.methodLink RX5 83 yX5_takeNumber) ∈ TW := tw_3 126 rfl rfl
theorem ki_X5_takeNumber : (Cond.instanceMethod yX5_takeNumber) ∈ TW := tw_3 128 rfl rfl
theorem kc_X5_takeNumber : (Cond.code yX5_takeNumber cX5_takeNumber (4 : Nat) (Option.some Jvm.ClassFile.FieldType.int)) ∈ TW := tw_3 129 rfl rfl
theorem km_X5_80 : (Cond.methodLink RX5 80 yX10_numberOf) ∈ TW := tw_3 130 rfl rfl
theorem ki_X10_numberOf : (Cond.instanceMethod yX10_numberOf) ∈ TW := tw_3 131 rfl rfl
theorem kv_X10_numberOf : (Cond.selects RX10 yX10_numberOf yX10_numberOf) ∈ TW := tw_3 132 rfl rfl
theorem kc_X10_numberOf : (Cond.code yX10_numberOf cX10_numberOf (4 : Nat) (Option.some Jvm.ClassFile.FieldType.int)) ∈ TW := tw_3 133 rfl rfl
theorem kk_X10_72 : ((Jvm.Cond.constant "RoundRows$Tape" (72 : Nat) (999999 : Int32))) ∈ TW := tw_3 134 rfl rfl
theorem kk_X10_73 : ((Jvm.Cond.constant "RoundRows$Tape" (73 : Nat) (1000000 : Int32))) ∈ TW := tw_3 135 rfl rfl
theorem km_X5_90 : (Cond.methodLink RX5 90 yX5_take) ∈ TW := tw_3 136 rfl rfl
theorem ki_X5_take : (Cond.instanceMethod yX5_take) ∈ TW := tw_3 138 rfl rfl
theorem kc_X5_take : (Cond.code yX5_take cX5_take (2 : Nat) (Option.some Jvm.ClassFile.FieldType.boolean)) ∈ TW := tw_3 139 rfl rfl
theorem km_X5_59 : (Cond.methodLink RX5 59 yX5_measureLine) ∈ TW := tw_3 140 rfl rfl
theorem ki_X5_measureLine : (Cond.instanceMethod yX5_measureLine) ∈ TW := tw_3 142 rfl rfl
theorem kc_X5_measureLine : (Cond.code yX5_measureLine cX5_measureLine (3 : Nat) (Option.some Jvm.ClassFile.FieldType.boolean)) ∈ TW := tw_3 143 rfl rfl
theorem km_X5_100 : (Cond.methodLink RX5 100 yX2_clear) ∈ TW := tw_3 144 rfl rfl
theorem ki_X2_clear : (Cond.instanceMethod yX2_clear) ∈ TW := tw_3 145 rfl rfl
theorem kv_X2_clear : (Cond.selects RX2 yX2_clear yX2_clear) ∈ TW := tw_3 146 rfl rfl
theorem kc_X2_clear : (Cond.code yX2_clear cX2_clear (1 : Nat) (Option.none : Option Jvm.ClassFile.FieldType)) ∈ TW := tw_3 147 rfl rfl
theorem kk_X2_15 : ((Jvm.Cond.constant "RoundRows$MeasurePlan" (15 : Nat) (999999 : Int32))) ∈ TW := tw_3 148 rfl rfl
theorem km_X5_103 : (Cond.methodLink RX5 103 yX5_newName) ∈ TW := tw_3 149 rfl rfl
theorem ki_X5_newName : (Cond.instanceMethod yX5_newName) ∈ TW := tw_3 151 rfl rfl
theorem kc_X5_newName : (Cond.code yX5_newName cX5_newName (1 : Nat) (Option.some Jvm.ClassFile.FieldType.boolean)) ∈ TW := tw_3 152 rfl rfl
theorem km_X5_164 : (Cond.methodLink RX5 164 yX5_bearerHere) ∈ TW := tw_3 153 rfl rfl
theorem ki_X5_bearerHere : (Cond.instanceMethod yX5_bearerHere) ∈ TW := tw_3 155 rfl rfl
theorem kc_X5_bearerHere : (Cond.code yX5_bearerHere cX5_bearerHere (2 : Nat) (Option.some Jvm.ClassFile.FieldType.int)) ∈ TW := tw_3 156 rfl rfl
theorem km_X5_200 : (Cond.methodLink RX5 200 yX10_sameWord) ∈ TW := tw_3 157 rfl rfl
theorem ki_X10_sameWord : (Cond.instanceMethod yX10_sameWord) ∈ TW := tw_3 158 rfl rfl
theorem kv_X10_sameWord : (Cond.selects RX10 yX10_sameWord yX10_sameWord) ∈ TW := tw_3 159 rfl rfl
theorem kc_X10_sameWord : (Cond.code yX10_sameWord cX10_sameWord (5 : Nat) (Option.some Jvm.ClassFile.FieldType.boolean)) ∈ TW := tw_3 160 rfl rfl
theorem km_X5_106 : (Cond.methodLink RX5 106 yX5_sort) ∈ TW := tw_3 161 rfl rfl
theorem ki_X5_sort : (Cond.instanceMethod yX5_sort) ∈ TW := tw_3 163 rfl rfl
theorem kc_X5_sort : (Cond.code yX5_sort cX5_sort (2 : Nat) (Option.some Jvm.ClassFile.FieldType.boolean)) ∈ TW := tw_3 164 rfl rfl
theorem km_X5_110 : (Cond.methodLink RX5 110 yX5_widths) ∈ TW := tw_3 165 rfl rfl
theorem ki_X5_widths : (Cond.instanceMethod yX5_widths) ∈ TW := tw_3 167 rfl rfl
theorem kc_X5_widths : (Cond.code yX5_widths cX5_widths (2 : Nat) (Option.some Jvm.ClassFile.FieldType.boolean)) ∈ TW := tw_3 168 rfl rfl
theorem km_X5_113 : (Cond.methodLink RX5 113 yX5_silence) ∈ TW := tw_3 169 rfl rfl
theorem ki_X5_silence : (Cond.instanceMethod yX5_silence) ∈ TW := tw_3 171 rfl rfl
theorem kc_X5_silence : (Cond.code yX5_silence cX5_silence (2 : Nat) (Option.some Jvm.ClassFile.FieldType.boolean)) ∈ TW := tw_3 172 rfl rfl
theorem km_X5_116 : (Cond.methodLink RX5 116 yX5_bounds) ∈ TW := tw_3 173 rfl rfl
theorem ki_X5_bounds : (Cond.instanceMethod yX5_bounds) ∈ TW := tw_3 175 rfl rfl
theorem kc_X5_bounds : (Cond.code yX5_bounds cX5_bounds (2 : Nat) (Option.some Jvm.ClassFile.FieldType.boolean)) ∈ TW := tw_3 176 rfl rfl
theorem kk_X5_133 : ((Jvm.Cond.constant "RoundRows$Parser" (133 : Nat) (999999 : Int32))) ∈ TW := tw_3 177 rfl rfl
theorem km_X5_119 : (Cond.methodLink RX5 119 yX5_remember) ∈ TW := tw_3 178 rfl rfl
theorem ki_X5_remember : (Cond.instanceMethod yX5_remember) ∈ TW := tw_3 180 rfl rfl
theorem kc_X5_remember : (Cond.code yX5_remember cX5_remember (3 : Nat) (Option.none : Option Jvm.ClassFile.FieldType)) ∈ TW := tw_3 181 rfl rfl
theorem km_X5_62 : (Cond.methodLink RX5 62 yX5_archiveLine) ∈ TW := tw_3 182 rfl rfl
theorem ki_X5_archiveLine : (Cond.instanceMethod yX5_archiveLine) ∈ TW := tw_3 184 rfl rfl
theorem kc_X5_archiveLine : (Cond.code yX5_archiveLine cX5_archiveLine (2 : Nat) (Option.some Jvm.ClassFile.FieldType.boolean)) ∈ TW := tw_3 185 rfl rfl
theorem km_X5_147 : (Cond.methodLink RX5 147 yX5_howHere) ∈ TW := tw_3 186 rfl rfl
theorem ki_X5_howHere : (Cond.instanceMethod yX5_howHere) ∈ TW := tw_3 188 rfl rfl
theorem kc_X5_howHere : (Cond.code yX5_howHere cX5_howHere (1 : Nat) (Option.some Jvm.ClassFile.FieldType.int)) ∈ TW := tw_3 189 rfl rfl
theorem km_X5_65 : (Cond.methodLink RX5 65 yX5_forecastLine) ∈ TW := tw_3 190 rfl rfl
theorem ki_X5_forecastLine : (Cond.instanceMethod yX5_forecastLine) ∈ TW := tw_3 192 rfl rfl
theorem kc_X5_forecastLine : (Cond.code yX5_forecastLine cX5_forecastLine (2 : Nat) (Option.some Jvm.ClassFile.FieldType.boolean)) ∈ TW := tw_3 193 rfl rfl
theorem km_X5_170 : (Cond.methodLink RX5 170 yX5_forecastNumbers) ∈ TW := tw_3 194 rfl rfl
theorem ki_X5_forecastNumbers : (Cond.instanceMethod yX5_forecastNumbers) ∈ TW := tw_3 196 rfl rfl
theorem kc_X5_forecastNumbers : (Cond.code yX5_forecastNumbers cX5_forecastNumbers (2 : Nat) (Option.some Jvm.ClassFile.FieldType.boolean)) ∈ TW := tw_3 197 rfl rfl
theorem km_X5_68 : (Cond.methodLink RX5 68 yX5_showLine) ∈ TW := tw_3 198 rfl rfl
theorem ki_X5_showLine : (Cond.instanceMethod yX5_showLine) ∈ TW := tw_3 200 rfl rfl
theorem kc_X5_showLine : (Cond.code yX5_showLine cX5_showLine (2 : Nat) (Option.some Jvm.ClassFile.FieldType.boolean)) ∈ TW := tw_3 201 rfl rfl
theorem km_X5_194 : (Cond.methodLink RX5 194 yX5_formula) ∈ TW := tw_3 202 rfl rfl
theorem ki_X5_formula : (Cond.instanceMethod yX5_formula) ∈ TW := tw_3 204 rfl rfl
theorem kc_X5_formula : (Cond.code yX5_formula cX5_formula (5 : Nat) (Option.some Jvm.ClassFile.FieldType.boolean)) ∈ TW := tw_3 205 rfl rfl
theorem km_X5_207 : (Cond.methodLink RX5 207 yX5_unit) ∈ TW := tw_3 206 rfl rfl
theorem ki_X5_unit : (Cond.instanceMethod yX5_unit) ∈ TW := tw_3 208 rfl rfl
theorem kc_X5_unit : (Cond.code yX5_unit cX5_unit (5 : Nat) (Option.some Jvm.ClassFile.FieldType.boolean)) ∈ TW := tw_3 209 rfl rfl
theorem km_X5_217 : (Cond.methodLink RX5 217 yX5_await) ∈ TW := tw_3 210 rfl rfl
theorem ki_X5_await : (Cond.instanceMethod yX5_await) ∈ TW := tw_3 212 rfl rfl
theorem kc_X5_await : (Cond.code yX5_await cX5_await (2 : Nat) (Option.none : Option Jvm.ClassFile.FieldType)) ∈ TW := tw_3 213 rfl rfl
theorem km_X5_223 : (Cond.methodLink RX5 223 yX1_put) ∈ TW := tw_3 214 rfl rfl
theorem ki_X1_put : (Cond.instanceMethod yX1_put) ∈ TW := tw_3 215 rfl rfl
theorem kv_X1_put : (Cond.selects RX1 yX1_put yX1_put) ∈ TW := tw_3 216 rfl rfl
theorem kc_X1_put : (Cond.code yX1_put cX1_put (3 : Nat) (Option.none : Option Jvm.ClassFile.FieldType)) ∈ TW := tw_3 217 rfl rfl
theorem km_X5_210 : (Cond.methodLink RX5 210 yX5_rank) ∈ TW := tw_3 218 rfl rfl
theorem ks_X5_rank : (Cond.static yX5_rank) ∈ TW := tw_3 219 rfl rfl
theorem kc_X5_rank : (Cond.code yX5_rank cX5_rank (1 : Nat) (Option.some Jvm.ClassFile.FieldType.int)) ∈ TW := tw_3 220 rfl rfl
theorem km_X5_213 : (Cond.methodLink RX5 213 yX5_release) ∈ TW := tw_3 221 rfl rfl
theorem ki_X5_release : (Cond.instanceMethod yX5_release) ∈ TW := tw_3 223 rfl rfl
theorem kc_X5_release : (Cond.code yX5_release cX5_release (2 : Nat) (Option.none : Option Jvm.ClassFile.FieldType)) ∈ TW := tw_3 224 rfl rfl
theorem km_X5_197 : (Cond.methodLink RX5 197 yX1_endShow) ∈ TW := tw_3 225 rfl rfl
theorem ki_X1_endShow : (Cond.instanceMethod yX1_endShow) ∈ TW := tw_3 226 rfl rfl
theorem kv_X1_endShow : (Cond.selects RX1 yX1_endShow yX1_endShow) ∈ TW := tw_3 227 rfl rfl
theorem kc_X1_endShow : (Cond.code yX1_endShow cX1_endShow (1 : Nat) (Option.none : Option Jvm.ClassFile.FieldType)) ∈ TW := tw_3 228 rfl rfl
theorem km_X11_83 : (Cond.methodLink RX11 83 yX11_now) ∈ TW := tw_3 229 rfl rfl
theorem ki_X11_now : (Cond.instanceMethod yX11_now) ∈ TW := tw_3 231 rfl rfl
theorem kc_X11_now : (Cond.code yX11_now cX11_now (1 : Nat) (Option.some (Jvm.ClassFile.FieldType.object "RoundRows$State"))) ∈ TW := tw_3 232 rfl rfl
theorem km_X11_87 : (Cond.methodLink RX11 87 yX8_begin) ∈ TW := tw_3 233 rfl rfl
theorem ki_X8_begin : (Cond.instanceMethod yX8_begin) ∈ TW := tw_3 234 rfl rfl
theorem kv_X8_begin : (Cond.selects RX8 yX8_begin yX8_begin) ∈ TW := tw_3 235 rfl rfl
theorem kc_X8_begin : (Cond.code yX8_begin cX8_begin (3 : Nat) (Option.none : Option Jvm.ClassFile.FieldType)) ∈ TW := tw_3 236 rfl rfl
theorem km_X8_45 : (Cond.methodLink RX8 45 yX3_begin) ∈ TW := tw_3 237 rfl rfl
theorem ki_X3_begin : (Cond.instanceMethod yX3_begin) ∈ TW := tw_3 238 rfl rfl
theorem kv_X3_begin : (Cond.selects RX3 yX3_begin yX3_begin) ∈ TW := tw_3 239 rfl rfl
theorem kc_X3_begin : (Cond.code yX3_begin cX3_begin (2 : Nat) (Option.none : Option Jvm.ClassFile.FieldType)) ∈ TW := tw_4 0 rfl rfl
theorem km_X8_49 : (Cond.methodLink RX8 49 yX4_begin) ∈ TW := tw_4 1 rfl rfl
theorem ki_X4_begin : (Cond.instanceMethod yX4_begin) ∈ TW := tw_4 2 rfl rfl
theorem kv_X4_begin : (Cond.selects RX4 yX4_begin yX4_begin) ∈ TW := tw_4 3 rfl rfl
theorem kc_X4_begin : (Cond.code yX4_begin cX4_begin (2 : Nat) (Option.none : Option Jvm.ClassFile.FieldType)) ∈ TW := tw_4 4 rfl rfl
theorem km_X8_51 : (Cond.methodLink RX8 51 yX7_clearParts) ∈ TW := tw_4 5 rfl rfl
theorem ki_X7_clearParts : (Cond.instanceMethod yX7_clearParts) ∈ TW := tw_4 6 rfl rfl
theorem kv_X7_clearParts : (Cond.selects RX7 yX7_clearParts yX7_clearParts) ∈ TW := tw_4 7 rfl rfl
theorem kc_X7_clearParts : (Cond.code yX7_clearParts cX7_clearParts (2 : Nat) (Option.none : Option Jvm.ClassFile.FieldType)) ∈ TW := tw_4 8 rfl rfl
theorem km_X7_22 : (Cond.methodLink RX7 22 yX9_clear) ∈ TW := tw_4 9 rfl rfl
theorem ki_X9_clear : (Cond.instanceMethod yX9_clear) ∈ TW := tw_4 10 rfl rfl
theorem kv_X9_clear : (Cond.selects RX9 yX9_clear yX9_clear) ∈ TW := tw_4 11 rfl rfl
theorem kc_X9_clear : (Cond.code yX9_clear cX9_clear (1 : Nat) (Option.none : Option Jvm.ClassFile.FieldType)) ∈ TW := tw_4 12 rfl rfl
theorem km_X11_91 : (Cond.methodLink RX11 91 yX11_forgetActs) ∈ TW := tw_4 13 rfl rfl
theorem ki_X11_forgetActs : (Cond.instanceMethod yX11_forgetActs) ∈ TW := tw_4 15 rfl rfl
theorem kc_X11_forgetActs : (Cond.code yX11_forgetActs cX11_forgetActs (1 : Nat) (Option.none : Option Jvm.ClassFile.FieldType)) ∈ TW := tw_4 16 rfl rfl
theorem ka_arrayClass_4_17 : ((Jvm.Cond.arrayClass Jvm.ClassFile.FieldType.byte)) ∈ TW := tw_4 17 rfl rfl
theorem km_L_28 : (Cond.methodLink RL 28 yX11_fault) ∈ TW := tw_4 18 rfl rfl
theorem ki_X11_fault : (Cond.instanceMethod yX11_fault) ∈ TW := tw_4 19 rfl rfl
theorem kv_X11_fault : (Cond.selects RX11 yX11_fault yX11_fault) ∈ TW := tw_4 20 rfl rfl
theorem kc_X11_fault : (Cond.code yX11_fault cX11_fault (2 : Nat) (Option.some Jvm.ClassFile.FieldType.int)) ∈ TW := tw_4 21 rfl rfl
theorem km_L_32 : (Cond.methodLink RL 32 yX11_read) ∈ TW := tw_4 22 rfl rfl
theorem ki_X11_read : (Cond.instanceMethod yX11_read) ∈ TW := tw_4 23 rfl rfl
theorem kv_X11_read : (Cond.selects RX11 yX11_read yX11_read) ∈ TW := tw_4 24 rfl rfl
theorem kc_X11_read : (Cond.code yX11_read cX11_read (6 : Nat) (Option.some Jvm.ClassFile.FieldType.int)) ∈ TW := tw_4 25 rfl rfl
theorem km_X11_97 : (Cond.methodLink RX11 97 yX11_canPass) ∈ TW := tw_4 26 rfl rfl
theorem ki_X11_canPass : (Cond.instanceMethod yX11_canPass) ∈ TW := tw_4 28 rfl rfl
theorem kc_X11_canPass : (Cond.code yX11_canPass cX11_canPass (2 : Nat) (Option.some Jvm.ClassFile.FieldType.boolean)) ∈ TW := tw_4 29 rfl rfl
theorem kk_X11_149 : ((Jvm.Cond.constant "RoundRows" (149 : Nat) (100000 : Int32))) ∈ TW := tw_4 30 rfl rfl
theorem km_X11_101 : (Cond.methodLink RX11 101 yX11_newAct) ∈ TW := tw_4 31 rfl rfl
theorem ki_X11_newAct : (Cond.instanceMethod yX11_newAct) ∈ TW := tw_4 33 rfl rfl
theorem kc_X11_newAct : (Cond.code yX11_newAct cX11_newAct (2 : Nat) (Option.some (Jvm.ClassFile.FieldType.object "RoundRows$State"))) ∈ TW := tw_4 34 rfl rfl
theorem km_X11_137 : (Cond.methodLink RX11 137 yX8_copy) ∈ TW := tw_4 35 rfl rfl
theorem ki_X8_copy : (Cond.instanceMethod yX8_copy) ∈ TW := tw_4 36 rfl rfl
theorem kv_X8_copy : (Cond.selects RX8 yX8_copy yX8_copy) ∈ TW := tw_4 37 rfl rfl
theorem kc_X8_copy : (Cond.code yX8_copy cX8_copy (3 : Nat) (Option.none : Option Jvm.ClassFile.FieldType)) ∈ TW := tw_4 38 rfl rfl
theorem km_X8_54 : (Cond.methodLink RX8 54 yX3_copy) ∈ TW := tw_4 39 rfl rfl
theorem ki_X3_copy : (Cond.instanceMethod yX3_copy) ∈ TW := tw_4 40 rfl rfl
theorem kv_X3_copy : (Cond.selects RX3 yX3_copy yX3_copy) ∈ TW := tw_4 41 rfl rfl
theorem kc_X3_copy : (Cond.code yX3_copy cX3_copy (2 : Nat) (Option.none : Option Jvm.ClassFile.FieldType)) ∈ TW := tw_4 42 rfl rfl
theorem km_X8_58 : (Cond.methodLink RX8 58 yX4_copy) ∈ TW := tw_4 43 rfl rfl
theorem ki_X4_copy : (Cond.instanceMethod yX4_copy) ∈ TW := tw_4 44 rfl rfl
theorem kv_X4_copy : (Cond.selects RX4 yX4_copy yX4_copy) ∈ TW := tw_4 45 rfl rfl
theorem kc_X4_copy : (Cond.code yX4_copy cX4_copy (2 : Nat) (Option.none : Option Jvm.ClassFile.FieldType)) ∈ TW := tw_4 46 rfl rfl
theorem km_X4_39 : (Cond.methodLink RX4 39 ({ cls := "java/lang/System", name := "arraycopy", desc := "(Ljava/lang/Object;ILjava/lang/Object;II)V" } : Jvm.MethodName)) ∈ TW := tw_4 47 rfl rfl
theorem ks_o4_48 : ((Jvm.Cond.static ({ cls := "java/lang/System", name := "arraycopy", desc := "(Ljava/lang/Object;ILjava/lang/Object;II)V" } : Jvm.MethodName))) ∈ TW := tw_4 48 rfl rfl
theorem kN_o4_49 : ((Jvm.Cond.native ({ cls := "java/lang/System", name := "arraycopy", desc := "(Ljava/lang/Object;ILjava/lang/Object;II)V" } : Jvm.MethodName))) ∈ TW := tw_4 49 rfl rfl
theorem km_X8_61 : (Cond.methodLink RX8 61 yX7_copy) ∈ TW := tw_4 50 rfl rfl
theorem ki_X7_copy : (Cond.instanceMethod yX7_copy) ∈ TW := tw_4 51 rfl rfl
theorem kv_X7_copy : (Cond.selects RX7 yX7_copy yX7_copy) ∈ TW := tw_4 52 rfl rfl
theorem kc_X7_copy : (Cond.code yX7_copy cX7_copy (3 : Nat) (Option.none : Option Jvm.ClassFile.FieldType)) ∈ TW := tw_4 53 rfl rfl
theorem km_X7_25 : (Cond.methodLink RX7 25 ({ cls := "java/lang/System", name := "arraycopy", desc := "(Ljava/lang/Object;ILjava/lang/Object;II)V" } : Jvm.MethodName)) ∈ TW := tw_4 54 rfl rfl
theorem km_X7_31 : (Cond.methodLink RX7 31 yX9_copy) ∈ TW := tw_4 55 rfl rfl
theorem ki_X9_copy : (Cond.instanceMethod yX9_copy) ∈ TW := tw_4 56 rfl rfl
theorem kv_X9_copy : (Cond.selects RX9 yX9_copy yX9_copy) ∈ TW := tw_4 57 rfl rfl
theorem kc_X9_copy : (Cond.code yX9_copy cX9_copy (2 : Nat) (Option.none : Option Jvm.ClassFile.FieldType)) ∈ TW := tw_4 58 rfl rfl
theorem km_X11_144 : (Cond.methodLink RX11 144 yJ9_min_7cf53) ∈ TW := tw_4 59 rfl rfl
theorem ks_J9_min_7cf53 : (Cond.static yJ9_min_7cf53) ∈ TW := tw_4 60 rfl rfl
theorem kc_J9_min_7cf53 : (Cond.code yJ9_min_7cf53 cJ9_min_7cf53 (2 : Nat) (Option.some Jvm.ClassFile.FieldType.int)) ∈ TW := tw_4 61 rfl rfl
theorem km_X11_104 : (Cond.methodLink RX11 104 yX8_pass) ∈ TW := tw_4 62 rfl rfl
theorem ki_X8_pass : (Cond.instanceMethod yX8_pass) ∈ TW := tw_4 63 rfl rfl
theorem kv_X8_pass : (Cond.selects RX8 yX8_pass yX8_pass) ∈ TW := tw_4 64 rfl rfl
theorem kc_X8_pass : (Cond.code yX8_pass cX8_pass (9 : Nat) (Option.some Jvm.ClassFile.FieldType.int)) ∈ TW := tw_4 65 rfl rfl
theorem km_X8_67 : (Cond.methodLink RX8 67 yX3_hear) ∈ TW := tw_4 66 rfl rfl
theorem ki_X3_hear : (Cond.instanceMethod yX3_hear) ∈ TW := tw_4 67 rfl rfl
theorem kv_X3_hear : (Cond.selects RX3 yX3_hear yX3_hear) ∈ TW := tw_4 68 rfl rfl
theorem kc_X3_hear : (Cond.code yX3_hear cX3_hear (4 : Nat) (Option.none : Option Jvm.ClassFile.FieldType)) ∈ TW := tw_4 69 rfl rfl
theorem km_X3_52 : (Cond.methodLink RX3 52 yX3_rateBy) ∈ TW := tw_4 70 rfl rfl
theorem ki_X3_rateBy : (Cond.instanceMethod yX3_rateBy) ∈ TW := tw_4 71 rfl rfl
theorem kv_X3_rateBy : (Cond.selects RX3 yX3_rateBy yX3_rateBy) ∈ TW := tw_4 72 rfl rfl
theorem kc_X3_rateBy : (Cond.code yX3_rateBy cX3_rateBy (8 : Nat) (Option.some Jvm.ClassFile.FieldType.int)) ∈ TW := tw_4 73 rfl rfl
theorem km_X3_59 : (Cond.methodLink RX3 59 yX2_numberMost) ∈ TW := tw_4 74 rfl rfl
theorem ki_X2_numberMost : (Cond.instanceMethod yX2_numberMost) ∈ TW := tw_4 75 rfl rfl
theorem kv_X2_numberMost : (Cond.selects RX2 yX2_numberMost yX2_numberMost) ∈ TW := tw_4 76 rfl rfl
theorem kc_X2_numberMost : (Cond.code yX2_numberMost cX2_numberMost (1 : Nat) (Option.some Jvm.ClassFile.FieldType.int)) ∈ TW := tw_4 77 rfl rfl
theorem km_X2_28 : (Cond.methodLink RX2 28 yJ9_min_7cf53) ∈ TW := tw_4 78 rfl rfl
theorem km_X3_63 : (Cond.methodLink RX3 63 yX3_risen) ∈ TW := tw_4 79 rfl rfl
theorem ki_X3_risen : (Cond.instanceMethod yX3_risen) ∈ TW := tw_4 81 rfl rfl
theorem kc_X3_risen : (Cond.code yX3_risen cX3_risen (5 : Nat) (Option.some Jvm.ClassFile.FieldType.int)) ∈ TW := tw_4 82 rfl rfl
theorem kj_X3_67 : ((Jvm.Cond.constantLong "RoundRows$Meter" (67 : Nat) (1000 : Int64))) ∈ TW := tw_4 83 rfl rfl
theorem kx_X3_69 : (Cond.methodLinkNest RX3 69 yX11_quotient "RoundRows") ∈ lw_tbl := tl_4 84 rfl
theorem ks_X11_quotient : (Cond.static yX11_quotient) ∈ TW := tw_4 85 rfl rfl
theorem kc_X11_quotient : (Cond.code yX11_quotient cX11_quotient (4 : Nat) (Option.some Jvm.ClassFile.FieldType.long)) ∈ TW := tw_4 86 rfl rfl
theorem kx_X8_74 : (Cond.methodLinkNest RX8 74 yX11_remainder "RoundRows") ∈ lw_tbl := tl_4 87 rfl
theorem ks_X11_remainder : (Cond.static yX11_remainder) ∈ TW := tw_4 88 rfl rfl
theorem kc_X11_remainder : (Cond.code yX11_remainder cX11_remainder (2 : Nat) (Option.some Jvm.ClassFile.FieldType.int)) ∈ TW := tw_4 89 rfl rfl
theorem km_X8_78 : (Cond.methodLink RX8 78 yJ9_min_7cf53) ∈ TW := tw_4 90 rfl rfl
theorem km_X8_83 : (Cond.methodLink RX8 83 yX3_gather) ∈ TW := tw_4 91 rfl rfl
theorem ki_X3_gather : (Cond.instanceMethod yX3_gather) ∈ TW := tw_4 92 rfl rfl
theorem kv_X3_gather : (Cond.selects RX3 yX3_gather yX3_gather) ∈ TW := tw_4 93 rfl rfl
theorem kc_X3_gather : (Cond.code yX3_gather cX3_gather (2 : Nat) (Option.none : Option Jvm.ClassFile.FieldType)) ∈ TW := tw_4 94 rfl rfl
theorem kx_X8_87 : (Cond.methodLinkNest RX8 87 yX11_quotient_ "RoundRows") ∈ lw_tbl := tl_4 95 rfl
theorem ks_X11_quotient_ : (Cond.static yX11_quotient_) ∈ TW := tw_4 96 rfl rfl
theorem kc_X11_quotient_ : (Cond.code yX11_quotient_ cX11_quotient_ (2 : Nat) (Option.some Jvm.ClassFile.FieldType.int)) ∈ TW := tw_4 97 rfl rfl
theorem km_X8_90 : (Cond.methodLink RX8 90 yX8_endStep) ∈ TW := tw_4 98 rfl rfl
theorem ki_X8_endStep : (Cond.instanceMethod yX8_endStep) ∈ TW := tw_4 100 rfl rfl
theorem kc_X8_endStep : (Cond.code yX8_endStep cX8_endStep (8 : Nat) (Option.none : Option Jvm.ClassFile.FieldType)) ∈ TW := tw_4 101 rfl rfl
theorem km_X8_97 : (Cond.methodLink RX8 97 yX3_endStep) ∈ TW := tw_4 102 rfl rfl
theorem ki_X3_endStep : (Cond.instanceMethod yX3_endStep) ∈ TW := tw_4 103 rfl rfl
theorem kv_X3_endStep : (Cond.selects RX3 yX3_endStep yX3_endStep) ∈ TW := tw_4 104 rfl rfl
theorem kc_X3_endStep : (Cond.code yX3_endStep cX3_endStep (2 : Nat) (Option.none : Option Jvm.ClassFile.FieldType)) ∈ TW := tw_4 105 rfl rfl
theorem kx_X3_97 : (Cond.methodLinkNest RX3 97 yX11_valueOf "RoundRows") ∈ lw_tbl := tl_4 106 rfl
theorem ks_X11_valueOf : (Cond.static yX11_valueOf) ∈ TW := tw_4 107 rfl rfl
theorem kc_X11_valueOf : (Cond.code yX11_valueOf cX11_valueOf (4 : Nat) (Option.some Jvm.ClassFile.FieldType.int)) ∈ TW := tw_4 108 rfl rfl
theorem kk_X11_177 : ((Jvm.Cond.constant "RoundRows" (177 : Nat) (-2147483648 : Int32))) ∈ TW := tw_4 109 rfl rfl
theorem km_X11_292 : (Cond.methodLink RX11 292 yX11_quotient) ∈ TW := tw_4 110 rfl rfl
theorem km_X3_89 : (Cond.methodLink RX3 89 yJ9_max_7cf53) ∈ TW := tw_4 111 rfl rfl
theorem ks_J9_max_7cf53 : (Cond.static yJ9_max_7cf53) ∈ TW := tw_4 112 rfl rfl
theorem kc_J9_max_7cf53 : (Cond.code yJ9_max_7cf53 cJ9_max_7cf53 (2 : Nat) (Option.some Jvm.ClassFile.FieldType.int)) ∈ TW := tw_4 113 rfl rfl
theorem km_X3_101 : (Cond.methodLink RX3 101 yJ9_min_7cf53) ∈ TW := tw_4 114 rfl rfl
theorem km_X8_109 : (Cond.methodLink RX8 109 yX9_add) ∈ TW := tw_4 115 rfl rfl
theorem ki_X9_add : (Cond.instanceMethod yX9_add) ∈ TW := tw_4 116 rfl rfl
theorem kv_X9_add : (Cond.selects RX9 yX9_add yX9_add) ∈ TW := tw_4 117 rfl rfl
theorem kc_X9_add : (Cond.code yX9_add cX9_add (3 : Nat) (Option.none : Option Jvm.ClassFile.FieldType)) ∈ TW := tw_4 118 rfl rfl
theorem km_X9_32 : (Cond.methodLink RX9 32 yJ9_max_7cf53) ∈ TW := tw_4 119 rfl rfl
theorem km_X9_38 : (Cond.methodLink RX9 38 yJ9_min_7cf53) ∈ TW := tw_4 120 rfl rfl
theorem km_X8_120 : (Cond.methodLink RX8 120 yX4_follow) ∈ TW := tw_4 121 rfl rfl
theorem ki_X4_follow : (Cond.instanceMethod yX4_follow) ∈ TW := tw_4 122 rfl rfl
theorem kv_X4_follow : (Cond.selects RX4 yX4_follow yX4_follow) ∈ TW := tw_4 123 rfl rfl
theorem kc_X4_follow : (Cond.code yX4_follow cX4_follow (8 : Nat) (Option.none : Option Jvm.ClassFile.FieldType)) ∈ TW := tw_4 124 rfl rfl
theorem kk_X4_45 : ((Jvm.Cond.constant "RoundRows$Outlook" (45 : Nat) (-2147483648 : Int32))) ∈ TW := tw_4 125 rfl rfl
theorem km_X4_46 : (Cond.methodLink RX4 46 yX4_tellAhead) ∈ TW := tw_4 126 rfl rfl
theorem ki_X4_tellAhead : (Cond.instanceMethod yX4_tellAhead) ∈ TW := tw_4 127 rfl rfl
theorem kv_X4_tellAhead : (Cond.selects RX4 yX4_tellAhead yX4_tellAhead) ∈ TW := tw_4 128 rfl rfl
theorem kc_X4_tellAhead : (Cond.code yX4_tellAhead cX4_tellAhead (5 : Nat) (Option.some Jvm.ClassFile.FieldType.int)) ∈ TW := tw_4 129 rfl rfl
theorem kx_X4_54 : (Cond.methodLinkNest RX4 54 yX11_held "RoundRows") ∈ lw_tbl := tl_4 130 rfl
theorem ks_X11_held : (Cond.static yX11_held) ∈ TW := tw_4 131 rfl rfl
theorem kc_X11_held : (Cond.code yX11_held cX11_held (2 : Nat) (Option.some Jvm.ClassFile.FieldType.int)) ∈ TW := tw_4 132 rfl rfl
theorem kj_X11_395 : ((Jvm.Cond.constantLong "RoundRows" (395 : Nat) (2000000000 : Int64))) ∈ TW := tw_4 133 rfl rfl
theorem kk_X11_274 : ((Jvm.Cond.constant "RoundRows" (274 : Nat) (2000000000 : Int32))) ∈ TW := tw_4 134 rfl rfl
theorem kj_X11_397 : ((Jvm.Cond.constantLong "RoundRows" (397 : Nat) (-2000000000 : Int64))) ∈ TW := tw_4 135 rfl rfl
theorem kk_X11_399 : ((Jvm.Cond.constant "RoundRows" (399 : Nat) (-2000000000 : Int32))) ∈ TW := tw_4 136 rfl rfl
theorem km_X4_50 : (Cond.methodLink RX4 50 yX4_keep) ∈ TW := tw_4 137 rfl rfl
theorem ki_X4_keep : (Cond.instanceMethod yX4_keep) ∈ TW := tw_4 139 rfl rfl
theorem kc_X4_keep : (Cond.code yX4_keep cX4_keep (4 : Nat) (Option.none : Option Jvm.ClassFile.FieldType)) ∈ TW := tw_4 140 rfl rfl
theorem km_X4_58 : (Cond.methodLink RX4 58 yJ9_abs_067f4) ∈ TW := tw_4 141 rfl rfl
theorem ks_J9_abs_067f4 : (Cond.static yJ9_abs_067f4) ∈ TW := tw_4 142 rfl rfl
theorem kc_J9_abs_067f4 : (Cond.code yJ9_abs_067f4 cJ9_abs_067f4 (2 : Nat) (Option.some Jvm.ClassFile.FieldType.long)) ∈ TW := tw_4 143 rfl rfl
theorem km_X4_72 : (Cond.methodLink RX4 72 yX4_mixed) ∈ TW := tw_4 144 rfl rfl
theorem ks_X4_mixed : (Cond.static yX4_mixed) ∈ TW := tw_4 145 rfl rfl
theorem kc_X4_mixed : (Cond.code yX4_mixed cX4_mixed (5 : Nat) (Option.some Jvm.ClassFile.FieldType.int)) ∈ TW := tw_4 146 rfl rfl
theorem kj_X4_82 : ((Jvm.Cond.constantLong "RoundRows$Outlook" (82 : Nat) (16 : Int64))) ∈ TW := tw_4 147 rfl rfl
theorem km_X8_132 : (Cond.methodLink RX8 132 yX7_endRow) ∈ TW := tw_4 148 rfl rfl
theorem ki_X7_endRow : (Cond.instanceMethod yX7_endRow) ∈ TW := tw_4 149 rfl rfl
theorem kv_X7_endRow : (Cond.selects RX7 yX7_endRow yX7_endRow) ∈ TW := tw_4 150 rfl rfl
theorem kc_X7_endRow : (Cond.code yX7_endRow cX7_endRow (5 : Nat) (Option.none : Option Jvm.ClassFile.FieldType)) ∈ TW := tw_4 151 rfl rfl
theorem km_X7_51 : (Cond.methodLink RX7 51 yX9_by) ∈ TW := tw_4 152 rfl rfl
theorem ki_X9_by : (Cond.instanceMethod yX9_by) ∈ TW := tw_4 153 rfl rfl
theorem kv_X9_by : (Cond.selects RX9 yX9_by yX9_by) ∈ TW := tw_4 154 rfl rfl
theorem kc_X9_by : (Cond.code yX9_by cX9_by (2 : Nat) (Option.some Jvm.ClassFile.FieldType.int)) ∈ TW := tw_4 155 rfl rfl
theorem km_X9_41 : (Cond.methodLink RX9 41 yX9_mean) ∈ TW := tw_4 156 rfl rfl
theorem ki_X9_mean : (Cond.instanceMethod yX9_mean) ∈ TW := tw_4 157 rfl rfl
theorem kv_X9_mean : (Cond.selects RX9 yX9_mean yX9_mean) ∈ TW := tw_4 158 rfl rfl
theorem kc_X9_mean : (Cond.code yX9_mean cX9_mean (1 : Nat) (Option.some Jvm.ClassFile.FieldType.int)) ∈ TW := tw_4 159 rfl rfl
theorem kk_X7_35 : ((Jvm.Cond.constant "RoundRows$Ring" (35 : Nat) (-2147483648 : Int32))) ∈ TW := tw_4 160 rfl rfl
theorem km_X7_55 : (Cond.methodLink RX7 55 yX7_clearParts) ∈ TW := tw_4 161 rfl rfl
theorem km_L_36 : (Cond.methodLink RL 36 yX11_turn) ∈ TW := tw_4 162 rfl rfl
theorem ki_X11_turn : (Cond.instanceMethod yX11_turn) ∈ TW := tw_4 163 rfl rfl
theorem kv_X11_turn : (Cond.selects RX11 yX11_turn yX11_turn) ∈ TW := tw_4 164 rfl rfl
theorem kc_X11_turn : (Cond.code yX11_turn cX11_turn (4 : Nat) (Option.some Jvm.ClassFile.FieldType.int)) ∈ TW := tw_4 165 rfl rfl
theorem km_X11_108 : (Cond.methodLink RX11 108 yX11_isMeasure) ∈ TW := tw_4 166 rfl rfl
theorem ki_X11_isMeasure : (Cond.instanceMethod yX11_isMeasure) ∈ TW := tw_4 168 rfl rfl
theorem kc_X11_isMeasure : (Cond.code yX11_isMeasure cX11_isMeasure (2 : Nat) (Option.some Jvm.ClassFile.FieldType.boolean)) ∈ TW := tw_4 169 rfl rfl
theorem km_X11_115 : (Cond.methodLink RX11 115 yX3_canTurn) ∈ TW := tw_4 170 rfl rfl
theorem ki_X3_canTurn : (Cond.instanceMethod yX3_canTurn) ∈ TW := tw_4 171 rfl rfl
theorem kv_X3_canTurn : (Cond.selects RX3 yX3_canTurn yX3_canTurn) ∈ TW := tw_4 172 rfl rfl
theorem kc_X3_canTurn : (Cond.code yX3_canTurn cX3_canTurn (3 : Nat) (Option.some Jvm.ClassFile.FieldType.boolean)) ∈ TW := tw_4 173 rfl rfl
theorem kk_X3_51 : ((Jvm.Cond.constant "RoundRows$Meter" (51 : Nat) (999999 : Int32))) ∈ TW := tw_4 174 rfl rfl
theorem km_X11_121 : (Cond.methodLink RX11 121 yX3_bound) ∈ TW := tw_4 175 rfl rfl
theorem ki_X3_bound : (Cond.instanceMethod yX3_bound) ∈ TW := tw_4 176 rfl rfl
theorem kv_X3_bound : (Cond.selects RX3 yX3_bound yX3_bound) ∈ TW := tw_4 177 rfl rfl
theorem kc_X3_bound : (Cond.code yX3_bound cX3_bound (4 : Nat) (Option.some Jvm.ClassFile.FieldType.int)) ∈ TW := tw_4 178 rfl rfl
theorem km_L_41 : (Cond.methodLink RL 41 yX11_undo) ∈ TW := tw_4 179 rfl rfl
theorem ki_X11_undo : (Cond.instanceMethod yX11_undo) ∈ TW := tw_4 180 rfl rfl
theorem kv_X11_undo : (Cond.selects RX11 yX11_undo yX11_undo) ∈ TW := tw_4 181 rfl rfl
theorem kc_X11_undo : (Cond.code yX11_undo cX11_undo (1 : Nat) (Option.some Jvm.ClassFile.FieldType.boolean)) ∈ TW := tw_4 182 rfl rfl
theorem km_L_46 : (Cond.methodLink RL 46 yX11_redo) ∈ TW := tw_4 183 rfl rfl
theorem ki_X11_redo : (Cond.instanceMethod yX11_redo) ∈ TW := tw_4 184 rfl rfl
theorem kv_X11_redo : (Cond.selects RX11 yX11_redo yX11_redo) ∈ TW := tw_4 185 rfl rfl
theorem kc_X11_redo : (Cond.code yX11_redo cX11_redo (1 : Nat) (Option.some Jvm.ClassFile.FieldType.boolean)) ∈ TW := tw_4 186 rfl rfl
theorem km_L_157 : (Cond.methodLink RL 157 yX11_image) ∈ TW := tw_4 187 rfl rfl
theorem ki_X11_image : (Cond.instanceMethod yX11_image) ∈ TW := tw_4 188 rfl rfl
theorem kv_X11_image : (Cond.selects RX11 yX11_image yX11_image) ∈ TW := tw_4 189 rfl rfl
theorem kc_X11_image : (Cond.code yX11_image cX11_image (2 : Nat) (Option.some Jvm.ClassFile.FieldType.int)) ∈ TW := tw_4 190 rfl rfl
theorem km_X11_134 : (Cond.methodLink RX11 134 yX11_isBox) ∈ TW := tw_4 191 rfl rfl
theorem ki_X11_isBox : (Cond.instanceMethod yX11_isBox) ∈ TW := tw_4 193 rfl rfl
theorem kc_X11_isBox : (Cond.code yX11_isBox cX11_isBox (2 : Nat) (Option.some Jvm.ClassFile.FieldType.boolean)) ∈ TW := tw_4 194 rfl rfl
theorem km_L_161 : (Cond.methodLink RL 161 yX11_back) ∈ TW := tw_4 195 rfl rfl
theorem ki_X11_back : (Cond.instanceMethod yX11_back) ∈ TW := tw_4 196 rfl rfl
theorem kv_X11_back : (Cond.selects RX11 yX11_back yX11_back) ∈ TW := tw_4 197 rfl rfl
theorem kc_X11_back : (Cond.code yX11_back cX11_back (2 : Nat) (Option.some Jvm.ClassFile.FieldType.int)) ∈ TW := tw_4 198 rfl rfl
theorem km_L_50 : (Cond.methodLink RL 50 yX11_measure) ∈ TW := tw_4 199 rfl rfl
theorem ki_X11_measure : (Cond.instanceMethod yX11_measure) ∈ TW := tw_4 200 rfl rfl
theorem kv_X11_measure : (Cond.selects RX11 yX11_measure yX11_measure) ∈ TW := tw_4 201 rfl rfl
theorem kc_X11_measure : (Cond.code yX11_measure cX11_measure (4 : Nat) (Option.some Jvm.ClassFile.FieldType.int)) ∈ TW := tw_4 202 rfl rfl
theorem km_L_55 : (Cond.methodLink RL 55 yX11_rate) ∈ TW := tw_4 203 rfl rfl
theorem ki_X11_rate : (Cond.instanceMethod yX11_rate) ∈ TW := tw_4 204 rfl rfl
theorem kv_X11_rate : (Cond.selects RX11 yX11_rate yX11_rate) ∈ TW := tw_4 205 rfl rfl
theorem kc_X11_rate : (Cond.code yX11_rate cX11_rate (2 : Nat) (Option.some Jvm.ClassFile.FieldType.int)) ∈ TW := tw_4 206 rfl rfl
theorem km_L_59 : (Cond.methodLink RL 59 yX11_value) ∈ TW := tw_4 207 rfl rfl
theorem ki_X11_value : (Cond.instanceMethod yX11_value) ∈ TW := tw_4 208 rfl rfl
theorem kv_X11_value : (Cond.selects RX11 yX11_value yX11_value) ∈ TW := tw_4 209 rfl rfl
theorem kc_X11_value : (Cond.code yX11_value cX11_value (2 : Nat) (Option.some Jvm.ClassFile.FieldType.int)) ∈ TW := tw_4 210 rfl rfl
theorem km_L_145 : (Cond.methodLink RL 145 yX11_would) ∈ TW := tw_4 211 rfl rfl
theorem ki_X11_would : (Cond.instanceMethod yX11_would) ∈ TW := tw_4 212 rfl rfl
theorem kv_X11_would : (Cond.selects RX11 yX11_would yX11_would) ∈ TW := tw_4 213 rfl rfl
theorem kc_X11_would : (Cond.code yX11_would cX11_would (6 : Nat) (Option.some Jvm.ClassFile.FieldType.int)) ∈ TW := tw_4 214 rfl rfl
theorem km_X11_181 : (Cond.methodLink RX11 181 yX3_rateBy) ∈ TW := tw_4 215 rfl rfl
theorem km_X11_185 : (Cond.methodLink RX11 185 yX11_valueBy) ∈ TW := tw_4 216 rfl rfl
theorem ki_X11_valueBy : (Cond.instanceMethod yX11_valueBy) ∈ TW := tw_4 218 rfl rfl
theorem kc_X11_valueBy : (Cond.code yX11_valueBy cX11_valueBy (7 : Nat) (Option.some Jvm.ClassFile.FieldType.int)) ∈ TW := tw_4 219 rfl rfl
theorem km_X11_189 : (Cond.methodLink RX11 189 yX11_stepsBy) ∈ TW := tw_4 220 rfl rfl
theorem ki_X11_stepsBy : (Cond.instanceMethod yX11_stepsBy) ∈ TW := tw_4 222 rfl rfl
theorem kc_X11_stepsBy : (Cond.code yX11_stepsBy cX11_stepsBy (2 : Nat) (Option.some Jvm.ClassFile.FieldType.int)) ∈ TW := tw_4 223 rfl rfl
theorem km_X11_200 : (Cond.methodLink RX11 200 yX11_quotient_) ∈ TW := tw_4 224 rfl rfl
theorem km_X11_203 : (Cond.methodLink RX11 203 yX11_stepsOver) ∈ TW := tw_4 225 rfl rfl
theorem ki_X11_stepsOver : (Cond.instanceMethod yX11_stepsOver) ∈ TW := tw_4 227 rfl rfl
theorem kc_X11_stepsOver : (Cond.code yX11_stepsOver cX11_stepsOver (1 : Nat) (Option.some Jvm.ClassFile.FieldType.int)) ∈ TW := tw_4 228 rfl rfl
theorem km_X11_211 : (Cond.methodLink RX11 211 yX11_valueOf) ∈ TW := tw_4 229 rfl rfl
theorem km_X11_215 : (Cond.methodLink RX11 215 yX11_remainder) ∈ TW := tw_4 230 rfl rfl
theorem km_L_149 : (Cond.methodLink RL 149 yX11_fits) ∈ TW := tw_4 231 rfl rfl
theorem ki_X11_fits : (Cond.instanceMethod yX11_fits) ∈ TW := tw_4 232 rfl rfl
theorem kv_X11_fits : (Cond.selects RX11 yX11_fits yX11_fits) ∈ TW := tw_4 233 rfl rfl
theorem kc_X11_fits : (Cond.code yX11_fits cX11_fits (3 : Nat) (Option.some Jvm.ClassFile.FieldType.int)) ∈ TW := tw_4 234 rfl rfl
theorem km_X11_193 : (Cond.methodLink RX11 193 yX3_leastFit) ∈ TW := tw_4 235 rfl rfl
theorem ki_X3_leastFit : (Cond.instanceMethod yX3_leastFit) ∈ TW := tw_4 236 rfl rfl
theorem kv_X3_leastFit : (Cond.selects RX3 yX3_leastFit yX3_leastFit) ∈ TW := tw_4 237 rfl rfl
theorem kc_X3_leastFit : (Cond.code yX3_leastFit cX3_leastFit (5 : Nat) (Option.some Jvm.ClassFile.FieldType.int)) ∈ TW := tw_4 238 rfl rfl
theorem kj_X3_79 : ((Jvm.Cond.constantLong "RoundRows$Meter" (79 : Nat) (999999 : Int64))) ∈ TW := tw_4 239 rfl rfl
theorem km_X3_81 : (Cond.methodLink RX3 81 yX3_leastCount) ∈ TW := tw_5 0 rfl rfl
theorem ki_X3_leastCount : (Cond.instanceMethod yX3_leastCount) ∈ TW := tw_5 2 rfl rfl
theorem kc_X3_leastCount : (Cond.code yX3_leastCount cX3_leastCount (10 : Nat) (Option.some Jvm.ClassFile.FieldType.int)) ∈ TW := tw_5 3 rfl rfl
theorem km_X3_85 : (Cond.methodLink RX3 85 yX3_leastWithin) ∈ TW := tw_5 4 rfl rfl
theorem ks_X3_leastWithin : (Cond.static yX3_leastWithin) ∈ TW := tw_5 5 rfl rfl
theorem kc_X3_leastWithin : (Cond.code yX3_leastWithin cX3_leastWithin (9 : Nat) (Option.some Jvm.ClassFile.FieldType.int)) ∈ TW := tw_5 6 rfl rfl
theorem km_X3_95 : (Cond.methodLink RX3 95 yJ9_max_f86c9) ∈ TW := tw_5 7 rfl rfl
theorem ks_J9_max_f86c9 : (Cond.static yJ9_max_f86c9) ∈ TW := tw_5 8 rfl rfl
theorem kc_J9_max_f86c9 : (Cond.code yJ9_max_f86c9 cJ9_max_f86c9 (4 : Nat) (Option.some Jvm.ClassFile.FieldType.long)) ∈ TW := tw_5 9 rfl rfl
theorem km_L_63 : (Cond.methodLink RL 63 yX11_archive) ∈ TW := tw_5 10 rfl rfl
theorem ki_X11_archive : (Cond.instanceMethod yX11_archive) ∈ TW := tw_5 11 rfl rfl
theorem kv_X11_archive : (Cond.selects RX11 yX11_archive yX11_archive) ∈ TW := tw_5 12 rfl rfl
theorem kc_X11_archive : (Cond.code yX11_archive cX11_archive (4 : Nat) (Option.some Jvm.ClassFile.FieldType.int)) ∈ TW := tw_5 13 rfl rfl
theorem km_X11_218 : (Cond.methodLink RX11 218 yX11_isArchive) ∈ TW := tw_5 14 rfl rfl
theorem ki_X11_isArchive : (Cond.instanceMethod yX11_isArchive) ∈ TW := tw_5 16 rfl rfl
theorem kc_X11_isArchive : (Cond.code yX11_isArchive cX11_isArchive (2 : Nat) (Option.some Jvm.ClassFile.FieldType.boolean)) ∈ TW := tw_5 17 rfl rfl
theorem km_X11_239 : (Cond.methodLink RX11 239 yX11_keptRows) ∈ TW := tw_5 18 rfl rfl
theorem ki_X11_keptRows : (Cond.instanceMethod yX11_keptRows) ∈ TW := tw_5 20 rfl rfl
theorem kc_X11_keptRows : (Cond.code yX11_keptRows cX11_keptRows (2 : Nat) (Option.some Jvm.ClassFile.FieldType.int)) ∈ TW := tw_5 21 rfl rfl
theorem km_X11_315 : (Cond.methodLink RX11 315 yX11_rowsDone) ∈ TW := tw_5 22 rfl rfl
theorem ki_X11_rowsDone : (Cond.instanceMethod yX11_rowsDone) ∈ TW := tw_5 24 rfl rfl
theorem kc_X11_rowsDone : (Cond.code yX11_rowsDone cX11_rowsDone (2 : Nat) (Option.some Jvm.ClassFile.FieldType.int)) ∈ TW := tw_5 25 rfl rfl
theorem km_X11_268 : (Cond.methodLink RX11 268 yX11_rowUnits) ∈ TW := tw_5 26 rfl rfl
theorem ki_X11_rowUnits : (Cond.instanceMethod yX11_rowUnits) ∈ TW := tw_5 28 rfl rfl
theorem kc_X11_rowUnits : (Cond.code yX11_rowUnits cX11_rowUnits (2 : Nat) (Option.some Jvm.ClassFile.FieldType.int)) ∈ TW := tw_5 29 rfl rfl
theorem km_X11_242 : (Cond.methodLink RX11 242 yX11_rowEnd) ∈ TW := tw_5 30 rfl rfl
theorem ki_X11_rowEnd : (Cond.instanceMethod yX11_rowEnd) ∈ TW := tw_5 32 rfl rfl
theorem kc_X11_rowEnd : (Cond.code yX11_rowEnd cX11_rowEnd (3 : Nat) (Option.some Jvm.ClassFile.FieldType.int)) ∈ TW := tw_5 33 rfl rfl
theorem km_L_67 : (Cond.methodLink RL 67 yX11_row) ∈ TW := tw_5 34 rfl rfl
theorem ki_X11_row : (Cond.instanceMethod yX11_row) ∈ TW := tw_5 35 rfl rfl
theorem kv_X11_row : (Cond.selects RX11 yX11_row yX11_row) ∈ TW := tw_5 36 rfl rfl
theorem kc_X11_row : (Cond.code yX11_row cX11_row (4 : Nat) (Option.some Jvm.ClassFile.FieldType.int)) ∈ TW := tw_5 37 rfl rfl
theorem km_X11_245 : (Cond.methodLink RX11 245 yX11_hasRows) ∈ TW := tw_5 38 rfl rfl
theorem ki_X11_hasRows : (Cond.instanceMethod yX11_hasRows) ∈ TW := tw_5 40 rfl rfl
theorem kc_X11_hasRows : (Cond.code yX11_hasRows cX11_hasRows (3 : Nat) (Option.some Jvm.ClassFile.FieldType.boolean)) ∈ TW := tw_5 41 rfl rfl
theorem km_X11_248 : (Cond.methodLink RX11 248 yX11_rowTold) ∈ TW := tw_5 42 rfl rfl
theorem ki_X11_rowTold : (Cond.instanceMethod yX11_rowTold) ∈ TW := tw_5 44 rfl rfl
theorem kc_X11_rowTold : (Cond.code yX11_rowTold cX11_rowTold (4 : Nat) (Option.some Jvm.ClassFile.FieldType.int)) ∈ TW := tw_5 45 rfl rfl
theorem km_X11_318 : (Cond.methodLink RX11 318 yX7_rowOf) ∈ TW := tw_5 46 rfl rfl
theorem ki_X7_rowOf : (Cond.instanceMethod yX7_rowOf) ∈ TW := tw_5 47 rfl rfl
theorem kv_X7_rowOf : (Cond.selects RX7 yX7_rowOf yX7_rowOf) ∈ TW := tw_5 48 rfl rfl
theorem kc_X7_rowOf : (Cond.code yX7_rowOf cX7_rowOf (4 : Nat) (Option.some Jvm.ClassFile.FieldType.int)) ∈ TW := tw_5 49 rfl rfl
theorem km_L_71 : (Cond.methodLink RL 71 yX11_rowAt) ∈ TW := tw_5 50 rfl rfl
theorem ki_X11_rowAt : (Cond.instanceMethod yX11_rowAt) ∈ TW := tw_5 51 rfl rfl
theorem kv_X11_rowAt : (Cond.selects RX11 yX11_rowAt yX11_rowAt) ∈ TW := tw_5 52 rfl rfl
theorem kc_X11_rowAt : (Cond.code yX11_rowAt cX11_rowAt (5 : Nat) (Option.some Jvm.ClassFile.FieldType.int)) ∈ TW := tw_5 53 rfl rfl
theorem km_X11_251 : (Cond.methodLink RX11 251 yX11_rowBegin) ∈ TW := tw_5 54 rfl rfl
theorem ki_X11_rowBegin : (Cond.instanceMethod yX11_rowBegin) ∈ TW := tw_5 56 rfl rfl
theorem kc_X11_rowBegin : (Cond.code yX11_rowBegin cX11_rowBegin (3 : Nat) (Option.some Jvm.ClassFile.FieldType.int)) ∈ TW := tw_5 57 rfl rfl
theorem km_L_75 : (Cond.methodLink RL 75 yX11_over) ∈ TW := tw_5 58 rfl rfl
theorem ki_X11_over : (Cond.instanceMethod yX11_over) ∈ TW := tw_5 59 rfl rfl
theorem kv_X11_over : (Cond.selects RX11 yX11_over yX11_over) ∈ TW := tw_5 60 rfl rfl
theorem kc_X11_over : (Cond.code yX11_over cX11_over (7 : Nat) (Option.some Jvm.ClassFile.FieldType.int)) ∈ TW := tw_5 61 rfl rfl
theorem km_X11_254 : (Cond.methodLink RX11 254 yX11_tallyWithin) ∈ TW := tw_5 62 rfl rfl
theorem ki_X11_tallyWithin : (Cond.instanceMethod yX11_tallyWithin) ∈ TW := tw_5 64 rfl rfl
theorem kc_X11_tallyWithin : (Cond.code yX11_tallyWithin cX11_tallyWithin (8 : Nat) (Option.some Jvm.ClassFile.FieldType.int)) ∈ TW := tw_5 65 rfl rfl
theorem km_X11_278 : (Cond.methodLink RX11 278 yX9_clear) ∈ TW := tw_5 66 rfl rfl
theorem km_X11_281 : (Cond.methodLink RX11 281 yX9_add) ∈ TW := tw_5 67 rfl rfl
theorem km_X11_261 : (Cond.methodLink RX11 261 yX9_mean) ∈ TW := tw_5 68 rfl rfl
theorem km_L_100 : (Cond.methodLink RL 100 yX11_total) ∈ TW := tw_5 69 rfl rfl
theorem ki_X11_total : (Cond.instanceMethod yX11_total) ∈ TW := tw_5 70 rfl rfl
theorem kv_X11_total : (Cond.selects RX11 yX11_total yX11_total) ∈ TW := tw_5 71 rfl rfl
theorem kc_X11_total : (Cond.code yX11_total cX11_total (5 : Nat) (Option.some Jvm.ClassFile.FieldType.long)) ∈ TW := tw_5 72 rfl rfl
theorem kj_X11_272 : ((Jvm.Cond.constantLong "RoundRows" (272 : Nat) (1000 : Int64))) ∈ TW := tw_5 73 rfl rfl
theorem km_L_79 : (Cond.methodLink RL 79 yX11_share) ∈ TW := tw_5 74 rfl rfl
theorem ki_X11_share : (Cond.instanceMethod yX11_share) ∈ TW := tw_5 75 rfl rfl
theorem kv_X11_share : (Cond.selects RX11 yX11_share yX11_share) ∈ TW := tw_5 76 rfl rfl
theorem kc_X11_share : (Cond.code yX11_share cX11_share (10 : Nat) (Option.some Jvm.ClassFile.FieldType.int)) ∈ TW := tw_5 77 rfl rfl
theorem km_X11_275 : (Cond.methodLink RX11 275 yX11_rowsUpTo) ∈ TW := tw_5 78 rfl rfl
theorem ki_X11_rowsUpTo : (Cond.instanceMethod yX11_rowsUpTo) ∈ TW := tw_5 80 rfl rfl
theorem kc_X11_rowsUpTo : (Cond.code yX11_rowsUpTo cX11_rowsUpTo (8 : Nat) (Option.some Jvm.ClassFile.FieldType.int)) ∈ TW := tw_5 81 rfl rfl
theorem km_L_83 : (Cond.methodLink RL 83 yX11_smooth) ∈ TW := tw_5 82 rfl rfl
theorem ki_X11_smooth : (Cond.instanceMethod yX11_smooth) ∈ TW := tw_5 83 rfl rfl
theorem kv_X11_smooth : (Cond.selects RX11 yX11_smooth yX11_smooth) ∈ TW := tw_5 84 rfl rfl
theorem kc_X11_smooth : (Cond.code yX11_smooth cX11_smooth (6 : Nat) (Option.some Jvm.ClassFile.FieldType.int)) ∈ TW := tw_5 85 rfl rfl
theorem km_L_88 : (Cond.methodLink RL 88 yX11_alike) ∈ TW := tw_5 86 rfl rfl
theorem ki_X11_alike : (Cond.instanceMethod yX11_alike) ∈ TW := tw_5 87 rfl rfl
theorem kv_X11_alike : (Cond.selects RX11 yX11_alike yX11_alike) ∈ TW := tw_5 88 rfl rfl
theorem kc_X11_alike : (Cond.code yX11_alike cX11_alike (8 : Nat) (Option.some Jvm.ClassFile.FieldType.int)) ∈ TW := tw_5 89 rfl rfl
theorem km_X11_285 : (Cond.methodLink RX11 285 yX11_wayOf) ∈ TW := tw_5 90 rfl rfl
theorem ki_X11_wayOf : (Cond.instanceMethod yX11_wayOf) ∈ TW := tw_5 92 rfl rfl
theorem kc_X11_wayOf : (Cond.code yX11_wayOf cX11_wayOf (6 : Nat) (Option.some Jvm.ClassFile.FieldType.int)) ∈ TW := tw_5 93 rfl rfl
theorem km_L_92 : (Cond.methodLink RL 92 yX11_left) ∈ TW := tw_5 94 rfl rfl
theorem ki_X11_left : (Cond.instanceMethod yX11_left) ∈ TW := tw_5 95 rfl rfl
theorem kv_X11_left : (Cond.selects RX11 yX11_left yX11_left) ∈ TW := tw_5 96 rfl rfl
theorem kc_X11_left : (Cond.code yX11_left cX11_left (2 : Nat) (Option.some Jvm.ClassFile.FieldType.int)) ∈ TW := tw_5 97 rfl rfl
theorem km_L_96 : (Cond.methodLink RL 96 yX11_gap) ∈ TW := tw_5 98 rfl rfl
theorem ki_X11_gap : (Cond.instanceMethod yX11_gap) ∈ TW := tw_5 99 rfl rfl
theorem kv_X11_gap : (Cond.selects RX11 yX11_gap yX11_gap) ∈ TW := tw_5 100 rfl rfl
theorem kc_X11_gap : (Cond.code yX11_gap cX11_gap (9 : Nat) (Option.some Jvm.ClassFile.FieldType.int)) ∈ TW := tw_5 101 rfl rfl
theorem km_L_105 : (Cond.methodLink RL 105 yX11_rise) ∈ TW := tw_5 102 rfl rfl
theorem ki_X11_rise : (Cond.instanceMethod yX11_rise) ∈ TW := tw_5 103 rfl rfl
theorem kv_X11_rise : (Cond.selects RX11 yX11_rise yX11_rise) ∈ TW := tw_5 104 rfl rfl
theorem kc_X11_rise : (Cond.code yX11_rise cX11_rise (17 : Nat) (Option.some Jvm.ClassFile.FieldType.int)) ∈ TW := tw_5 105 rfl rfl
theorem kj_X11_288 : ((Jvm.Cond.constantLong "RoundRows" (288 : Nat) (-2147483648 : Int64))) ∈ TW := tw_5 106 rfl rfl
theorem kj_X11_290 : ((Jvm.Cond.constantLong "RoundRows" (290 : Nat) (2 : Int64))) ∈ TW := tw_5 107 rfl rfl
theorem km_L_109 : (Cond.methodLink RL 109 yX11_best) ∈ TW := tw_5 108 rfl rfl
theorem ki_X11_best : (Cond.instanceMethod yX11_best) ∈ TW := tw_5 109 rfl rfl
theorem kv_X11_best : (Cond.selects RX11 yX11_best yX11_best) ∈ TW := tw_5 110 rfl rfl
theorem kc_X11_best : (Cond.code yX11_best cX11_best (6 : Nat) (Option.some Jvm.ClassFile.FieldType.int)) ∈ TW := tw_5 111 rfl rfl
theorem km_X11_298 : (Cond.methodLink RX11 298 yX11_tellsBetter) ∈ TW := tw_5 112 rfl rfl
theorem ki_X11_tellsBetter : (Cond.instanceMethod yX11_tellsBetter) ∈ TW := tw_5 114 rfl rfl
theorem kc_X11_tellsBetter : (Cond.code yX11_tellsBetter cX11_tellsBetter (6 : Nat) (Option.some Jvm.ClassFile.FieldType.boolean)) ∈ TW := tw_5 115 rfl rfl
theorem km_L_153 : (Cond.methodLink RL 153 yX11_law) ∈ TW := tw_5 116 rfl rfl
theorem ki_X11_law : (Cond.instanceMethod yX11_law) ∈ TW := tw_5 117 rfl rfl
theorem kv_X11_law : (Cond.selects RX11 yX11_law yX11_law) ∈ TW := tw_5 118 rfl rfl
theorem kc_X11_law : (Cond.code yX11_law cX11_law (4 : Nat) (Option.some Jvm.ClassFile.FieldType.int)) ∈ TW := tw_5 119 rfl rfl
theorem km_X11_302 : (Cond.methodLink RX11 302 yX11_rowsBeyond) ∈ TW := tw_5 120 rfl rfl
theorem ki_X11_rowsBeyond : (Cond.instanceMethod yX11_rowsBeyond) ∈ TW := tw_5 122 rfl rfl
theorem kc_X11_rowsBeyond : (Cond.code yX11_rowsBeyond cX11_rowsBeyond (8 : Nat) (Option.some Jvm.ClassFile.FieldType.int)) ∈ TW := tw_5 123 rfl rfl
theorem km_L_113 : (Cond.methodLink RL 113 yX11_forecast) ∈ TW := tw_5 124 rfl rfl
theorem ki_X11_forecast : (Cond.instanceMethod yX11_forecast) ∈ TW := tw_5 125 rfl rfl
theorem kv_X11_forecast : (Cond.selects RX11 yX11_forecast yX11_forecast) ∈ TW := tw_5 126 rfl rfl
theorem kc_X11_forecast : (Cond.code yX11_forecast cX11_forecast (4 : Nat) (Option.some Jvm.ClassFile.FieldType.int)) ∈ TW := tw_5 127 rfl rfl
theorem km_X11_323 : (Cond.methodLink RX11 323 yX11_hasForecast) ∈ TW := tw_5 128 rfl rfl
theorem ki_X11_hasForecast : (Cond.instanceMethod yX11_hasForecast) ∈ TW := tw_5 130 rfl rfl
theorem kc_X11_hasForecast : (Cond.code yX11_hasForecast cX11_hasForecast (2 : Nat) (Option.some Jvm.ClassFile.FieldType.boolean)) ∈ TW := tw_5 131 rfl rfl
theorem km_X11_348 : (Cond.methodLink RX11 348 yX4_kept) ∈ TW := tw_5 132 rfl rfl
theorem ki_X4_kept : (Cond.instanceMethod yX4_kept) ∈ TW := tw_5 133 rfl rfl
theorem kv_X4_kept : (Cond.selects RX4 yX4_kept yX4_kept) ∈ TW := tw_5 134 rfl rfl
theorem kc_X4_kept : (Cond.code yX4_kept cX4_kept (1 : Nat) (Option.some Jvm.ClassFile.FieldType.int)) ∈ TW := tw_5 135 rfl rfl
theorem km_X4_84 : (Cond.methodLink RX4 84 yJ9_min_7cf53) ∈ TW := tw_5 136 rfl rfl
theorem km_L_117 : (Cond.methodLink RL 117 yX11_place) ∈ TW := tw_5 137 rfl rfl
theorem ki_X11_place : (Cond.instanceMethod yX11_place) ∈ TW := tw_5 138 rfl rfl
theorem kv_X11_place : (Cond.selects RX11 yX11_place yX11_place) ∈ TW := tw_5 139 rfl rfl
theorem kc_X11_place : (Cond.code yX11_place cX11_place (5 : Nat) (Option.some Jvm.ClassFile.FieldType.int)) ∈ TW := tw_5 140 rfl rfl
theorem km_L_121 : (Cond.methodLink RL 121 yX11_told) ∈ TW := tw_5 141 rfl rfl
theorem ki_X11_told : (Cond.instanceMethod yX11_told) ∈ TW := tw_5 142 rfl rfl
theorem kv_X11_told : (Cond.selects RX11 yX11_told yX11_told) ∈ TW := tw_5 143 rfl rfl
theorem kc_X11_told : (Cond.code yX11_told cX11_told (5 : Nat) (Option.some Jvm.ClassFile.FieldType.int)) ∈ TW := tw_5 144 rfl rfl
theorem km_X11_357 : (Cond.methodLink RX11 357 yX4_toldOf) ∈ TW := tw_5 145 rfl rfl
theorem ki_X4_toldOf : (Cond.instanceMethod yX4_toldOf) ∈ TW := tw_5 146 rfl rfl
theorem kv_X4_toldOf : (Cond.selects RX4 yX4_toldOf yX4_toldOf) ∈ TW := tw_5 147 rfl rfl
theorem kc_X4_toldOf : (Cond.code yX4_toldOf cX4_toldOf (3 : Nat) (Option.some Jvm.ClassFile.FieldType.int)) ∈ TW := tw_5 148 rfl rfl
theorem km_X4_91 : (Cond.methodLink RX4 91 yX4_slotOf) ∈ TW := tw_5 149 rfl rfl
theorem ki_X4_slotOf : (Cond.instanceMethod yX4_slotOf) ∈ TW := tw_5 151 rfl rfl
theorem kc_X4_slotOf : (Cond.code yX4_slotOf cX4_slotOf (2 : Nat) (Option.some Jvm.ClassFile.FieldType.int)) ∈ TW := tw_5 152 rfl rfl
theorem km_X4_87 : (Cond.methodLink RX4 87 yX4_kept) ∈ TW := tw_5 153 rfl rfl
theorem km_X11_360 : (Cond.methodLink RX11 360 yX4_isOdd) ∈ TW := tw_5 154 rfl rfl
theorem ki_X4_isOdd : (Cond.instanceMethod yX4_isOdd) ∈ TW := tw_5 155 rfl rfl
theorem kv_X4_isOdd : (Cond.selects RX4 yX4_isOdd yX4_isOdd) ∈ TW := tw_5 156 rfl rfl
theorem kc_X4_isOdd : (Cond.code yX4_isOdd cX4_isOdd (3 : Nat) (Option.some Jvm.ClassFile.FieldType.boolean)) ∈ TW := tw_5 157 rfl rfl
theorem km_L_125 : (Cond.methodLink RL 125 yX11_odd) ∈ TW := tw_5 158 rfl rfl
theorem ki_X11_odd : (Cond.instanceMethod yX11_odd) ∈ TW := tw_5 159 rfl rfl
theorem kv_X11_odd : (Cond.selects RX11 yX11_odd yX11_odd) ∈ TW := tw_5 160 rfl rfl
theorem kc_X11_odd : (Cond.code yX11_odd cX11_odd (3 : Nat) (Option.some Jvm.ClassFile.FieldType.int)) ∈ TW := tw_5 161 rfl rfl
theorem km_X11_363 : (Cond.methodLink RX11 363 yX4_oddFrom) ∈ TW := tw_5 162 rfl rfl
theorem ki_X4_oddFrom : (Cond.instanceMethod yX4_oddFrom) ∈ TW := tw_5 163 rfl rfl
theorem kv_X4_oddFrom : (Cond.selects RX4 yX4_oddFrom yX4_oddFrom) ∈ TW := tw_5 164 rfl rfl
theorem kc_X4_oddFrom : (Cond.code yX4_oddFrom cX4_oddFrom (5 : Nat) (Option.some Jvm.ClassFile.FieldType.int)) ∈ TW := tw_5 165 rfl rfl
theorem km_X4_95 : (Cond.methodLink RX4 95 yX4_isOdd) ∈ TW := tw_5 166 rfl rfl
theorem km_L_129 : (Cond.methodLink RL 129 yX11_alarms) ∈ TW := tw_5 167 rfl rfl
theorem ki_X11_alarms : (Cond.instanceMethod yX11_alarms) ∈ TW := tw_5 168 rfl rfl
theorem kv_X11_alarms : (Cond.selects RX11 yX11_alarms yX11_alarms) ∈ TW := tw_5 169 rfl rfl
theorem kc_X11_alarms : (Cond.code yX11_alarms cX11_alarms (7 : Nat) (Option.some Jvm.ClassFile.FieldType.int)) ∈ TW := tw_5 170 rfl rfl
theorem km_L_133 : (Cond.methodLink RL 133 yX11_ahead) ∈ TW := tw_5 171 rfl rfl
theorem ki_X11_ahead : (Cond.instanceMethod yX11_ahead) ∈ TW := tw_5 172 rfl rfl
theorem kv_X11_ahead : (Cond.selects RX11 yX11_ahead yX11_ahead) ∈ TW := tw_5 173 rfl rfl
theorem kc_X11_ahead : (Cond.code yX11_ahead cX11_ahead (4 : Nat) (Option.some Jvm.ClassFile.FieldType.int)) ∈ TW := tw_5 174 rfl rfl
theorem km_X11_366 : (Cond.methodLink RX11 366 yX4_tellAhead) ∈ TW := tw_5 175 rfl rfl
theorem km_L_137 : (Cond.methodLink RL 137 yX11_show) ∈ TW := tw_5 176 rfl rfl
theorem ki_X11_show : (Cond.instanceMethod yX11_show) ∈ TW := tw_5 177 rfl rfl
theorem kv_X11_show : (Cond.selects RX11 yX11_show yX11_show) ∈ TW := tw_5 178 rfl rfl
theorem kc_X11_show : (Cond.code yX11_show cX11_show (4 : Nat) (Option.some Jvm.ClassFile.FieldType.int)) ∈ TW := tw_5 179 rfl rfl
theorem km_X11_369 : (Cond.methodLink RX11 369 yX11_isShow) ∈ TW := tw_5 180 rfl rfl
theorem ki_X11_isShow : (Cond.instanceMethod yX11_isShow) ∈ TW := tw_5 182 rfl rfl
theorem kc_X11_isShow : (Cond.code yX11_isShow cX11_isShow (2 : Nat) (Option.some Jvm.ClassFile.FieldType.boolean)) ∈ TW := tw_5 183 rfl rfl
theorem km_X11_372 : (Cond.methodLink RX11 372 yX11_showOf) ∈ TW := tw_5 184 rfl rfl
theorem ki_X11_showOf : (Cond.instanceMethod yX11_showOf) ∈ TW := tw_5 186 rfl rfl
theorem kc_X11_showOf : (Cond.code yX11_showOf cX11_showOf (4 : Nat) (Option.some Jvm.ClassFile.FieldType.int)) ∈ TW := tw_5 187 rfl rfl
theorem km_X11_379 : (Cond.methodLink RX11 379 yX1_tell) ∈ TW := tw_5 188 rfl rfl
theorem ki_X1_tell : (Cond.instanceMethod yX1_tell) ∈ TW := tw_5 189 rfl rfl
theorem kv_X1_tell : (Cond.selects RX1 yX1_tell yX1_tell) ∈ TW := tw_5 190 rfl rfl
theorem kc_X1_tell : (Cond.code yX1_tell cX1_tell (6 : Nat) (Option.some Jvm.ClassFile.FieldType.int)) ∈ TW := tw_5 191 rfl rfl
theorem kk_X1_37 : ((Jvm.Cond.constant "RoundRows$Formulas" (37 : Nat) (-2147483648 : Int32))) ∈ TW := tw_5 192 rfl rfl
theorem km_X1_41 : (Cond.methodLink RX1 41 yX1_run) ∈ TW := tw_5 193 rfl rfl
theorem ki_X1_run : (Cond.instanceMethod yX1_run) ∈ TW := tw_5 195 rfl rfl
theorem kc_X1_run : (Cond.code yX1_run cX1_run (7 : Nat) (Option.none : Option Jvm.ClassFile.FieldType)) ∈ TW := tw_5 196 rfl rfl
theorem km_X1_49 : (Cond.methodLink RX1 49 yX1_push) ∈ TW := tw_5 197 rfl rfl
theorem ki_X1_push : (Cond.instanceMethod yX1_push) ∈ TW := tw_5 199 rfl rfl
theorem kc_X1_push : (Cond.code yX1_push cX1_push (2 : Nat) (Option.none : Option Jvm.ClassFile.FieldType)) ∈ TW := tw_5 200 rfl rfl
theorem km_X1_53 : (Cond.methodLink RX1 53 yX7_rowOf) ∈ TW := tw_5 201 rfl rfl
theorem km_X1_45 : (Cond.methodLink RX1 45 yX1_pop) ∈ TW := tw_5 202 rfl rfl
theorem ki_X1_pop : (Cond.instanceMethod yX1_pop) ∈ TW := tw_5 204 rfl rfl
theorem kc_X1_pop : (Cond.code yX1_pop cX1_pop (1 : Nat) (Option.some Jvm.ClassFile.FieldType.int)) ∈ TW := tw_5 205 rfl rfl
theorem km_X1_59 : (Cond.methodLink RX1 59 yX1_joined) ∈ TW := tw_5 206 rfl rfl
theorem ks_X1_joined : (Cond.static yX1_joined) ∈ TW := tw_5 207 rfl rfl
theorem kc_X1_joined : (Cond.code yX1_joined cX1_joined (5 : Nat) (Option.some Jvm.ClassFile.FieldType.int)) ∈ TW := tw_5 208 rfl rfl
theorem kj_X1_63 : ((Jvm.Cond.constantLong "RoundRows$Formulas" (63 : Nat) (-2147483648 : Int64))) ∈ TW := tw_5 209 rfl rfl
theorem kx_X1_65 : (Cond.methodLinkNest RX1 65 yX11_held "RoundRows") ∈ lw_tbl := tl_5 210 rfl
theorem kj_X1_69 : ((Jvm.Cond.constantLong "RoundRows$Formulas" (69 : Nat) (1000 : Int64))) ∈ TW := tw_5 211 rfl rfl
theorem km_L_141 : (Cond.methodLink RL 141 yX11_shows) ∈ TW := tw_5 212 rfl rfl
theorem ki_X11_shows : (Cond.instanceMethod yX11_shows) ∈ TW := tw_5 213 rfl rfl
theorem kv_X11_shows : (Cond.selects RX11 yX11_shows yX11_shows) ∈ TW := tw_5 214 rfl rfl
theorem kc_X11_shows : (Cond.code yX11_shows cX11_shows (8 : Nat) (Option.some Jvm.ClassFile.FieldType.int)) ∈ TW := tw_5 215 rfl rfl
theorem km_L_165 : (Cond.methodLink RL 165 yX11_about) ∈ TW := tw_5 216 rfl rfl
theorem ki_X11_about : (Cond.instanceMethod yX11_about) ∈ TW := tw_5 217 rfl rfl
theorem kv_X11_about : (Cond.selects RX11 yX11_about yX11_about) ∈ TW := tw_5 218 rfl rfl
theorem kc_X11_about : (Cond.code yX11_about cX11_about (2 : Nat) (Option.some Jvm.ClassFile.FieldType.int)) ∈ TW := tw_5 219 rfl rfl
theorem km_X11_388 : (Cond.methodLink RX11 388 yX11_forecastBits) ∈ TW := tw_5 220 rfl rfl
theorem ki_X11_forecastBits : (Cond.instanceMethod yX11_forecastBits) ∈ TW := tw_5 222 rfl rfl
theorem kc_X11_forecastBits : (Cond.code yX11_forecastBits cX11_forecastBits (3 : Nat) (Option.some Jvm.ClassFile.FieldType.int)) ∈ TW := tw_5 223 rfl rfl
theorem kl_L_10 : ((Jvm.Cond.classLink "RoundRowsLaw" (10 : Nat) "RoundRowsModel")) ∈ TW := tw_5 224 rfl rfl
theorem kz_X12 : ((Jvm.Cond.instantiable "RoundRowsModel" (60 : Nat))) ∈ TW := tw_5 225 rfl rfl
theorem km_L_12 : (Cond.methodLink RL 12 yX12_init) ∈ TW := tw_5 226 rfl rfl
theorem ki_X12_init : (Cond.instanceMethod yX12_init) ∈ TW := tw_5 227 rfl rfl
theorem kc_X12_init : (Cond.code yX12_init cX12_init (1 : Nat) (Option.none : Option Jvm.ClassFile.FieldType)) ∈ TW := tw_5 228 rfl rfl
theorem km_X12_1 : (Cond.methodLink RX12 1 ({ cls := "java/lang/Object", name := "<init>", desc := "()V" } : Jvm.MethodName)) ∈ TW := tw_5 229 rfl rfl
theorem km_X12_131 : (Cond.methodLink RX12 131 yX12_clearBank) ∈ TW := tw_5 230 rfl rfl
theorem ki_X12_clearBank : (Cond.instanceMethod yX12_clearBank) ∈ TW := tw_5 232 rfl rfl
theorem kc_X12_clearBank : (Cond.code yX12_clearBank cX12_clearBank (3 : Nat) (Option.none : Option Jvm.ClassFile.FieldType)) ∈ TW := tw_5 233 rfl rfl
theorem km_X12_142 : (Cond.methodLink RX12 142 yX12_own) ∈ TW := tw_5 234 rfl rfl
theorem ks_X12_own : (Cond.static yX12_own) ∈ TW := tw_5 235 rfl rfl
theorem kc_X12_own : (Cond.code yX12_own cX12_own (2 : Nat) (Option.some Jvm.ClassFile.FieldType.int)) ∈ TW := tw_5 236 rfl rfl
theorem km_X12_135 : (Cond.methodLink RX12 135 yX12_startAnew) ∈ TW := tw_5 237 rfl rfl
theorem ki_X12_startAnew : (Cond.instanceMethod yX12_startAnew) ∈ TW := tw_5 239 rfl rfl
theorem kc_X12_startAnew : (Cond.code yX12_startAnew cX12_startAnew (3 : Nat) (Option.none : Option Jvm.ClassFile.FieldType)) ∈ TW := tw_6 0 rfl rfl
theorem km_X12_297 : (Cond.methodLink RX12 297 yX12_many) ∈ TW := tw_6 1 rfl rfl
theorem ki_X12_many : (Cond.instanceMethod yX12_many) ∈ TW := tw_6 3 rfl rfl
theorem kc_X12_many : (Cond.code yX12_many cX12_many (1 : Nat) (Option.some Jvm.ClassFile.FieldType.int)) ∈ TW := tw_6 4 rfl rfl
theorem km_X12_309 : (Cond.methodLink RX12 309 yX12_atMeasure) ∈ TW := tw_6 5 rfl rfl
theorem ks_X12_atMeasure : (Cond.static yX12_atMeasure) ∈ TW := tw_6 6 rfl rfl
theorem kc_X12_atMeasure : (Cond.code yX12_atMeasure cX12_atMeasure (2 : Nat) (Option.some Jvm.ClassFile.FieldType.int)) ∈ TW := tw_6 7 rfl rfl
theorem kj_X12_312 : ((Jvm.Cond.constantLong "RoundRowsModel" (312 : Nat) (-1 : Int64))) ∈ TW := tw_6 8 rfl rfl
theorem kj_X12_314 : ((Jvm.Cond.constantLong "RoundRowsModel" (314 : Nat) (-2147483648 : Int64))) ∈ TW := tw_6 9 rfl rfl
theorem kf_X12_7 : (Cond.fieldLink RX12 7 "RoundRowsModel" "all" "[J") ∈ TW := tw_6 10 rfl rfl
theorem kf_X12_13 : (Cond.fieldLink RX12 13 "RoundRowsModel" "step" "[I") ∈ TW := tw_6 11 rfl rfl
theorem kf_X12_17 : (Cond.fieldLink RX12 17 "RoundRowsModel" "measures" "[I") ∈ TW := tw_6 12 rfl rfl
theorem kf_X12_20 : (Cond.fieldLink RX12 20 "RoundRowsModel" "archives" "[I") ∈ TW := tw_6 13 rfl rfl
theorem kf_X12_23 : (Cond.fieldLink RX12 23 "RoundRowsModel" "shows" "[I") ∈ TW := tw_6 14 rfl rfl
theorem kf_X12_26 : (Cond.fieldLink RX12 26 "RoundRowsModel" "units" "[I") ∈ TW := tw_6 15 rfl rfl
theorem kf_X12_29 : (Cond.fieldLink RX12 29 "RoundRowsModel" "coded" "[I") ∈ TW := tw_6 16 rfl rfl
theorem kf_X12_32 : (Cond.fieldLink RX12 32 "RoundRowsModel" "sort" "[I") ∈ TW := tw_6 17 rfl rfl
theorem kf_X12_35 : (Cond.fieldLink RX12 35 "RoundRowsModel" "first" "[I") ∈ TW := tw_6 18 rfl rfl
theorem kf_X12_38 : (Cond.fieldLink RX12 38 "RoundRowsModel" "second" "[I") ∈ TW := tw_6 19 rfl rfl
theorem kf_X12_41 : (Cond.fieldLink RX12 41 "RoundRowsModel" "silence" "[I") ∈ TW := tw_6 20 rfl rfl
theorem kf_X12_44 : (Cond.fieldLink RX12 44 "RoundRowsModel" "least" "[I") ∈ TW := tw_6 21 rfl rfl
theorem kf_X12_47 : (Cond.fieldLink RX12 47 "RoundRowsModel" "most" "[I") ∈ TW := tw_6 22 rfl rfl
theorem kf_X12_50 : (Cond.fieldLink RX12 50 "RoundRowsModel" "how" "[I") ∈ TW := tw_6 23 rfl rfl
theorem kf_X12_53 : (Cond.fieldLink RX12 53 "RoundRowsModel" "per" "[I") ∈ TW := tw_6 24 rfl rfl
theorem kf_X12_56 : (Cond.fieldLink RX12 56 "RoundRowsModel" "long0" "[I") ∈ TW := tw_6 25 rfl rfl
theorem kf_X12_59 : (Cond.fieldLink RX12 59 "RoundRowsModel" "share" "[I") ∈ TW := tw_6 26 rfl rfl
theorem kf_X12_62 : (Cond.fieldLink RX12 62 "RoundRowsModel" "isForecast" "[Z") ∈ TW := tw_6 27 rfl rfl
theorem kf_X12_66 : (Cond.fieldLink RX12 66 "RoundRowsModel" "season" "[I") ∈ TW := tw_6 28 rfl rfl
theorem kf_X12_69 : (Cond.fieldLink RX12 69 "RoundRowsModel" "levelBy" "[I") ∈ TW := tw_6 29 rfl rfl
theorem kf_X12_72 : (Cond.fieldLink RX12 72 "RoundRowsModel" "trendBy" "[I") ∈ TW := tw_6 30 rfl rfl
theorem kf_X12_75 : (Cond.fieldLink RX12 75 "RoundRowsModel" "swingBy" "[I") ∈ TW := tw_6 31 rfl rfl
theorem kf_X12_78 : (Cond.fieldLink RX12 78 "RoundRowsModel" "band" "[I") ∈ TW := tw_6 32 rfl rfl
theorem kf_X12_81 : (Cond.fieldLink RX12 81 "RoundRowsModel" "code" "[I") ∈ TW := tw_6 33 rfl rfl
theorem kf_X12_84 : (Cond.fieldLink RX12 84 "RoundRowsModel" "codeEnd" "[I") ∈ TW := tw_6 34 rfl rfl
theorem kf_X12_87 : (Cond.fieldLink RX12 87 "RoundRowsModel" "nameAt" "[I") ∈ TW := tw_6 35 rfl rfl
theorem kf_X12_90 : (Cond.fieldLink RX12 90 "RoundRowsModel" "nameLong" "[I") ∈ TW := tw_6 36 rfl rfl
theorem kf_X12_217 : (Cond.fieldLink RX12 217 "RoundRowsModel" "named" "I") ∈ TW := tw_6 37 rfl rfl
theorem kf_X12_288 : (Cond.fieldLink RX12 288 "RoundRowsModel" "bank" "I") ∈ TW := tw_6 38 rfl rfl
theorem kf_X12_93 : (Cond.fieldLink RX12 93 "RoundRowsModel" "tape" "[B") ∈ TW := tw_6 39 rfl rfl
theorem kf_X12_146 : (Cond.fieldLink RX12 146 "RoundRowsModel" "taped" "I") ∈ TW := tw_6 40 rfl rfl
theorem kf_X12_149 : (Cond.fieldLink RX12 149 "RoundRowsModel" "size" "I") ∈ TW := tw_6 41 rfl rfl
theorem kf_X12_152 : (Cond.fieldLink RX12 152 "RoundRowsModel" "next" "I") ∈ TW := tw_6 42 rfl rfl
theorem kf_X12_155 : (Cond.fieldLink RX12 155 "RoundRowsModel" "at" "I") ∈ TW := tw_6 43 rfl rfl
theorem kf_X12_166 : (Cond.fieldLink RX12 166 "RoundRowsModel" "token" "I") ∈ TW := tw_6 44 rfl rfl
theorem kf_X12_191 : (Cond.fieldLink RX12 191 "RoundRowsModel" "number" "I") ∈ TW := tw_6 45 rfl rfl
theorem kf_X12_184 : (Cond.fieldLink RX12 184 "RoundRowsModel" "word" "I") ∈ TW := tw_6 46 rfl rfl
theorem kf_X12_195 : (Cond.fieldLink RX12 195 "RoundRowsModel" "found" "I") ∈ TW := tw_6 47 rfl rfl
theorem kf_X12_198 : (Cond.fieldLink RX12 198 "RoundRowsModel" "foundAt" "I") ∈ TW := tw_6 48 rfl rfl
theorem kf_X12_294 : (Cond.fieldLink RX12 294 "RoundRowsModel" "fault" "I") ∈ TW := tw_6 49 rfl rfl
theorem kf_X12_97 : (Cond.fieldLink RX12 97 "RoundRowsModel" "faultAt" "I") ∈ TW := tw_6 50 rfl rfl
theorem kf_X12_101 : (Cond.fieldLink RX12 101 "RoundRowsModel" "letters" "[B") ∈ TW := tw_6 51 rfl rfl
theorem kf_X12_104 : (Cond.fieldLink RX12 104 "RoundRowsModel" "standsFor" "[I") ∈ TW := tw_6 52 rfl rfl
theorem kf_X12_107 : (Cond.fieldLink RX12 107 "RoundRowsModel" "waits" "[I") ∈ TW := tw_6 53 rfl rfl
theorem kf_X12_263 : (Cond.fieldLink RX12 263 "RoundRowsModel" "waiting" "I") ∈ TW := tw_6 54 rfl rfl
theorem kf_X12_276 : (Cond.fieldLink RX12 276 "RoundRowsModel" "deep" "I") ∈ TW := tw_6 55 rfl rfl
theorem kf_X12_110 : (Cond.fieldLink RX12 110 "RoundRowsModel" "given" "[I") ∈ TW := tw_6 56 rfl rfl
theorem kf_X12_444 : (Cond.fieldLink RX12 444 "RoundRowsModel" "spanMany" "I") ∈ TW := tw_6 57 rfl rfl
theorem kf_X12_447 : (Cond.fieldLink RX12 447 "RoundRowsModel" "spanKnown" "I") ∈ TW := tw_6 58 rfl rfl
theorem kf_X12_450 : (Cond.fieldLink RX12 450 "RoundRowsModel" "spanSum" "J") ∈ TW := tw_6 59 rfl rfl
theorem kf_X12_454 : (Cond.fieldLink RX12 454 "RoundRowsModel" "spanMost" "J") ∈ TW := tw_6 60 rfl rfl
theorem kf_X12_457 : (Cond.fieldLink RX12 457 "RoundRowsModel" "spanLeast" "J") ∈ TW := tw_6 61 rfl rfl
theorem kf_X12_113 : (Cond.fieldLink RX12 113 "RoundRowsModel" "stack" "[J") ∈ TW := tw_6 62 rfl rfl
theorem kf_X12_116 : (Cond.fieldLink RX12 116 "RoundRowsModel" "showAt" "[J") ∈ TW := tw_6 63 rfl rfl
theorem kf_X12_119 : (Cond.fieldLink RX12 119 "RoundRowsModel" "aside" "[J") ∈ TW := tw_6 64 rfl rfl
theorem kf_X12_122 : (Cond.fieldLink RX12 122 "RoundRowsModel" "was" "[J") ∈ TW := tw_6 65 rfl rfl
theorem kf_X12_125 : (Cond.fieldLink RX12 125 "RoundRowsModel" "boxAll" "[J") ∈ TW := tw_6 66 rfl rfl
theorem kf_X12_128 : (Cond.fieldLink RX12 128 "RoundRowsModel" "isBoxed" "[Z") ∈ TW := tw_6 67 rfl rfl
theorem kf_X12_316 : (Cond.fieldLink RX12 316 "RoundRowsModel" "acts" "I") ∈ TW := tw_6 68 rfl rfl
theorem kf_X12_319 : (Cond.fieldLink RX12 319 "RoundRowsModel" "undone" "I") ∈ TW := tw_6 69 rfl rfl
theorem ky_X12_all : ((Jvm.Cond.laysFinal "RoundRowsModel" "RoundRowsModel" "all" "[J")) ∈ TW := tw_6 70 rfl rfl
theorem ky_X12_step : ((Jvm.Cond.laysFinal "RoundRowsModel" "RoundRowsModel" "step" "[I")) ∈ TW := tw_6 72 rfl rfl
theorem ky_X12_measures : ((Jvm.Cond.laysFinal "RoundRowsModel" "RoundRowsModel" "measures" "[I")) ∈ TW := tw_6 74 rfl rfl
theorem ky_X12_archives : ((Jvm.Cond.laysFinal "RoundRowsModel" "RoundRowsModel" "archives" "[I")) ∈ TW := tw_6 76 rfl rfl
theorem ky_X12_shows : ((Jvm.Cond.laysFinal "RoundRowsModel" "RoundRowsModel" "shows" "[I")) ∈ TW := tw_6 78 rfl rfl
theorem ky_X12_units : ((Jvm.Cond.laysFinal "RoundRowsModel" "RoundRowsModel" "units" "[I")) ∈ TW := tw_6 80 rfl rfl
theorem ky_X12_coded : ((Jvm.Cond.laysFinal "RoundRowsModel" "RoundRowsModel" "coded" "[I")) ∈ TW := tw_6 82 rfl rfl
theorem ky_X12_sort : ((Jvm.Cond.laysFinal "RoundRowsModel" "RoundRowsModel" "sort" "[I")) ∈ TW := tw_6 84 rfl rfl
theorem ky_X12_first : ((Jvm.Cond.laysFinal "RoundRowsModel" "RoundRowsModel" "first" "[I")) ∈ TW := tw_6 86 rfl rfl
theorem ky_X12_second : ((Jvm.Cond.laysFinal "RoundRowsModel" "RoundRowsModel" "second" "[I")) ∈ TW := tw_6 88 rfl rfl
theorem ky_X12_silence : ((Jvm.Cond.laysFinal "RoundRowsModel" "RoundRowsModel" "silence" "[I")) ∈ TW := tw_6 90 rfl rfl
theorem ky_X12_least : ((Jvm.Cond.laysFinal "RoundRowsModel" "RoundRowsModel" "least" "[I")) ∈ TW := tw_6 92 rfl rfl
theorem ky_X12_most : ((Jvm.Cond.laysFinal "RoundRowsModel" "RoundRowsModel" "most" "[I")) ∈ TW := tw_6 94 rfl rfl
theorem ky_X12_how : ((Jvm.Cond.laysFinal "RoundRowsModel" "RoundRowsModel" "how" "[I")) ∈ TW := tw_6 96 rfl rfl
theorem ky_X12_per : ((Jvm.Cond.laysFinal "RoundRowsModel" "RoundRowsModel" "per" "[I")) ∈ TW := tw_6 98 rfl rfl
theorem ky_X12_long0 : ((Jvm.Cond.laysFinal "RoundRowsModel" "RoundRowsModel" "long0" "[I")) ∈ TW := tw_6 100 rfl rfl
theorem ky_X12_share : ((Jvm.Cond.laysFinal "RoundRowsModel" "RoundRowsModel" "share" "[I")) ∈ TW := tw_6 102 rfl rfl
theorem ky_X12_isForecast : ((Jvm.Cond.laysFinal "RoundRowsModel" "RoundRowsModel" "isForecast" "[Z")) ∈ TW := tw_6 104 rfl rfl
theorem ky_X12_season : ((Jvm.Cond.laysFinal "RoundRowsModel" "RoundRowsModel" "season" "[I")) ∈ TW := tw_6 106 rfl rfl
theorem ky_X12_levelBy : ((Jvm.Cond.laysFinal "RoundRowsModel" "RoundRowsModel" "levelBy" "[I")) ∈ TW := tw_6 108 rfl rfl
theorem ky_X12_trendBy : ((Jvm.Cond.laysFinal "RoundRowsModel" "RoundRowsModel" "trendBy" "[I")) ∈ TW := tw_6 110 rfl rfl
theorem ky_X12_swingBy : ((Jvm.Cond.laysFinal "RoundRowsModel" "RoundRowsModel" "swingBy" "[I")) ∈ TW := tw_6 112 rfl rfl
theorem ky_X12_band : ((Jvm.Cond.laysFinal "RoundRowsModel" "RoundRowsModel" "band" "[I")) ∈ TW := tw_6 114 rfl rfl
theorem ky_X12_code : ((Jvm.Cond.laysFinal "RoundRowsModel" "RoundRowsModel" "code" "[I")) ∈ TW := tw_6 116 rfl rfl
theorem ky_X12_codeEnd : ((Jvm.Cond.laysFinal "RoundRowsModel" "RoundRowsModel" "codeEnd" "[I")) ∈ TW := tw_6 118 rfl rfl
theorem ky_X12_nameAt : ((Jvm.Cond.laysFinal "RoundRowsModel" "RoundRowsModel" "nameAt" "[I")) ∈ TW := tw_6 120 rfl rfl
theorem ky_X12_nameLong : ((Jvm.Cond.laysFinal "RoundRowsModel" "RoundRowsModel" "nameLong" "[I")) ∈ TW := tw_6 122 rfl rfl
theorem ky_X12_named : ((Jvm.Cond.lays "RoundRowsModel" "RoundRowsModel" "named" "I")) ∈ TW := tw_6 124 rfl rfl
theorem ky_X12_bank : ((Jvm.Cond.lays "RoundRowsModel" "RoundRowsModel" "bank" "I")) ∈ TW := tw_6 126 rfl rfl
theorem ky_X12_tape : ((Jvm.Cond.laysFinal "RoundRowsModel" "RoundRowsModel" "tape" "[B")) ∈ TW := tw_6 128 rfl rfl
theorem ky_X12_taped : ((Jvm.Cond.lays "RoundRowsModel" "RoundRowsModel" "taped" "I")) ∈ TW := tw_6 130 rfl rfl
theorem ky_X12_size : ((Jvm.Cond.lays "RoundRowsModel" "RoundRowsModel" "size" "I")) ∈ TW := tw_6 132 rfl rfl
theorem ky_X12_next : ((Jvm.Cond.lays "RoundRowsModel" "RoundRowsModel" "next" "I")) ∈ TW := tw_6 134 rfl rfl
theorem ky_X12_at : ((Jvm.Cond.lays "RoundRowsModel" "RoundRowsModel" "at" "I")) ∈ TW := tw_6 136 rfl rfl
theorem ky_X12_token : ((Jvm.Cond.lays "RoundRowsModel" "RoundRowsModel" "token" "I")) ∈ TW := tw_6 138 rfl rfl
theorem ky_X12_number : ((Jvm.Cond.lays "RoundRowsModel" "RoundRowsModel" "number" "I")) ∈ TW := tw_6 140 rfl rfl
theorem ky_X12_word : ((Jvm.Cond.lays "RoundRowsModel" "RoundRowsModel" "word" "I")) ∈ TW := tw_6 142 rfl rfl
theorem ky_X12_found : ((Jvm.Cond.lays "RoundRowsModel" "RoundRowsModel" "found" "I")) ∈ TW := tw_6 144 rfl rfl
theorem ky_X12_foundAt : ((Jvm.Cond.lays "RoundRowsModel" "RoundRowsModel" "foundAt" "I")) ∈ TW := tw_6 146 rfl rfl
theorem ky_X12_fault : ((Jvm.Cond.lays "RoundRowsModel" "RoundRowsModel" "fault" "I")) ∈ TW := tw_6 148 rfl rfl
theorem ky_X12_faultAt : ((Jvm.Cond.lays "RoundRowsModel" "RoundRowsModel" "faultAt" "I")) ∈ TW := tw_6 150 rfl rfl
theorem ky_X12_letters : ((Jvm.Cond.laysFinal "RoundRowsModel" "RoundRowsModel" "letters" "[B")) ∈ TW := tw_6 152 rfl rfl
theorem ky_X12_standsFor : ((Jvm.Cond.laysFinal "RoundRowsModel" "RoundRowsModel" "standsFor" "[I")) ∈ TW := tw_6 154 rfl rfl
theorem ky_X12_waits : ((Jvm.Cond.laysFinal "RoundRowsModel" "RoundRowsModel" "waits" "[I")) ∈ TW := tw_6 156 rfl rfl
theorem ky_X12_waiting : ((Jvm.Cond.lays "RoundRowsModel" "RoundRowsModel" "waiting" "I")) ∈ TW := tw_6 158 rfl rfl
theorem ky_X12_deep : ((Jvm.Cond.lays "RoundRowsModel" "RoundRowsModel" "deep" "I")) ∈ TW := tw_6 160 rfl rfl
theorem ky_X12_given : ((Jvm.Cond.laysFinal "RoundRowsModel" "RoundRowsModel" "given" "[I")) ∈ TW := tw_6 162 rfl rfl
theorem ky_X12_spanMany : ((Jvm.Cond.lays "RoundRowsModel" "RoundRowsModel" "spanMany" "I")) ∈ TW := tw_6 164 rfl rfl
theorem ky_X12_spanKnown : ((Jvm.Cond.lays "RoundRowsModel" "RoundRowsModel" "spanKnown" "I")) ∈ TW := tw_6 166 rfl rfl
theorem ky_X12_spanSum : ((Jvm.Cond.lays "RoundRowsModel" "RoundRowsModel" "spanSum" "J")) ∈ TW := tw_6 168 rfl rfl
theorem ky_X12_spanMost : ((Jvm.Cond.lays "RoundRowsModel" "RoundRowsModel" "spanMost" "J")) ∈ TW := tw_6 170 rfl rfl
theorem ky_X12_spanLeast : ((Jvm.Cond.lays "RoundRowsModel" "RoundRowsModel" "spanLeast" "J")) ∈ TW := tw_6 172 rfl rfl
theorem ky_X12_stack : ((Jvm.Cond.laysFinal "RoundRowsModel" "RoundRowsModel" "stack" "[J")) ∈ TW := tw_6 174 rfl rfl
theorem ky_X12_showAt : ((Jvm.Cond.laysFinal "RoundRowsModel" "RoundRowsModel" "showAt" "[J")) ∈ TW := tw_6 176 rfl rfl
theorem ky_X12_aside : ((Jvm.Cond.laysFinal "RoundRowsModel" "RoundRowsModel" "aside" "[J")) ∈ TW := tw_6 178 rfl rfl
theorem ky_X12_was : ((Jvm.Cond.laysFinal "RoundRowsModel" "RoundRowsModel" "was" "[J")) ∈ TW := tw_6 180 rfl rfl
theorem ky_X12_boxAll : ((Jvm.Cond.laysFinal "RoundRowsModel" "RoundRowsModel" "boxAll" "[J")) ∈ TW := tw_6 182 rfl rfl
theorem ky_X12_isBoxed : ((Jvm.Cond.laysFinal "RoundRowsModel" "RoundRowsModel" "isBoxed" "[Z")) ∈ TW := tw_6 184 rfl rfl
theorem ky_X12_acts : ((Jvm.Cond.lays "RoundRowsModel" "RoundRowsModel" "acts" "I")) ∈ TW := tw_6 186 rfl rfl
theorem ky_X12_undone : ((Jvm.Cond.lays "RoundRowsModel" "RoundRowsModel" "undone" "I")) ∈ TW := tw_6 188 rfl rfl
theorem ka_arrayClass_6_191 : ((Jvm.Cond.arrayClass Jvm.ClassFile.FieldType.long)) ∈ TW := tw_6 191 rfl rfl
theorem km_L_17 : (Cond.methodLink RL 17 yX12_feed) ∈ TW := tw_6 192 rfl rfl
theorem ki_X12_feed : (Cond.instanceMethod yX12_feed) ∈ TW := tw_6 193 rfl rfl
theorem kv_X12_feed : (Cond.selects RX12 yX12_feed yX12_feed) ∈ TW := tw_6 194 rfl rfl
theorem kc_X12_feed : (Cond.code yX12_feed cX12_feed (8 : Nat) (Option.some Jvm.ClassFile.FieldType.int)) ∈ TW := tw_6 195 rfl rfl
theorem km_L_22 : (Cond.methodLink RL 22 yX12_end) ∈ TW := tw_6 196 rfl rfl
theorem ki_X12_end : (Cond.instanceMethod yX12_end) ∈ TW := tw_6 197 rfl rfl
theorem kv_X12_end : (Cond.selects RX12 yX12_end yX12_end) ∈ TW := tw_6 198 rfl rfl
theorem kc_X12_end : (Cond.code yX12_end cX12_end (2 : Nat) (Option.some Jvm.ClassFile.FieldType.int)) ∈ TW := tw_6 199 rfl rfl
theorem km_L_27 : (Cond.methodLink RL 27 yX12_store) ∈ TW := tw_6 200 rfl rfl
theorem ki_X12_store : (Cond.instanceMethod yX12_store) ∈ TW := tw_6 201 rfl rfl
theorem kv_X12_store : (Cond.selects RX12 yX12_store yX12_store) ∈ TW := tw_6 202 rfl rfl
theorem kc_X12_store : (Cond.code yX12_store cX12_store (2 : Nat) (Option.some Jvm.ClassFile.FieldType.int)) ∈ TW := tw_6 203 rfl rfl
theorem km_X12_291 : (Cond.methodLink RX12 291 yX12_readAll) ∈ TW := tw_6 204 rfl rfl
theorem ki_X12_readAll : (Cond.instanceMethod yX12_readAll) ∈ TW := tw_6 206 rfl rfl
theorem kc_X12_readAll : (Cond.code yX12_readAll cX12_readAll (2 : Nat) (Option.none : Option Jvm.ClassFile.FieldType)) ∈ TW := tw_6 207 rfl rfl
theorem km_X12_204 : (Cond.methodLink RX12 204 yX12_scan) ∈ TW := tw_6 208 rfl rfl
theorem ki_X12_scan : (Cond.instanceMethod yX12_scan) ∈ TW := tw_6 210 rfl rfl
theorem kc_X12_scan : (Cond.code yX12_scan cX12_scan (2 : Nat) (Option.none : Option Jvm.ClassFile.FieldType)) ∈ TW := tw_6 211 rfl rfl
theorem km_X12_158 : (Cond.methodLink RX12 158 yX12_isBlank) ∈ TW := tw_6 212 rfl rfl
theorem ki_X12_isBlank : (Cond.instanceMethod yX12_isBlank) ∈ TW := tw_6 214 rfl rfl
theorem kc_X12_isBlank : (Cond.code yX12_isBlank cX12_isBlank (2 : Nat) (Option.some Jvm.ClassFile.FieldType.boolean)) ∈ TW := tw_6 215 rfl rfl
theorem km_X12_162 : (Cond.methodLink RX12 162 yX12_signAt) ∈ TW := tw_6 216 rfl rfl
theorem ki_X12_signAt : (Cond.instanceMethod yX12_signAt) ∈ TW := tw_6 218 rfl rfl
theorem kc_X12_signAt : (Cond.code yX12_signAt cX12_signAt (2 : Nat) (Option.some Jvm.ClassFile.FieldType.int)) ∈ TW := tw_6 219 rfl rfl
theorem km_X12_169 : (Cond.methodLink RX12 169 yX12_isLetter) ∈ TW := tw_6 220 rfl rfl
theorem ks_X12_isLetter : (Cond.static yX12_isLetter) ∈ TW := tw_6 221 rfl rfl
theorem kc_X12_isLetter : (Cond.code yX12_isLetter cX12_isLetter (1 : Nat) (Option.some Jvm.ClassFile.FieldType.boolean)) ∈ TW := tw_6 222 rfl rfl
theorem km_X12_172 : (Cond.methodLink RX12 172 yX12_scanWord) ∈ TW := tw_6 223 rfl rfl
theorem ki_X12_scanWord : (Cond.instanceMethod yX12_scanWord) ∈ TW := tw_6 225 rfl rfl
theorem kc_X12_scanWord : (Cond.code yX12_scanWord cX12_scanWord (4 : Nat) (Option.none : Option Jvm.ClassFile.FieldType)) ∈ TW := tw_6 226 rfl rfl
theorem km_X12_187 : (Cond.methodLink RX12 187 yX12_isSame) ∈ TW := tw_6 227 rfl rfl
theorem ki_X12_isSame : (Cond.instanceMethod yX12_isSame) ∈ TW := tw_6 229 rfl rfl
theorem kc_X12_isSame : (Cond.code yX12_isSame cX12_isSame (4 : Nat) (Option.some Jvm.ClassFile.FieldType.boolean)) ∈ TW := tw_6 230 rfl rfl
theorem km_X12_175 : (Cond.methodLink RX12 175 yX12_isDigit) ∈ TW := tw_6 231 rfl rfl
theorem ks_X12_isDigit : (Cond.static yX12_isDigit) ∈ TW := tw_6 232 rfl rfl
theorem kc_X12_isDigit : (Cond.code yX12_isDigit cX12_isDigit (1 : Nat) (Option.some Jvm.ClassFile.FieldType.boolean)) ∈ TW := tw_6 233 rfl rfl
theorem km_X12_178 : (Cond.methodLink RX12 178 yX12_scanNumber) ∈ TW := tw_6 234 rfl rfl
theorem ki_X12_scanNumber : (Cond.instanceMethod yX12_scanNumber) ∈ TW := tw_6 236 rfl rfl
theorem kc_X12_scanNumber : (Cond.code yX12_scanNumber cX12_scanNumber (1 : Nat) (Option.none : Option Jvm.ClassFile.FieldType)) ∈ TW := tw_6 237 rfl rfl
theorem kk_X12_194 : ((Jvm.Cond.constant "RoundRowsModel" (194 : Nat) (999999 : Int32))) ∈ TW := tw_6 238 rfl rfl
theorem km_X12_181 : (Cond.methodLink RX12 181 yX12_isSign) ∈ TW := tw_6 239 rfl rfl
theorem ks_X12_isSign : (Cond.static yX12_isSign) ∈ TW := tw_7 0 rfl rfl
theorem kc_X12_isSign : (Cond.code yX12_isSign cX12_isSign (1 : Nat) (Option.some Jvm.ClassFile.FieldType.boolean)) ∈ TW := tw_7 1 rfl rfl
theorem km_X12_231 : (Cond.methodLink RX12 231 yX12_needWord) ∈ TW := tw_7 2 rfl rfl
theorem ki_X12_needWord : (Cond.instanceMethod yX12_needWord) ∈ TW := tw_7 4 rfl rfl
theorem kc_X12_needWord : (Cond.code yX12_needWord cX12_needWord (2 : Nat) (Option.none : Option Jvm.ClassFile.FieldType)) ∈ TW := tw_7 5 rfl rfl
theorem km_X12_210 : (Cond.methodLink RX12 210 yX12_isWord) ∈ TW := tw_7 6 rfl rfl
theorem ki_X12_isWord : (Cond.instanceMethod yX12_isWord) ∈ TW := tw_7 8 rfl rfl
theorem kc_X12_isWord : (Cond.code yX12_isWord cX12_isWord (2 : Nat) (Option.some Jvm.ClassFile.FieldType.boolean)) ∈ TW := tw_7 9 rfl rfl
theorem km_X12_207 : (Cond.methodLink RX12 207 yX12_fail) ∈ TW := tw_7 10 rfl rfl
theorem ki_X12_fail : (Cond.instanceMethod yX12_fail) ∈ TW := tw_7 12 rfl rfl
theorem kc_X12_fail : (Cond.code yX12_fail cX12_fail (2 : Nat) (Option.none : Option Jvm.ClassFile.FieldType)) ∈ TW := tw_7 13 rfl rfl
theorem km_X12_234 : (Cond.methodLink RX12 234 yX12_numeral) ∈ TW := tw_7 14 rfl rfl
theorem ki_X12_numeral : (Cond.instanceMethod yX12_numeral) ∈ TW := tw_7 16 rfl rfl
theorem kc_X12_numeral : (Cond.code yX12_numeral cX12_numeral (4 : Nat) (Option.some Jvm.ClassFile.FieldType.int)) ∈ TW := tw_7 17 rfl rfl
theorem km_X12_213 : (Cond.methodLink RX12 213 yX12_isIn) ∈ TW := tw_7 18 rfl rfl
theorem ks_X12_isIn : (Cond.static yX12_isIn) ∈ TW := tw_7 19 rfl rfl
theorem kc_X12_isIn : (Cond.code yX12_isIn cX12_isIn (6 : Nat) (Option.some Jvm.ClassFile.FieldType.boolean)) ∈ TW := tw_7 20 rfl rfl
theorem km_X12_237 : (Cond.methodLink RX12 237 yX12_need) ∈ TW := tw_7 21 rfl rfl
theorem ki_X12_need : (Cond.instanceMethod yX12_need) ∈ TW := tw_7 23 rfl rfl
theorem kc_X12_need : (Cond.code yX12_need cX12_need (2 : Nat) (Option.none : Option Jvm.ClassFile.FieldType)) ∈ TW := tw_7 24 rfl rfl
theorem km_X12_201 : (Cond.methodLink RX12 201 yX12_isAt) ∈ TW := tw_7 25 rfl rfl
theorem ki_X12_isAt : (Cond.instanceMethod yX12_isAt) ∈ TW := tw_7 27 rfl rfl
theorem kc_X12_isAt : (Cond.code yX12_isAt cX12_isAt (2 : Nat) (Option.some Jvm.ClassFile.FieldType.boolean)) ∈ TW := tw_7 28 rfl rfl
theorem km_X12_240 : (Cond.methodLink RX12 240 yX12_readLine) ∈ TW := tw_7 29 rfl rfl
theorem ki_X12_readLine : (Cond.instanceMethod yX12_readLine) ∈ TW := tw_7 31 rfl rfl
theorem kc_X12_readLine : (Cond.code yX12_readLine cX12_readLine (2 : Nat) (Option.none : Option Jvm.ClassFile.FieldType)) ∈ TW := tw_7 32 rfl rfl
theorem km_X12_243 : (Cond.methodLink RX12 243 yX12_readMeasure) ∈ TW := tw_7 33 rfl rfl
theorem ki_X12_readMeasure : (Cond.instanceMethod yX12_readMeasure) ∈ TW := tw_7 35 rfl rfl
theorem kc_X12_readMeasure : (Cond.code yX12_readMeasure cX12_readMeasure (5 : Nat) (Option.none : Option Jvm.ClassFile.FieldType)) ∈ TW := tw_7 36 rfl rfl
theorem km_X12_255 : (Cond.methodLink RX12 255 yX12_newName) ∈ TW := tw_7 37 rfl rfl
theorem ki_X12_newName : (Cond.instanceMethod yX12_newName) ∈ TW := tw_7 39 rfl rfl
theorem kc_X12_newName : (Cond.code yX12_newName cX12_newName (2 : Nat) (Option.none : Option Jvm.ClassFile.FieldType)) ∈ TW := tw_7 40 rfl rfl
theorem km_X12_223 : (Cond.methodLink RX12 223 yX12_isName) ∈ TW := tw_7 41 rfl rfl
theorem ki_X12_isName : (Cond.instanceMethod yX12_isName) ∈ TW := tw_7 43 rfl rfl
theorem kc_X12_isName : (Cond.code yX12_isName cX12_isName (1 : Nat) (Option.some Jvm.ClassFile.FieldType.boolean)) ∈ TW := tw_7 44 rfl rfl
theorem km_X12_227 : (Cond.methodLink RX12 227 yX12_nameHere) ∈ TW := tw_7 45 rfl rfl
theorem ki_X12_nameHere : (Cond.instanceMethod yX12_nameHere) ∈ TW := tw_7 47 rfl rfl
theorem kc_X12_nameHere : (Cond.code yX12_nameHere cX12_nameHere (2 : Nat) (Option.some Jvm.ClassFile.FieldType.int)) ∈ TW := tw_7 48 rfl rfl
theorem km_X12_220 : (Cond.methodLink RX12 220 yX12_isNamed) ∈ TW := tw_7 49 rfl rfl
theorem ki_X12_isNamed : (Cond.instanceMethod yX12_isNamed) ∈ TW := tw_7 51 rfl rfl
theorem kc_X12_isNamed : (Cond.code yX12_isNamed cX12_isNamed (3 : Nat) (Option.some Jvm.ClassFile.FieldType.boolean)) ∈ TW := tw_7 52 rfl rfl
theorem km_X12_246 : (Cond.methodLink RX12 246 yX12_readArchive) ∈ TW := tw_7 53 rfl rfl
theorem ki_X12_readArchive : (Cond.instanceMethod yX12_readArchive) ∈ TW := tw_7 55 rfl rfl
theorem kc_X12_readArchive : (Cond.code yX12_readArchive cX12_readArchive (3 : Nat) (Option.none : Option Jvm.ClassFile.FieldType)) ∈ TW := tw_7 56 rfl rfl
theorem km_X12_249 : (Cond.methodLink RX12 249 yX12_readForecast) ∈ TW := tw_7 57 rfl rfl
theorem ki_X12_readForecast : (Cond.instanceMethod yX12_readForecast) ∈ TW := tw_7 59 rfl rfl
theorem kc_X12_readForecast : (Cond.code yX12_readForecast cX12_readForecast (4 : Nat) (Option.none : Option Jvm.ClassFile.FieldType)) ∈ TW := tw_7 60 rfl rfl
theorem kj_X12_258 : ((Jvm.Cond.constantLong "RoundRowsModel" (258 : Nat) (3 : Int64))) ∈ TW := tw_7 61 rfl rfl
theorem km_X12_252 : (Cond.methodLink RX12 252 yX12_readShow) ∈ TW := tw_7 62 rfl rfl
theorem ki_X12_readShow : (Cond.instanceMethod yX12_readShow) ∈ TW := tw_7 64 rfl rfl
theorem kc_X12_readShow : (Cond.code yX12_readShow cX12_readShow (4 : Nat) (Option.none : Option Jvm.ClassFile.FieldType)) ∈ TW := tw_7 65 rfl rfl
theorem km_X12_260 : (Cond.methodLink RX12 260 yX12_readUnits) ∈ TW := tw_7 66 rfl rfl
theorem ki_X12_readUnits : (Cond.instanceMethod yX12_readUnits) ∈ TW := tw_7 68 rfl rfl
theorem kc_X12_readUnits : (Cond.code yX12_readUnits cX12_readUnits (4 : Nat) (Option.none : Option Jvm.ClassFile.FieldType)) ∈ TW := tw_7 69 rfl rfl
theorem km_X12_279 : (Cond.methodLink RX12 279 yX12_readUnit) ∈ TW := tw_7 70 rfl rfl
theorem ki_X12_readUnit : (Cond.instanceMethod yX12_readUnit) ∈ TW := tw_7 72 rfl rfl
theorem kc_X12_readUnit : (Cond.code yX12_readUnit cX12_readUnit (3 : Nat) (Option.some Jvm.ClassFile.FieldType.boolean)) ∈ TW := tw_7 73 rfl rfl
theorem km_X12_285 : (Cond.methodLink RX12 285 yX12_push) ∈ TW := tw_7 74 rfl rfl
theorem ki_X12_push : (Cond.instanceMethod yX12_push) ∈ TW := tw_7 76 rfl rfl
theorem kc_X12_push : (Cond.code yX12_push cX12_push (3 : Nat) (Option.none : Option Jvm.ClassFile.FieldType)) ∈ TW := tw_7 77 rfl rfl
theorem km_X12_270 : (Cond.methodLink RX12 270 yX12_bindsBy) ∈ TW := tw_7 78 rfl rfl
theorem ks_X12_bindsBy : (Cond.static yX12_bindsBy) ∈ TW := tw_7 79 rfl rfl
theorem kc_X12_bindsBy : (Cond.code yX12_bindsBy cX12_bindsBy (1 : Nat) (Option.some Jvm.ClassFile.FieldType.int)) ∈ TW := tw_7 80 rfl rfl
theorem km_X12_273 : (Cond.methodLink RX12 273 yX12_layWaiting) ∈ TW := tw_7 81 rfl rfl
theorem ki_X12_layWaiting : (Cond.instanceMethod yX12_layWaiting) ∈ TW := tw_7 83 rfl rfl
theorem kc_X12_layWaiting : (Cond.code yX12_layWaiting cX12_layWaiting (2 : Nat) (Option.none : Option Jvm.ClassFile.FieldType)) ∈ TW := tw_7 84 rfl rfl
theorem km_X12_266 : (Cond.methodLink RX12 266 yX12_lay) ∈ TW := tw_7 85 rfl rfl
theorem ki_X12_lay : (Cond.instanceMethod yX12_lay) ∈ TW := tw_7 87 rfl rfl
theorem kc_X12_lay : (Cond.code yX12_lay cX12_lay (3 : Nat) (Option.none : Option Jvm.ClassFile.FieldType)) ∈ TW := tw_7 88 rfl rfl
theorem km_X12_282 : (Cond.methodLink RX12 282 yX12_between) ∈ TW := tw_7 89 rfl rfl
theorem ki_X12_between : (Cond.instanceMethod yX12_between) ∈ TW := tw_7 91 rfl rfl
theorem kc_X12_between : (Cond.code yX12_between cX12_between (1 : Nat) (Option.some Jvm.ClassFile.FieldType.int)) ∈ TW := tw_7 92 rfl rfl
theorem km_L_31 : (Cond.methodLink RL 31 yX12_fault) ∈ TW := tw_7 93 rfl rfl
theorem ki_X12_fault : (Cond.instanceMethod yX12_fault) ∈ TW := tw_7 94 rfl rfl
theorem kv_X12_fault : (Cond.selects RX12 yX12_fault yX12_fault) ∈ TW := tw_7 95 rfl rfl
theorem kc_X12_fault : (Cond.code yX12_fault cX12_fault (2 : Nat) (Option.some Jvm.ClassFile.FieldType.int)) ∈ TW := tw_7 96 rfl rfl
theorem km_L_35 : (Cond.methodLink RL 35 yX12_read) ∈ TW := tw_7 97 rfl rfl
theorem ki_X12_read : (Cond.instanceMethod yX12_read) ∈ TW := tw_7 98 rfl rfl
theorem kv_X12_read : (Cond.selects RX12 yX12_read yX12_read) ∈ TW := tw_7 99 rfl rfl
theorem kc_X12_read : (Cond.code yX12_read cX12_read (6 : Nat) (Option.some Jvm.ClassFile.FieldType.int)) ∈ TW := tw_7 100 rfl rfl
theorem km_X12_411 : (Cond.methodLink RX12 411 yX12_canRead) ∈ TW := tw_7 101 rfl rfl
theorem ki_X12_canRead : (Cond.instanceMethod yX12_canRead) ∈ TW := tw_7 103 rfl rfl
theorem kc_X12_canRead : (Cond.code yX12_canRead cX12_canRead (2 : Nat) (Option.some Jvm.ClassFile.FieldType.boolean)) ∈ TW := tw_7 104 rfl rfl
theorem kj_X12_332 : ((Jvm.Cond.constantLong "RoundRowsModel" (332 : Nat) (1000 : Int64))) ∈ TW := tw_7 105 rfl rfl
theorem kj_X12_338 : ((Jvm.Cond.constantLong "RoundRowsModel" (338 : Nat) (100000 : Int64))) ∈ TW := tw_7 106 rfl rfl
theorem km_X12_414 : (Cond.methodLink RX12 414 yX12_keepAct) ∈ TW := tw_7 107 rfl rfl
theorem ki_X12_keepAct : (Cond.instanceMethod yX12_keepAct) ∈ TW := tw_7 109 rfl rfl
theorem kc_X12_keepAct : (Cond.code yX12_keepAct cX12_keepAct (2 : Nat) (Option.none : Option Jvm.ClassFile.FieldType)) ∈ TW := tw_7 110 rfl rfl
theorem km_X12_417 : (Cond.methodLink RX12 417 yX12_give) ∈ TW := tw_7 111 rfl rfl
theorem ki_X12_give : (Cond.instanceMethod yX12_give) ∈ TW := tw_7 113 rfl rfl
theorem kc_X12_give : (Cond.code yX12_give cX12_give (5 : Nat) (Option.none : Option Jvm.ClassFile.FieldType)) ∈ TW := tw_7 114 rfl rfl
theorem km_X12_421 : (Cond.methodLink RX12 421 yX12_goRead) ∈ TW := tw_7 115 rfl rfl
theorem ki_X12_goRead : (Cond.instanceMethod yX12_goRead) ∈ TW := tw_7 117 rfl rfl
theorem kc_X12_goRead : (Cond.code yX12_goRead cX12_goRead (5 : Nat) (Option.some Jvm.ClassFile.FieldType.int)) ∈ TW := tw_7 118 rfl rfl
theorem km_X12_340 : (Cond.methodLink RX12 340 yX12_rateOf) ∈ TW := tw_7 119 rfl rfl
theorem ki_X12_rateOf : (Cond.instanceMethod yX12_rateOf) ∈ TW := tw_7 121 rfl rfl
theorem kc_X12_rateOf : (Cond.code yX12_rateOf cX12_rateOf (10 : Nat) (Option.some Jvm.ClassFile.FieldType.long)) ∈ TW := tw_7 122 rfl rfl
theorem km_X12_328 : (Cond.methodLink RX12 328 yX12_isNumber) ∈ TW := tw_7 123 rfl rfl
theorem ki_X12_isNumber : (Cond.instanceMethod yX12_isNumber) ∈ TW := tw_7 125 rfl rfl
theorem kc_X12_isNumber : (Cond.code yX12_isNumber cX12_isNumber (5 : Nat) (Option.some Jvm.ClassFile.FieldType.boolean)) ∈ TW := tw_7 126 rfl rfl
theorem kj_X12_322 : ((Jvm.Cond.constantLong "RoundRowsModel" (322 : Nat) (999999 : Int64))) ∈ TW := tw_7 127 rfl rfl
theorem km_X12_324 : (Cond.methodLink RX12 324 yX12_width) ∈ TW := tw_7 128 rfl rfl
theorem ks_X12_width : (Cond.static yX12_width) ∈ TW := tw_7 129 rfl rfl
theorem kc_X12_width : (Cond.code yX12_width cX12_width (1 : Nat) (Option.some Jvm.ClassFile.FieldType.long)) ∈ TW := tw_7 130 rfl rfl
theorem km_X12_334 : (Cond.methodLink RX12 334 yX12_wentOn) ∈ TW := tw_7 131 rfl rfl
theorem ks_X12_wentOn : (Cond.static yX12_wentOn) ∈ TW := tw_7 132 rfl rfl
theorem kc_X12_wentOn : (Cond.code yX12_wentOn cX12_wentOn (8 : Nat) (Option.some Jvm.ClassFile.FieldType.long)) ∈ TW := tw_7 133 rfl rfl
theorem km_X12_344 : (Cond.methodLink RX12 344 yX12_closeStep) ∈ TW := tw_7 134 rfl rfl
theorem ki_X12_closeStep : (Cond.instanceMethod yX12_closeStep) ∈ TW := tw_7 136 rfl rfl
theorem kc_X12_closeStep : (Cond.code yX12_closeStep cX12_closeStep (8 : Nat) (Option.none : Option Jvm.ClassFile.FieldType)) ∈ TW := tw_7 137 rfl rfl
theorem kj_X12_347 : ((Jvm.Cond.constantLong "RoundRowsModel" (347 : Nat) (2 : Int64))) ∈ TW := tw_7 138 rfl rfl
theorem km_X12_349 : (Cond.methodLink RX12 349 yX12_reach) ∈ TW := tw_7 139 rfl rfl
theorem ki_X12_reach : (Cond.instanceMethod yX12_reach) ∈ TW := tw_7 141 rfl rfl
theorem kc_X12_reach : (Cond.code yX12_reach cX12_reach (4 : Nat) (Option.none : Option Jvm.ClassFile.FieldType)) ∈ TW := tw_7 142 rfl rfl
theorem km_X12_300 : (Cond.methodLink RX12 300 yX12_archivesNow) ∈ TW := tw_7 143 rfl rfl
theorem ki_X12_archivesNow : (Cond.instanceMethod yX12_archivesNow) ∈ TW := tw_7 145 rfl rfl
theorem kc_X12_archivesNow : (Cond.code yX12_archivesNow cX12_archivesNow (1 : Nat) (Option.some Jvm.ClassFile.FieldType.int)) ∈ TW := tw_7 146 rfl rfl
theorem km_X12_353 : (Cond.methodLink RX12 353 yX12_gather) ∈ TW := tw_7 147 rfl rfl
theorem ki_X12_gather : (Cond.instanceMethod yX12_gather) ∈ TW := tw_7 149 rfl rfl
theorem kc_X12_gather : (Cond.code yX12_gather cX12_gather (8 : Nat) (Option.none : Option Jvm.ClassFile.FieldType)) ∈ TW := tw_7 150 rfl rfl
theorem km_X12_366 : (Cond.methodLink RX12 366 yX12_atGather) ∈ TW := tw_7 151 rfl rfl
theorem ks_X12_atGather : (Cond.static yX12_atGather) ∈ TW := tw_7 152 rfl rfl
theorem kc_X12_atGather : (Cond.code yX12_atGather cX12_atGather (3 : Nat) (Option.some Jvm.ClassFile.FieldType.int)) ∈ TW := tw_7 153 rfl rfl
theorem km_X12_357 : (Cond.methodLink RX12 357 yX12_isFollowed) ∈ TW := tw_7 154 rfl rfl
theorem ki_X12_isFollowed : (Cond.instanceMethod yX12_isFollowed) ∈ TW := tw_7 156 rfl rfl
theorem kc_X12_isFollowed : (Cond.code yX12_isFollowed cX12_isFollowed (2 : Nat) (Option.some Jvm.ClassFile.FieldType.boolean)) ∈ TW := tw_7 157 rfl rfl
theorem km_X12_306 : (Cond.methodLink RX12 306 yX12_isMeasure) ∈ TW := tw_7 158 rfl rfl
theorem ki_X12_isMeasure : (Cond.instanceMethod yX12_isMeasure) ∈ TW := tw_7 160 rfl rfl
theorem kc_X12_isMeasure : (Cond.code yX12_isMeasure cX12_isMeasure (2 : Nat) (Option.some Jvm.ClassFile.FieldType.boolean)) ∈ TW := tw_7 161 rfl rfl
theorem km_X12_360 : (Cond.methodLink RX12 360 yX12_follow) ∈ TW := tw_7 162 rfl rfl
theorem ki_X12_follow : (Cond.instanceMethod yX12_follow) ∈ TW := tw_7 164 rfl rfl
theorem kc_X12_follow : (Cond.code yX12_follow cX12_follow (11 : Nat) (Option.none : Option Jvm.ClassFile.FieldType)) ∈ TW := tw_7 165 rfl rfl
theorem km_X12_388 : (Cond.methodLink RX12 388 yX12_atForecast) ∈ TW := tw_7 166 rfl rfl
theorem ks_X12_atForecast : (Cond.static yX12_atForecast) ∈ TW := tw_7 167 rfl rfl
theorem kc_X12_atForecast : (Cond.code yX12_atForecast cX12_atForecast (2 : Nat) (Option.some Jvm.ClassFile.FieldType.int)) ∈ TW := tw_7 168 rfl rfl
theorem km_X12_384 : (Cond.methodLink RX12 384 yX12_held) ∈ TW := tw_7 169 rfl rfl
theorem ks_X12_held : (Cond.static yX12_held) ∈ TW := tw_7 170 rfl rfl
theorem kc_X12_held : (Cond.code yX12_held cX12_held (2 : Nat) (Option.some Jvm.ClassFile.FieldType.long)) ∈ TW := tw_7 171 rfl rfl
theorem kj_X12_138 : ((Jvm.Cond.constantLong "RoundRowsModel" (138 : Nat) (2000000000 : Int64))) ∈ TW := tw_7 172 rfl rfl
theorem kj_X12_140 : ((Jvm.Cond.constantLong "RoundRowsModel" (140 : Nat) (-2000000000 : Int64))) ∈ TW := tw_7 173 rfl rfl
theorem km_X12_391 : (Cond.methodLink RX12 391 yX12_placeNow) ∈ TW := tw_7 174 rfl rfl
theorem ki_X12_placeNow : (Cond.instanceMethod yX12_placeNow) ∈ TW := tw_7 176 rfl rfl
theorem kc_X12_placeNow : (Cond.code yX12_placeNow cX12_placeNow (4 : Nat) (Option.some Jvm.ClassFile.FieldType.int)) ∈ TW := tw_7 177 rfl rfl
theorem km_X12_395 : (Cond.methodLink RX12 395 yX12_tells) ∈ TW := tw_7 178 rfl rfl
theorem ki_X12_tells : (Cond.instanceMethod yX12_tells) ∈ TW := tw_7 180 rfl rfl
theorem kc_X12_tells : (Cond.code yX12_tells cX12_tells (3 : Nat) (Option.some Jvm.ClassFile.FieldType.long)) ∈ TW := tw_7 181 rfl rfl
theorem km_X12_398 : (Cond.methodLink RX12 398 yX12_keepTold) ∈ TW := tw_7 182 rfl rfl
theorem ki_X12_keepTold : (Cond.instanceMethod yX12_keepTold) ∈ TW := tw_7 184 rfl rfl
theorem kc_X12_keepTold : (Cond.code yX12_keepTold cX12_keepTold (6 : Nat) (Option.none : Option Jvm.ClassFile.FieldType)) ∈ TW := tw_7 185 rfl rfl
theorem kj_X12_405 : ((Jvm.Cond.constantLong "RoundRowsModel" (405 : Nat) (30 : Int64))) ∈ TW := tw_7 186 rfl rfl
theorem km_X12_402 : (Cond.methodLink RX12 402 yX12_learn) ∈ TW := tw_7 187 rfl rfl
theorem ki_X12_learn : (Cond.instanceMethod yX12_learn) ∈ TW := tw_7 189 rfl rfl
theorem kc_X12_learn : (Cond.code yX12_learn cX12_learn (16 : Nat) (Option.none : Option Jvm.ClassFile.FieldType)) ∈ TW := tw_7 190 rfl rfl
theorem km_X12_407 : (Cond.methodLink RX12 407 yX12_mixed) ∈ TW := tw_7 191 rfl rfl
theorem ks_X12_mixed : (Cond.static yX12_mixed) ∈ TW := tw_7 192 rfl rfl
theorem kc_X12_mixed : (Cond.code yX12_mixed cX12_mixed (5 : Nat) (Option.some Jvm.ClassFile.FieldType.long)) ∈ TW := tw_7 193 rfl rfl
theorem kj_X12_382 : ((Jvm.Cond.constantLong "RoundRowsModel" (382 : Nat) (16 : Int64))) ∈ TW := tw_7 194 rfl rfl
theorem km_X12_363 : (Cond.methodLink RX12 363 yX12_closeRow) ∈ TW := tw_7 195 rfl rfl
theorem ki_X12_closeRow : (Cond.instanceMethod yX12_closeRow) ∈ TW := tw_7 197 rfl rfl
theorem kc_X12_closeRow : (Cond.code yX12_closeRow cX12_closeRow (4 : Nat) (Option.none : Option Jvm.ClassFile.FieldType)) ∈ TW := tw_7 198 rfl rfl
theorem km_X12_372 : (Cond.methodLink RX12 372 yX12_rowsKept) ∈ TW := tw_7 199 rfl rfl
theorem ki_X12_rowsKept : (Cond.instanceMethod yX12_rowsKept) ∈ TW := tw_7 201 rfl rfl
theorem kc_X12_rowsKept : (Cond.code yX12_rowsKept cX12_rowsKept (2 : Nat) (Option.some Jvm.ClassFile.FieldType.int)) ∈ TW := tw_7 202 rfl rfl
theorem km_X12_375 : (Cond.methodLink RX12 375 yX12_atRow) ∈ TW := tw_7 203 rfl rfl
theorem ks_X12_atRow : (Cond.static yX12_atRow) ∈ TW := tw_7 204 rfl rfl
theorem kc_X12_atRow : (Cond.code yX12_atRow cX12_atRow (3 : Nat) (Option.some Jvm.ClassFile.FieldType.int)) ∈ TW := tw_7 205 rfl rfl
theorem km_X12_378 : (Cond.methodLink RX12 378 yX12_gatheredBy) ∈ TW := tw_7 206 rfl rfl
theorem ki_X12_gatheredBy : (Cond.instanceMethod yX12_gatheredBy) ∈ TW := tw_7 208 rfl rfl
theorem kc_X12_gatheredBy : (Cond.code yX12_gatheredBy cX12_gatheredBy (4 : Nat) (Option.some Jvm.ClassFile.FieldType.long)) ∈ TW := tw_7 209 rfl rfl
theorem kj_X12_370 : ((Jvm.Cond.constantLong "RoundRowsModel" (370 : Nat) (10 : Int64))) ∈ TW := tw_7 210 rfl rfl
theorem km_L_40 : (Cond.methodLink RL 40 yX12_turn) ∈ TW := tw_7 211 rfl rfl
theorem ki_X12_turn : (Cond.instanceMethod yX12_turn) ∈ TW := tw_7 212 rfl rfl
theorem kv_X12_turn : (Cond.selects RX12 yX12_turn yX12_turn) ∈ TW := tw_7 213 rfl rfl
theorem kc_X12_turn : (Cond.code yX12_turn cX12_turn (5 : Nat) (Option.some Jvm.ClassFile.FieldType.int)) ∈ TW := tw_7 214 rfl rfl
theorem km_X12_424 : (Cond.methodLink RX12 424 yX12_canTurn) ∈ TW := tw_7 215 rfl rfl
theorem ki_X12_canTurn : (Cond.instanceMethod yX12_canTurn) ∈ TW := tw_7 217 rfl rfl
theorem kc_X12_canTurn : (Cond.code yX12_canTurn cX12_canTurn (4 : Nat) (Option.some Jvm.ClassFile.FieldType.boolean)) ∈ TW := tw_7 218 rfl rfl
theorem km_L_54 : (Cond.methodLink RL 54 yX12_measure) ∈ TW := tw_7 219 rfl rfl
theorem ki_X12_measure : (Cond.instanceMethod yX12_measure) ∈ TW := tw_7 220 rfl rfl
theorem kv_X12_measure : (Cond.selects RX12 yX12_measure yX12_measure) ∈ TW := tw_7 221 rfl rfl
theorem kc_X12_measure : (Cond.code yX12_measure cX12_measure (3 : Nat) (Option.some Jvm.ClassFile.FieldType.int)) ∈ TW := tw_7 222 rfl rfl
theorem km_L_58 : (Cond.methodLink RL 58 yX12_rate) ∈ TW := tw_7 223 rfl rfl
theorem ki_X12_rate : (Cond.instanceMethod yX12_rate) ∈ TW := tw_7 224 rfl rfl
theorem kv_X12_rate : (Cond.selects RX12 yX12_rate yX12_rate) ∈ TW := tw_7 225 rfl rfl
theorem kc_X12_rate : (Cond.code yX12_rate cX12_rate (2 : Nat) (Option.some Jvm.ClassFile.FieldType.int)) ∈ TW := tw_7 226 rfl rfl
theorem kk_X12_428 : ((Jvm.Cond.constant "RoundRowsModel" (428 : Nat) (-2147483648 : Int32))) ∈ TW := tw_7 227 rfl rfl
theorem km_L_62 : (Cond.methodLink RL 62 yX12_value) ∈ TW := tw_7 228 rfl rfl
theorem ki_X12_value : (Cond.instanceMethod yX12_value) ∈ TW := tw_7 229 rfl rfl
theorem kv_X12_value : (Cond.selects RX12 yX12_value yX12_value) ∈ TW := tw_7 230 rfl rfl
theorem kc_X12_value : (Cond.code yX12_value cX12_value (2 : Nat) (Option.some Jvm.ClassFile.FieldType.int)) ∈ TW := tw_7 231 rfl rfl
theorem km_L_66 : (Cond.methodLink RL 66 yX12_archive) ∈ TW := tw_7 232 rfl rfl
theorem ki_X12_archive : (Cond.instanceMethod yX12_archive) ∈ TW := tw_7 233 rfl rfl
theorem kv_X12_archive : (Cond.selects RX12 yX12_archive yX12_archive) ∈ TW := tw_7 234 rfl rfl
theorem kc_X12_archive : (Cond.code yX12_archive cX12_archive (4 : Nat) (Option.some Jvm.ClassFile.FieldType.int)) ∈ TW := tw_7 235 rfl rfl
theorem km_X12_303 : (Cond.methodLink RX12 303 yX12_isArchive) ∈ TW := tw_7 236 rfl rfl
theorem ki_X12_isArchive : (Cond.instanceMethod yX12_isArchive) ∈ TW := tw_7 238 rfl rfl
theorem kc_X12_isArchive : (Cond.code yX12_isArchive cX12_isArchive (2 : Nat) (Option.some Jvm.ClassFile.FieldType.boolean)) ∈ TW := tw_7 239 rfl rfl
theorem km_X12_432 : (Cond.methodLink RX12 432 yX12_overAt) ∈ TW := tw_8 0 rfl rfl
theorem ki_X12_overAt : (Cond.instanceMethod yX12_overAt) ∈ TW := tw_8 2 rfl rfl
theorem kc_X12_overAt : (Cond.code yX12_overAt cX12_overAt (2 : Nat) (Option.some Jvm.ClassFile.FieldType.int)) ∈ TW := tw_8 3 rfl rfl
theorem km_X12_429 : (Cond.methodLink RX12 429 yX12_unitsOf) ∈ TW := tw_8 4 rfl rfl
theorem ki_X12_unitsOf : (Cond.instanceMethod yX12_unitsOf) ∈ TW := tw_8 6 rfl rfl
theorem kc_X12_unitsOf : (Cond.code yX12_unitsOf cX12_unitsOf (2 : Nat) (Option.some Jvm.ClassFile.FieldType.int)) ∈ TW := tw_8 7 rfl rfl
theorem km_L_70 : (Cond.methodLink RL 70 yX12_row) ∈ TW := tw_8 8 rfl rfl
theorem ki_X12_row : (Cond.instanceMethod yX12_row) ∈ TW := tw_8 9 rfl rfl
theorem kv_X12_row : (Cond.selects RX12 yX12_row yX12_row) ∈ TW := tw_8 10 rfl rfl
theorem kc_X12_row : (Cond.code yX12_row cX12_row (4 : Nat) (Option.some Jvm.ClassFile.FieldType.int)) ∈ TW := tw_8 11 rfl rfl
theorem km_X12_438 : (Cond.methodLink RX12 438 yX12_isRow) ∈ TW := tw_8 12 rfl rfl
theorem ki_X12_isRow : (Cond.instanceMethod yX12_isRow) ∈ TW := tw_8 14 rfl rfl
theorem kc_X12_isRow : (Cond.code yX12_isRow cX12_isRow (4 : Nat) (Option.some Jvm.ClassFile.FieldType.boolean)) ∈ TW := tw_8 15 rfl rfl
theorem km_X12_435 : (Cond.methodLink RX12 435 yX12_isBoth) ∈ TW := tw_8 16 rfl rfl
theorem ki_X12_isBoth : (Cond.instanceMethod yX12_isBoth) ∈ TW := tw_8 18 rfl rfl
theorem kc_X12_isBoth : (Cond.code yX12_isBoth cX12_isBoth (3 : Nat) (Option.some Jvm.ClassFile.FieldType.boolean)) ∈ TW := tw_8 19 rfl rfl
theorem km_L_74 : (Cond.methodLink RL 74 yX12_rowAt) ∈ TW := tw_8 20 rfl rfl
theorem ki_X12_rowAt : (Cond.instanceMethod yX12_rowAt) ∈ TW := tw_8 21 rfl rfl
theorem kv_X12_rowAt : (Cond.selects RX12 yX12_rowAt yX12_rowAt) ∈ TW := tw_8 22 rfl rfl
theorem kc_X12_rowAt : (Cond.code yX12_rowAt cX12_rowAt (4 : Nat) (Option.some Jvm.ClassFile.FieldType.int)) ∈ TW := tw_8 23 rfl rfl
theorem km_X12_441 : (Cond.methodLink RX12 441 yX12_beginOf) ∈ TW := tw_8 24 rfl rfl
theorem ki_X12_beginOf : (Cond.instanceMethod yX12_beginOf) ∈ TW := tw_8 26 rfl rfl
theorem kc_X12_beginOf : (Cond.code yX12_beginOf cX12_beginOf (3 : Nat) (Option.some Jvm.ClassFile.FieldType.int)) ∈ TW := tw_8 27 rfl rfl
theorem km_L_78 : (Cond.methodLink RL 78 yX12_over) ∈ TW := tw_8 28 rfl rfl
theorem ki_X12_over : (Cond.instanceMethod yX12_over) ∈ TW := tw_8 29 rfl rfl
theorem kv_X12_over : (Cond.selects RX12 yX12_over yX12_over) ∈ TW := tw_8 30 rfl rfl
theorem kc_X12_over : (Cond.code yX12_over cX12_over (6 : Nat) (Option.some Jvm.ClassFile.FieldType.int)) ∈ TW := tw_8 31 rfl rfl
theorem km_X12_464 : (Cond.methodLink RX12 464 yX12_laySpan) ∈ TW := tw_8 32 rfl rfl
theorem ki_X12_laySpan : (Cond.instanceMethod yX12_laySpan) ∈ TW := tw_8 34 rfl rfl
theorem kc_X12_laySpan : (Cond.code yX12_laySpan cX12_laySpan (8 : Nat) (Option.none : Option Jvm.ClassFile.FieldType)) ∈ TW := tw_8 35 rfl rfl
theorem km_X12_460 : (Cond.methodLink RX12 460 yX12_isWithin) ∈ TW := tw_8 36 rfl rfl
theorem ki_X12_isWithin : (Cond.instanceMethod yX12_isWithin) ∈ TW := tw_8 38 rfl rfl
theorem kc_X12_isWithin : (Cond.code yX12_isWithin cX12_isWithin (5 : Nat) (Option.some Jvm.ClassFile.FieldType.boolean)) ∈ TW := tw_8 39 rfl rfl
theorem km_L_104 : (Cond.methodLink RL 104 yX12_total) ∈ TW := tw_8 40 rfl rfl
theorem ki_X12_total : (Cond.instanceMethod yX12_total) ∈ TW := tw_8 41 rfl rfl
theorem kv_X12_total : (Cond.selects RX12 yX12_total yX12_total) ∈ TW := tw_8 42 rfl rfl
theorem kc_X12_total : (Cond.code yX12_total cX12_total (5 : Nat) (Option.some Jvm.ClassFile.FieldType.long)) ∈ TW := tw_8 43 rfl rfl
theorem km_L_82 : (Cond.methodLink RL 82 yX12_share) ∈ TW := tw_8 44 rfl rfl
theorem ki_X12_share : (Cond.instanceMethod yX12_share) ∈ TW := tw_8 45 rfl rfl
theorem kv_X12_share : (Cond.selects RX12 yX12_share yX12_share) ∈ TW := tw_8 46 rfl rfl
theorem kc_X12_share : (Cond.code yX12_share cX12_share (10 : Nat) (Option.some Jvm.ClassFile.FieldType.int)) ∈ TW := tw_8 47 rfl rfl
theorem kj_X12_467 : ((Jvm.Cond.constantLong "RoundRowsModel" (467 : Nat) (100 : Int64))) ∈ TW := tw_8 48 rfl rfl
theorem km_X12_469 : (Cond.methodLink RX12 469 yX12_knownRows) ∈ TW := tw_8 49 rfl rfl
theorem ki_X12_knownRows : (Cond.instanceMethod yX12_knownRows) ∈ TW := tw_8 51 rfl rfl
theorem kc_X12_knownRows : (Cond.code yX12_knownRows cX12_knownRows (5 : Nat) (Option.some Jvm.ClassFile.FieldType.int)) ∈ TW := tw_8 52 rfl rfl
theorem km_X12_472 : (Cond.methodLink RX12 472 yX12_noGreater) ∈ TW := tw_8 53 rfl rfl
theorem ki_X12_noGreater : (Cond.instanceMethod yX12_noGreater) ∈ TW := tw_8 55 rfl rfl
theorem kc_X12_noGreater : (Cond.code yX12_noGreater cX12_noGreater (7 : Nat) (Option.some Jvm.ClassFile.FieldType.int)) ∈ TW := tw_8 56 rfl rfl
theorem km_L_87 : (Cond.methodLink RL 87 yX12_smooth) ∈ TW := tw_8 57 rfl rfl
theorem ki_X12_smooth : (Cond.instanceMethod yX12_smooth) ∈ TW := tw_8 58 rfl rfl
theorem kv_X12_smooth : (Cond.selects RX12 yX12_smooth yX12_smooth) ∈ TW := tw_8 59 rfl rfl
theorem kc_X12_smooth : (Cond.code yX12_smooth cX12_smooth (11 : Nat) (Option.some Jvm.ClassFile.FieldType.int)) ∈ TW := tw_8 60 rfl rfl
theorem km_L_91 : (Cond.methodLink RL 91 yX12_alike) ∈ TW := tw_8 61 rfl rfl
theorem ki_X12_alike : (Cond.instanceMethod yX12_alike) ∈ TW := tw_8 62 rfl rfl
theorem kv_X12_alike : (Cond.selects RX12 yX12_alike yX12_alike) ∈ TW := tw_8 63 rfl rfl
theorem kc_X12_alike : (Cond.code yX12_alike cX12_alike (6 : Nat) (Option.some Jvm.ClassFile.FieldType.int)) ∈ TW := tw_8 64 rfl rfl
theorem km_X12_476 : (Cond.methodLink RX12 476 yX12_wayOf) ∈ TW := tw_8 65 rfl rfl
theorem ki_X12_wayOf : (Cond.instanceMethod yX12_wayOf) ∈ TW := tw_8 67 rfl rfl
theorem kc_X12_wayOf : (Cond.code yX12_wayOf cX12_wayOf (8 : Nat) (Option.some Jvm.ClassFile.FieldType.int)) ∈ TW := tw_8 68 rfl rfl
theorem km_L_95 : (Cond.methodLink RL 95 yX12_left) ∈ TW := tw_8 69 rfl rfl
theorem ki_X12_left : (Cond.instanceMethod yX12_left) ∈ TW := tw_8 70 rfl rfl
theorem kv_X12_left : (Cond.selects RX12 yX12_left yX12_left) ∈ TW := tw_8 71 rfl rfl
theorem kc_X12_left : (Cond.code yX12_left cX12_left (2 : Nat) (Option.some Jvm.ClassFile.FieldType.int)) ∈ TW := tw_8 72 rfl rfl
theorem km_L_99 : (Cond.methodLink RL 99 yX12_gap) ∈ TW := tw_8 73 rfl rfl
theorem ki_X12_gap : (Cond.instanceMethod yX12_gap) ∈ TW := tw_8 74 rfl rfl
theorem kv_X12_gap : (Cond.selects RX12 yX12_gap yX12_gap) ∈ TW := tw_8 75 rfl rfl
theorem kc_X12_gap : (Cond.code yX12_gap cX12_gap (8 : Nat) (Option.some Jvm.ClassFile.FieldType.int)) ∈ TW := tw_8 76 rfl rfl
theorem km_L_108 : (Cond.methodLink RL 108 yX12_rise) ∈ TW := tw_8 77 rfl rfl
theorem ki_X12_rise : (Cond.instanceMethod yX12_rise) ∈ TW := tw_8 78 rfl rfl
theorem kv_X12_rise : (Cond.selects RX12 yX12_rise yX12_rise) ∈ TW := tw_8 79 rfl rfl
theorem kc_X12_rise : (Cond.code yX12_rise cX12_rise (18 : Nat) (Option.some Jvm.ClassFile.FieldType.int)) ∈ TW := tw_8 80 rfl rfl
theorem km_L_112 : (Cond.methodLink RL 112 yX12_best) ∈ TW := tw_8 81 rfl rfl
theorem ki_X12_best : (Cond.instanceMethod yX12_best) ∈ TW := tw_8 82 rfl rfl
theorem kv_X12_best : (Cond.selects RX12 yX12_best yX12_best) ∈ TW := tw_8 83 rfl rfl
theorem kc_X12_best : (Cond.code yX12_best cX12_best (5 : Nat) (Option.some Jvm.ClassFile.FieldType.int)) ∈ TW := tw_8 84 rfl rfl
theorem km_X12_482 : (Cond.methodLink RX12 482 yX12_isBetter) ∈ TW := tw_8 85 rfl rfl
theorem ki_X12_isBetter : (Cond.instanceMethod yX12_isBetter) ∈ TW := tw_8 87 rfl rfl
theorem kc_X12_isBetter : (Cond.code yX12_isBetter cX12_isBetter (6 : Nat) (Option.some Jvm.ClassFile.FieldType.boolean)) ∈ TW := tw_8 88 rfl rfl
theorem km_X12_479 : (Cond.methodLink RX12 479 yX12_eldestFrom) ∈ TW := tw_8 89 rfl rfl
theorem ki_X12_eldestFrom : (Cond.instanceMethod yX12_eldestFrom) ∈ TW := tw_8 91 rfl rfl
theorem kc_X12_eldestFrom : (Cond.code yX12_eldestFrom cX12_eldestFrom (2 : Nat) (Option.some Jvm.ClassFile.FieldType.int)) ∈ TW := tw_8 92 rfl rfl
theorem km_L_116 : (Cond.methodLink RL 116 yX12_forecast) ∈ TW := tw_8 93 rfl rfl
theorem ki_X12_forecast : (Cond.instanceMethod yX12_forecast) ∈ TW := tw_8 94 rfl rfl
theorem kv_X12_forecast : (Cond.selects RX12 yX12_forecast yX12_forecast) ∈ TW := tw_8 95 rfl rfl
theorem kc_X12_forecast : (Cond.code yX12_forecast cX12_forecast (3 : Nat) (Option.some Jvm.ClassFile.FieldType.int)) ∈ TW := tw_8 96 rfl rfl
theorem km_L_120 : (Cond.methodLink RL 120 yX12_place) ∈ TW := tw_8 97 rfl rfl
theorem ki_X12_place : (Cond.instanceMethod yX12_place) ∈ TW := tw_8 98 rfl rfl
theorem kv_X12_place : (Cond.selects RX12 yX12_place yX12_place) ∈ TW := tw_8 99 rfl rfl
theorem kc_X12_place : (Cond.code yX12_place cX12_place (4 : Nat) (Option.some Jvm.ClassFile.FieldType.int)) ∈ TW := tw_8 100 rfl rfl
theorem km_L_124 : (Cond.methodLink RL 124 yX12_told) ∈ TW := tw_8 101 rfl rfl
theorem ki_X12_told : (Cond.instanceMethod yX12_told) ∈ TW := tw_8 102 rfl rfl
theorem kv_X12_told : (Cond.selects RX12 yX12_told yX12_told) ∈ TW := tw_8 103 rfl rfl
theorem kc_X12_told : (Cond.code yX12_told cX12_told (4 : Nat) (Option.some Jvm.ClassFile.FieldType.int)) ∈ TW := tw_8 104 rfl rfl
theorem km_L_128 : (Cond.methodLink RL 128 yX12_odd) ∈ TW := tw_8 105 rfl rfl
theorem ki_X12_odd : (Cond.instanceMethod yX12_odd) ∈ TW := tw_8 106 rfl rfl
theorem kv_X12_odd : (Cond.selects RX12 yX12_odd yX12_odd) ∈ TW := tw_8 107 rfl rfl
theorem kc_X12_odd : (Cond.code yX12_odd cX12_odd (5 : Nat) (Option.some Jvm.ClassFile.FieldType.int)) ∈ TW := tw_8 108 rfl rfl
theorem km_L_132 : (Cond.methodLink RL 132 yX12_alarms) ∈ TW := tw_8 109 rfl rfl
theorem ki_X12_alarms : (Cond.instanceMethod yX12_alarms) ∈ TW := tw_8 110 rfl rfl
theorem kv_X12_alarms : (Cond.selects RX12 yX12_alarms yX12_alarms) ∈ TW := tw_8 111 rfl rfl
theorem kc_X12_alarms : (Cond.code yX12_alarms cX12_alarms (6 : Nat) (Option.some Jvm.ClassFile.FieldType.int)) ∈ TW := tw_8 112 rfl rfl
theorem km_X12_485 : (Cond.methodLink RX12 485 yX12_oddFrom) ∈ TW := tw_8 113 rfl rfl
theorem ki_X12_oddFrom : (Cond.instanceMethod yX12_oddFrom) ∈ TW := tw_8 115 rfl rfl
theorem kc_X12_oddFrom : (Cond.code yX12_oddFrom cX12_oddFrom (6 : Nat) (Option.some Jvm.ClassFile.FieldType.int)) ∈ TW := tw_8 116 rfl rfl
theorem km_L_136 : (Cond.methodLink RL 136 yX12_ahead) ∈ TW := tw_8 117 rfl rfl
theorem ki_X12_ahead : (Cond.instanceMethod yX12_ahead) ∈ TW := tw_8 118 rfl rfl
theorem kv_X12_ahead : (Cond.selects RX12 yX12_ahead yX12_ahead) ∈ TW := tw_8 119 rfl rfl
theorem kc_X12_ahead : (Cond.code yX12_ahead cX12_ahead (8 : Nat) (Option.some Jvm.ClassFile.FieldType.int)) ∈ TW := tw_8 120 rfl rfl
theorem kj_X12_488 : ((Jvm.Cond.constantLong "RoundRowsModel" (488 : Nat) (48 : Int64))) ∈ TW := tw_8 121 rfl rfl
theorem km_L_140 : (Cond.methodLink RL 140 yX12_show) ∈ TW := tw_8 122 rfl rfl
theorem ki_X12_show : (Cond.instanceMethod yX12_show) ∈ TW := tw_8 123 rfl rfl
theorem kv_X12_show : (Cond.selects RX12 yX12_show yX12_show) ∈ TW := tw_8 124 rfl rfl
theorem kc_X12_show : (Cond.code yX12_show cX12_show (4 : Nat) (Option.some Jvm.ClassFile.FieldType.int)) ∈ TW := tw_8 125 rfl rfl
theorem km_X12_497 : (Cond.methodLink RX12 497 yX12_isShow) ∈ TW := tw_8 126 rfl rfl
theorem ki_X12_isShow : (Cond.instanceMethod yX12_isShow) ∈ TW := tw_8 128 rfl rfl
theorem kc_X12_isShow : (Cond.code yX12_isShow cX12_isShow (2 : Nat) (Option.some Jvm.ClassFile.FieldType.boolean)) ∈ TW := tw_8 129 rfl rfl
theorem km_X12_500 : (Cond.methodLink RX12 500 yX12_showOf) ∈ TW := tw_8 130 rfl rfl
theorem ki_X12_showOf : (Cond.instanceMethod yX12_showOf) ∈ TW := tw_8 132 rfl rfl
theorem kc_X12_showOf : (Cond.code yX12_showOf cX12_showOf (8 : Nat) (Option.some Jvm.ClassFile.FieldType.long)) ∈ TW := tw_8 133 rfl rfl
theorem km_X12_490 : (Cond.methodLink RX12 490 yX12_madeOf) ∈ TW := tw_8 134 rfl rfl
theorem ks_X12_madeOf : (Cond.static yX12_madeOf) ∈ TW := tw_8 135 rfl rfl
theorem kc_X12_madeOf : (Cond.code yX12_madeOf cX12_madeOf (5 : Nat) (Option.some Jvm.ClassFile.FieldType.long)) ∈ TW := tw_8 136 rfl rfl
theorem km_X12_493 : (Cond.methodLink RX12 493 yX12_unitAt) ∈ TW := tw_8 137 rfl rfl
theorem ki_X12_unitAt : (Cond.instanceMethod yX12_unitAt) ∈ TW := tw_8 139 rfl rfl
theorem kc_X12_unitAt : (Cond.code yX12_unitAt cX12_unitAt (4 : Nat) (Option.some Jvm.ClassFile.FieldType.long)) ∈ TW := tw_8 140 rfl rfl
theorem km_L_144 : (Cond.methodLink RL 144 yX12_shows) ∈ TW := tw_8 141 rfl rfl
theorem ki_X12_shows : (Cond.instanceMethod yX12_shows) ∈ TW := tw_8 142 rfl rfl
theorem kv_X12_shows : (Cond.selects RX12 yX12_shows yX12_shows) ∈ TW := tw_8 143 rfl rfl
theorem kc_X12_shows : (Cond.code yX12_shows cX12_shows (13 : Nat) (Option.some Jvm.ClassFile.FieldType.int)) ∈ TW := tw_8 144 rfl rfl
theorem km_L_148 : (Cond.methodLink RL 148 yX12_would) ∈ TW := tw_8 145 rfl rfl
theorem ki_X12_would : (Cond.instanceMethod yX12_would) ∈ TW := tw_8 146 rfl rfl
theorem kv_X12_would : (Cond.selects RX12 yX12_would yX12_would) ∈ TW := tw_8 147 rfl rfl
theorem kc_X12_would : (Cond.code yX12_would cX12_would (9 : Nat) (Option.some Jvm.ClassFile.FieldType.int)) ∈ TW := tw_8 148 rfl rfl
theorem km_L_152 : (Cond.methodLink RL 152 yX12_fits) ∈ TW := tw_8 149 rfl rfl
theorem ki_X12_fits : (Cond.instanceMethod yX12_fits) ∈ TW := tw_8 150 rfl rfl
theorem kv_X12_fits : (Cond.selects RX12 yX12_fits yX12_fits) ∈ TW := tw_8 151 rfl rfl
theorem kc_X12_fits : (Cond.code yX12_fits cX12_fits (9 : Nat) (Option.some Jvm.ClassFile.FieldType.int)) ∈ TW := tw_8 152 rfl rfl
theorem km_X12_507 : (Cond.methodLink RX12 507 yX12_leastIn) ∈ TW := tw_8 153 rfl rfl
theorem ki_X12_leastIn : (Cond.instanceMethod yX12_leastIn) ∈ TW := tw_8 155 rfl rfl
theorem kc_X12_leastIn : (Cond.code yX12_leastIn cX12_leastIn (13 : Nat) (Option.some Jvm.ClassFile.FieldType.int)) ∈ TW := tw_8 156 rfl rfl
theorem km_X12_503 : (Cond.methodLink RX12 503 yX12_isEnough) ∈ TW := tw_8 157 rfl rfl
theorem ki_X12_isEnough : (Cond.instanceMethod yX12_isEnough) ∈ TW := tw_8 159 rfl rfl
theorem kc_X12_isEnough : (Cond.code yX12_isEnough cX12_isEnough (8 : Nat) (Option.some Jvm.ClassFile.FieldType.boolean)) ∈ TW := tw_8 160 rfl rfl
theorem km_L_156 : (Cond.methodLink RL 156 yX12_law) ∈ TW := tw_8 161 rfl rfl
theorem ki_X12_law : (Cond.instanceMethod yX12_law) ∈ TW := tw_8 162 rfl rfl
theorem kv_X12_law : (Cond.selects RX12 yX12_law yX12_law) ∈ TW := tw_8 163 rfl rfl
theorem kc_X12_law : (Cond.code yX12_law cX12_law (5 : Nat) (Option.some Jvm.ClassFile.FieldType.int)) ∈ TW := tw_8 164 rfl rfl
theorem km_X12_511 : (Cond.methodLink RX12 511 yX12_isBeyond) ∈ TW := tw_8 165 rfl rfl
theorem ki_X12_isBeyond : (Cond.instanceMethod yX12_isBeyond) ∈ TW := tw_8 167 rfl rfl
theorem kc_X12_isBeyond : (Cond.code yX12_isBeyond cX12_isBeyond (4 : Nat) (Option.some Jvm.ClassFile.FieldType.boolean)) ∈ TW := tw_8 168 rfl rfl
theorem km_L_45 : (Cond.methodLink RL 45 yX12_undo) ∈ TW := tw_8 169 rfl rfl
theorem ki_X12_undo : (Cond.instanceMethod yX12_undo) ∈ TW := tw_8 170 rfl rfl
theorem kv_X12_undo : (Cond.selects RX12 yX12_undo yX12_undo) ∈ TW := tw_8 171 rfl rfl
theorem kc_X12_undo : (Cond.code yX12_undo cX12_undo (1 : Nat) (Option.some Jvm.ClassFile.FieldType.boolean)) ∈ TW := tw_8 172 rfl rfl
theorem km_X12_514 : (Cond.methodLink RX12 514 yX12_swapAll) ∈ TW := tw_8 173 rfl rfl
theorem ki_X12_swapAll : (Cond.instanceMethod yX12_swapAll) ∈ TW := tw_8 175 rfl rfl
theorem kc_X12_swapAll : (Cond.code yX12_swapAll cX12_swapAll (4 : Nat) (Option.none : Option Jvm.ClassFile.FieldType)) ∈ TW := tw_8 176 rfl rfl
theorem km_L_49 : (Cond.methodLink RL 49 yX12_redo) ∈ TW := tw_8 177 rfl rfl
theorem ki_X12_redo : (Cond.instanceMethod yX12_redo) ∈ TW := tw_8 178 rfl rfl
theorem kv_X12_redo : (Cond.selects RX12 yX12_redo yX12_redo) ∈ TW := tw_8 179 rfl rfl
theorem kc_X12_redo : (Cond.code yX12_redo cX12_redo (1 : Nat) (Option.some Jvm.ClassFile.FieldType.boolean)) ∈ TW := tw_8 180 rfl rfl
theorem km_L_160 : (Cond.methodLink RL 160 yX12_image) ∈ TW := tw_8 181 rfl rfl
theorem ki_X12_image : (Cond.instanceMethod yX12_image) ∈ TW := tw_8 182 rfl rfl
theorem kv_X12_image : (Cond.selects RX12 yX12_image yX12_image) ∈ TW := tw_8 183 rfl rfl
theorem kc_X12_image : (Cond.code yX12_image cX12_image (3 : Nat) (Option.some Jvm.ClassFile.FieldType.int)) ∈ TW := tw_8 184 rfl rfl
theorem km_L_164 : (Cond.methodLink RL 164 yX12_back) ∈ TW := tw_8 185 rfl rfl
theorem ki_X12_back : (Cond.instanceMethod yX12_back) ∈ TW := tw_8 186 rfl rfl
theorem kv_X12_back : (Cond.selects RX12 yX12_back yX12_back) ∈ TW := tw_8 187 rfl rfl
theorem kc_X12_back : (Cond.code yX12_back cX12_back (3 : Nat) (Option.some Jvm.ClassFile.FieldType.int)) ∈ TW := tw_8 188 rfl rfl
theorem km_L_168 : (Cond.methodLink RL 168 yX12_about) ∈ TW := tw_8 189 rfl rfl
theorem ki_X12_about : (Cond.instanceMethod yX12_about) ∈ TW := tw_8 190 rfl rfl
theorem kv_X12_about : (Cond.selects RX12 yX12_about yX12_about) ∈ TW := tw_8 191 rfl rfl
theorem kc_X12_about : (Cond.code yX12_about cX12_about (2 : Nat) (Option.some Jvm.ClassFile.FieldType.int)) ∈ TW := tw_8 192 rfl rfl
theorem km_X12_517 : (Cond.methodLink RX12 517 yX12_followed) ∈ TW := tw_8 193 rfl rfl
theorem ki_X12_followed : (Cond.instanceMethod yX12_followed) ∈ TW := tw_8 195 rfl rfl
theorem kc_X12_followed : (Cond.code yX12_followed cX12_followed (3 : Nat) (Option.some Jvm.ClassFile.FieldType.int)) ∈ TW := tw_8 196 rfl rfl
theorem kf_J0_9 : (Cond.fieldLink RJ0 9 "java/lang/String" "value" "[B") ∈ TW := tw_8 197 rfl rfl
theorem kf_J0_15 : (Cond.fieldLink RJ0 15 "java/lang/String" "coder" "B") ∈ TW := tw_8 198 rfl rfl
theorem tp_1 {q : MethodName × Nat} (j : Nat) (h0 : lw_privs_1[j]? = some q) : Cond.selects q.1.cls q.1 q.1 ∈ TW := by
  have h := List.mem_of_getElem? h0
  exact List.mem_filter.mpr ⟨List.mem_append_left _ (List.mem_map.mpr ⟨q, (List.mem_append_left _ h), rfl⟩), rfl⟩
theorem kv_X10_stopOf : Cond.selects RX10 yX10_stopOf yX10_stopOf ∈ TW := tp_1 (q := (yX10_stopOf, 6)) 0 rfl
theorem kv_X10_kindOf : Cond.selects RX10 yX10_kindOf yX10_kindOf ∈ TW := tp_1 (q := (yX10_kindOf, 6)) 1 rfl
theorem kv_X10_wordKind : Cond.selects RX10 yX10_wordKind yX10_wordKind ∈ TW := tp_1 (q := (yX10_wordKind, 6)) 2 rfl
theorem kv_X10_add : Cond.selects RX10 yX10_add yX10_add ∈ TW := tp_1 (q := (yX10_add, 6)) 3 rfl
theorem kv_X5_kind : Cond.selects RX5 yX5_kind yX5_kind ∈ TW := tp_1 (q := (yX5_kind, 10)) 4 rfl
theorem kv_X10_isToken : Cond.selects RX10 yX10_isToken yX10_isToken ∈ TW := tp_1 (q := (yX10_isToken, 6)) 5 rfl
theorem kv_X5_fail : Cond.selects RX5 yX5_fail yX5_fail ∈ TW := tp_1 (q := (yX5_fail, 10)) 6 rfl
theorem kv_X5_stepLine : Cond.selects RX5 yX5_stepLine yX5_stepLine ∈ TW := tp_1 (q := (yX5_stepLine, 10)) 7 rfl
theorem kv_X5_takeNumber : Cond.selects RX5 yX5_takeNumber yX5_takeNumber ∈ TW := tp_1 (q := (yX5_takeNumber, 10)) 8 rfl
theorem kv_X5_take : Cond.selects RX5 yX5_take yX5_take ∈ TW := tp_1 (q := (yX5_take, 10)) 9 rfl
theorem kv_X5_measureLine : Cond.selects RX5 yX5_measureLine yX5_measureLine ∈ TW := tp_1 (q := (yX5_measureLine, 10)) 10 rfl
theorem kv_X5_newName : Cond.selects RX5 yX5_newName yX5_newName ∈ TW := tp_1 (q := (yX5_newName, 10)) 11 rfl
theorem kv_X5_bearerHere : Cond.selects RX5 yX5_bearerHere yX5_bearerHere ∈ TW := tp_1 (q := (yX5_bearerHere, 10)) 12 rfl
theorem kv_X5_sort : Cond.selects RX5 yX5_sort yX5_sort ∈ TW := tp_1 (q := (yX5_sort, 10)) 13 rfl
theorem kv_X5_widths : Cond.selects RX5 yX5_widths yX5_widths ∈ TW := tp_1 (q := (yX5_widths, 10)) 14 rfl
theorem kv_X5_silence : Cond.selects RX5 yX5_silence yX5_silence ∈ TW := tp_1 (q := (yX5_silence, 10)) 15 rfl
theorem tp_2 {q : MethodName × Nat} (j : Nat) (h0 : lw_privs_2[j]? = some q) : Cond.selects q.1.cls q.1 q.1 ∈ TW := by
  have h := List.mem_of_getElem? h0
  exact List.mem_filter.mpr ⟨List.mem_append_left _ (List.mem_map.mpr ⟨q, (List.mem_append_right _ (List.mem_append_left _ h)), rfl⟩), rfl⟩
theorem kv_X5_bounds : Cond.selects RX5 yX5_bounds yX5_bounds ∈ TW := tp_2 (q := (yX5_bounds, 10)) 0 rfl
theorem kv_X5_remember : Cond.selects RX5 yX5_remember yX5_remember ∈ TW := tp_2 (q := (yX5_remember, 10)) 1 rfl
theorem kv_X5_archiveLine : Cond.selects RX5 yX5_archiveLine yX5_archiveLine ∈ TW := tp_2 (q := (yX5_archiveLine, 10)) 2 rfl
theorem kv_X5_howHere : Cond.selects RX5 yX5_howHere yX5_howHere ∈ TW := tp_2 (q := (yX5_howHere, 10)) 3 rfl
theorem kv_X5_forecastLine : Cond.selects RX5 yX5_forecastLine yX5_forecastLine ∈ TW := tp_2 (q := (yX5_forecastLine, 10)) 4 rfl
theorem kv_X5_forecastNumbers : Cond.selects RX5 yX5_forecastNumbers yX5_forecastNumbers ∈ TW := tp_2 (q := (yX5_forecastNumbers, 10)) 5 rfl
theorem kv_X5_showLine : Cond.selects RX5 yX5_showLine yX5_showLine ∈ TW := tp_2 (q := (yX5_showLine, 10)) 6 rfl
theorem kv_X5_formula : Cond.selects RX5 yX5_formula yX5_formula ∈ TW := tp_2 (q := (yX5_formula, 10)) 7 rfl
theorem kv_X5_unit : Cond.selects RX5 yX5_unit yX5_unit ∈ TW := tp_2 (q := (yX5_unit, 10)) 8 rfl
theorem kv_X5_await : Cond.selects RX5 yX5_await yX5_await ∈ TW := tp_2 (q := (yX5_await, 10)) 9 rfl
theorem kv_X5_release : Cond.selects RX5 yX5_release yX5_release ∈ TW := tp_2 (q := (yX5_release, 10)) 10 rfl
theorem kv_X11_now : Cond.selects RX11 yX11_now yX11_now ∈ TW := tp_2 (q := (yX11_now, 14)) 11 rfl
theorem kv_X11_forgetActs : Cond.selects RX11 yX11_forgetActs yX11_forgetActs ∈ TW := tp_2 (q := (yX11_forgetActs, 14)) 12 rfl
theorem kv_X11_canPass : Cond.selects RX11 yX11_canPass yX11_canPass ∈ TW := tp_2 (q := (yX11_canPass, 14)) 13 rfl
theorem kv_X11_newAct : Cond.selects RX11 yX11_newAct yX11_newAct ∈ TW := tp_2 (q := (yX11_newAct, 14)) 14 rfl
theorem kv_X3_risen : Cond.selects RX3 yX3_risen yX3_risen ∈ TW := tp_2 (q := (yX3_risen, 10)) 15 rfl
theorem tp_3 {q : MethodName × Nat} (j : Nat) (h0 : lw_privs_3[j]? = some q) : Cond.selects q.1.cls q.1 q.1 ∈ TW := by
  have h := List.mem_of_getElem? h0
  exact List.mem_filter.mpr ⟨List.mem_append_left _ (List.mem_map.mpr ⟨q, (List.mem_append_right _ (List.mem_append_right _ (List.mem_append_left _ h))), rfl⟩), rfl⟩
theorem kv_X8_endStep : Cond.selects RX8 yX8_endStep yX8_endStep ∈ TW := tp_3 (q := (yX8_endStep, 5)) 0 rfl
theorem kv_X4_keep : Cond.selects RX4 yX4_keep yX4_keep ∈ TW := tp_3 (q := (yX4_keep, 8)) 1 rfl
theorem kv_X11_isMeasure : Cond.selects RX11 yX11_isMeasure yX11_isMeasure ∈ TW := tp_3 (q := (yX11_isMeasure, 14)) 2 rfl
theorem kv_X11_isBox : Cond.selects RX11 yX11_isBox yX11_isBox ∈ TW := tp_3 (q := (yX11_isBox, 14)) 3 rfl
theorem kv_X11_valueBy : Cond.selects RX11 yX11_valueBy yX11_valueBy ∈ TW := tp_3 (q := (yX11_valueBy, 14)) 4 rfl
theorem kv_X11_stepsBy : Cond.selects RX11 yX11_stepsBy yX11_stepsBy ∈ TW := tp_3 (q := (yX11_stepsBy, 14)) 5 rfl
theorem kv_X11_stepsOver : Cond.selects RX11 yX11_stepsOver yX11_stepsOver ∈ TW := tp_3 (q := (yX11_stepsOver, 14)) 6 rfl
theorem kv_X3_leastCount : Cond.selects RX3 yX3_leastCount yX3_leastCount ∈ TW := tp_3 (q := (yX3_leastCount, 10)) 7 rfl
theorem kv_X11_isArchive : Cond.selects RX11 yX11_isArchive yX11_isArchive ∈ TW := tp_3 (q := (yX11_isArchive, 14)) 8 rfl
theorem kv_X11_keptRows : Cond.selects RX11 yX11_keptRows yX11_keptRows ∈ TW := tp_3 (q := (yX11_keptRows, 14)) 9 rfl
theorem kv_X11_rowsDone : Cond.selects RX11 yX11_rowsDone yX11_rowsDone ∈ TW := tp_3 (q := (yX11_rowsDone, 14)) 10 rfl
theorem kv_X11_rowUnits : Cond.selects RX11 yX11_rowUnits yX11_rowUnits ∈ TW := tp_3 (q := (yX11_rowUnits, 14)) 11 rfl
theorem kv_X11_rowEnd : Cond.selects RX11 yX11_rowEnd yX11_rowEnd ∈ TW := tp_3 (q := (yX11_rowEnd, 14)) 12 rfl
theorem kv_X11_hasRows : Cond.selects RX11 yX11_hasRows yX11_hasRows ∈ TW := tp_3 (q := (yX11_hasRows, 14)) 13 rfl
theorem kv_X11_rowTold : Cond.selects RX11 yX11_rowTold yX11_rowTold ∈ TW := tp_3 (q := (yX11_rowTold, 14)) 14 rfl
theorem kv_X11_rowBegin : Cond.selects RX11 yX11_rowBegin yX11_rowBegin ∈ TW := tp_3 (q := (yX11_rowBegin, 14)) 15 rfl
theorem tp_4 {q : MethodName × Nat} (j : Nat) (h0 : lw_privs_4[j]? = some q) : Cond.selects q.1.cls q.1 q.1 ∈ TW := by
  have h := List.mem_of_getElem? h0
  exact List.mem_filter.mpr ⟨List.mem_append_left _ (List.mem_map.mpr ⟨q, (List.mem_append_right _ (List.mem_append_right _ (List.mem_append_right _ (List.mem_append_left _ h)))), rfl⟩), rfl⟩
theorem kv_X11_tallyWithin : Cond.selects RX11 yX11_tallyWithin yX11_tallyWithin ∈ TW := tp_4 (q := (yX11_tallyWithin, 14)) 0 rfl
theorem kv_X11_rowsUpTo : Cond.selects RX11 yX11_rowsUpTo yX11_rowsUpTo ∈ TW := tp_4 (q := (yX11_rowsUpTo, 14)) 1 rfl
theorem kv_X11_wayOf : Cond.selects RX11 yX11_wayOf yX11_wayOf ∈ TW := tp_4 (q := (yX11_wayOf, 14)) 2 rfl
theorem kv_X11_tellsBetter : Cond.selects RX11 yX11_tellsBetter yX11_tellsBetter ∈ TW := tp_4 (q := (yX11_tellsBetter, 14)) 3 rfl
theorem kv_X11_rowsBeyond : Cond.selects RX11 yX11_rowsBeyond yX11_rowsBeyond ∈ TW := tp_4 (q := (yX11_rowsBeyond, 14)) 4 rfl
theorem kv_X11_hasForecast : Cond.selects RX11 yX11_hasForecast yX11_hasForecast ∈ TW := tp_4 (q := (yX11_hasForecast, 14)) 5 rfl
theorem kv_X4_slotOf : Cond.selects RX4 yX4_slotOf yX4_slotOf ∈ TW := tp_4 (q := (yX4_slotOf, 8)) 6 rfl
theorem kv_X11_isShow : Cond.selects RX11 yX11_isShow yX11_isShow ∈ TW := tp_4 (q := (yX11_isShow, 14)) 7 rfl
theorem kv_X11_showOf : Cond.selects RX11 yX11_showOf yX11_showOf ∈ TW := tp_4 (q := (yX11_showOf, 14)) 8 rfl
theorem kv_X1_run : Cond.selects RX1 yX1_run yX1_run ∈ TW := tp_4 (q := (yX1_run, 9)) 9 rfl
theorem kv_X1_push : Cond.selects RX1 yX1_push yX1_push ∈ TW := tp_4 (q := (yX1_push, 9)) 10 rfl
theorem kv_X1_pop : Cond.selects RX1 yX1_pop yX1_pop ∈ TW := tp_4 (q := (yX1_pop, 9)) 11 rfl
theorem kv_X11_forecastBits : Cond.selects RX11 yX11_forecastBits yX11_forecastBits ∈ TW := tp_4 (q := (yX11_forecastBits, 14)) 12 rfl
theorem kv_X12_clearBank : Cond.selects RX12 yX12_clearBank yX12_clearBank ∈ TW := tp_4 (q := (yX12_clearBank, 60)) 13 rfl
theorem kv_X12_startAnew : Cond.selects RX12 yX12_startAnew yX12_startAnew ∈ TW := tp_4 (q := (yX12_startAnew, 60)) 14 rfl
theorem kv_X12_many : Cond.selects RX12 yX12_many yX12_many ∈ TW := tp_4 (q := (yX12_many, 60)) 15 rfl
theorem tp_5 {q : MethodName × Nat} (j : Nat) (h0 : lw_privs_5[j]? = some q) : Cond.selects q.1.cls q.1 q.1 ∈ TW := by
  have h := List.mem_of_getElem? h0
  exact List.mem_filter.mpr ⟨List.mem_append_left _ (List.mem_map.mpr ⟨q, (List.mem_append_right _ (List.mem_append_right _ (List.mem_append_right _ (List.mem_append_right _ (List.mem_append_left _ h))))), rfl⟩), rfl⟩
theorem kv_X12_readAll : Cond.selects RX12 yX12_readAll yX12_readAll ∈ TW := tp_5 (q := (yX12_readAll, 60)) 0 rfl
theorem kv_X12_scan : Cond.selects RX12 yX12_scan yX12_scan ∈ TW := tp_5 (q := (yX12_scan, 60)) 1 rfl
theorem kv_X12_isBlank : Cond.selects RX12 yX12_isBlank yX12_isBlank ∈ TW := tp_5 (q := (yX12_isBlank, 60)) 2 rfl
theorem kv_X12_signAt : Cond.selects RX12 yX12_signAt yX12_signAt ∈ TW := tp_5 (q := (yX12_signAt, 60)) 3 rfl
theorem kv_X12_scanWord : Cond.selects RX12 yX12_scanWord yX12_scanWord ∈ TW := tp_5 (q := (yX12_scanWord, 60)) 4 rfl
theorem kv_X12_isSame : Cond.selects RX12 yX12_isSame yX12_isSame ∈ TW := tp_5 (q := (yX12_isSame, 60)) 5 rfl
theorem kv_X12_scanNumber : Cond.selects RX12 yX12_scanNumber yX12_scanNumber ∈ TW := tp_5 (q := (yX12_scanNumber, 60)) 6 rfl
theorem kv_X12_needWord : Cond.selects RX12 yX12_needWord yX12_needWord ∈ TW := tp_5 (q := (yX12_needWord, 60)) 7 rfl
theorem kv_X12_isWord : Cond.selects RX12 yX12_isWord yX12_isWord ∈ TW := tp_5 (q := (yX12_isWord, 60)) 8 rfl
theorem kv_X12_fail : Cond.selects RX12 yX12_fail yX12_fail ∈ TW := tp_5 (q := (yX12_fail, 60)) 9 rfl
theorem kv_X12_numeral : Cond.selects RX12 yX12_numeral yX12_numeral ∈ TW := tp_5 (q := (yX12_numeral, 60)) 10 rfl
theorem kv_X12_need : Cond.selects RX12 yX12_need yX12_need ∈ TW := tp_5 (q := (yX12_need, 60)) 11 rfl
theorem kv_X12_isAt : Cond.selects RX12 yX12_isAt yX12_isAt ∈ TW := tp_5 (q := (yX12_isAt, 60)) 12 rfl
theorem kv_X12_readLine : Cond.selects RX12 yX12_readLine yX12_readLine ∈ TW := tp_5 (q := (yX12_readLine, 60)) 13 rfl
theorem kv_X12_readMeasure : Cond.selects RX12 yX12_readMeasure yX12_readMeasure ∈ TW := tp_5 (q := (yX12_readMeasure, 60)) 14 rfl
theorem kv_X12_newName : Cond.selects RX12 yX12_newName yX12_newName ∈ TW := tp_5 (q := (yX12_newName, 60)) 15 rfl
theorem tp_6 {q : MethodName × Nat} (j : Nat) (h0 : lw_privs_6[j]? = some q) : Cond.selects q.1.cls q.1 q.1 ∈ TW := by
  have h := List.mem_of_getElem? h0
  exact List.mem_filter.mpr ⟨List.mem_append_left _ (List.mem_map.mpr ⟨q, (List.mem_append_right _ (List.mem_append_right _ (List.mem_append_right _ (List.mem_append_right _ (List.mem_append_right _ (List.mem_append_left _ h)))))), rfl⟩), rfl⟩
theorem kv_X12_isName : Cond.selects RX12 yX12_isName yX12_isName ∈ TW := tp_6 (q := (yX12_isName, 60)) 0 rfl
theorem kv_X12_nameHere : Cond.selects RX12 yX12_nameHere yX12_nameHere ∈ TW := tp_6 (q := (yX12_nameHere, 60)) 1 rfl
theorem kv_X12_isNamed : Cond.selects RX12 yX12_isNamed yX12_isNamed ∈ TW := tp_6 (q := (yX12_isNamed, 60)) 2 rfl
theorem kv_X12_readArchive : Cond.selects RX12 yX12_readArchive yX12_readArchive ∈ TW := tp_6 (q := (yX12_readArchive, 60)) 3 rfl
theorem kv_X12_readForecast : Cond.selects RX12 yX12_readForecast yX12_readForecast ∈ TW := tp_6 (q := (yX12_readForecast, 60)) 4 rfl
theorem kv_X12_readShow : Cond.selects RX12 yX12_readShow yX12_readShow ∈ TW := tp_6 (q := (yX12_readShow, 60)) 5 rfl
theorem kv_X12_readUnits : Cond.selects RX12 yX12_readUnits yX12_readUnits ∈ TW := tp_6 (q := (yX12_readUnits, 60)) 6 rfl
theorem kv_X12_readUnit : Cond.selects RX12 yX12_readUnit yX12_readUnit ∈ TW := tp_6 (q := (yX12_readUnit, 60)) 7 rfl
theorem kv_X12_push : Cond.selects RX12 yX12_push yX12_push ∈ TW := tp_6 (q := (yX12_push, 60)) 8 rfl
theorem kv_X12_layWaiting : Cond.selects RX12 yX12_layWaiting yX12_layWaiting ∈ TW := tp_6 (q := (yX12_layWaiting, 60)) 9 rfl
theorem kv_X12_lay : Cond.selects RX12 yX12_lay yX12_lay ∈ TW := tp_6 (q := (yX12_lay, 60)) 10 rfl
theorem kv_X12_between : Cond.selects RX12 yX12_between yX12_between ∈ TW := tp_6 (q := (yX12_between, 60)) 11 rfl
theorem kv_X12_canRead : Cond.selects RX12 yX12_canRead yX12_canRead ∈ TW := tp_6 (q := (yX12_canRead, 60)) 12 rfl
theorem kv_X12_keepAct : Cond.selects RX12 yX12_keepAct yX12_keepAct ∈ TW := tp_6 (q := (yX12_keepAct, 60)) 13 rfl
theorem kv_X12_give : Cond.selects RX12 yX12_give yX12_give ∈ TW := tp_6 (q := (yX12_give, 60)) 14 rfl
theorem kv_X12_goRead : Cond.selects RX12 yX12_goRead yX12_goRead ∈ TW := tp_6 (q := (yX12_goRead, 60)) 15 rfl
theorem tp_7 {q : MethodName × Nat} (j : Nat) (h0 : lw_privs_7[j]? = some q) : Cond.selects q.1.cls q.1 q.1 ∈ TW := by
  have h := List.mem_of_getElem? h0
  exact List.mem_filter.mpr ⟨List.mem_append_left _ (List.mem_map.mpr ⟨q, (List.mem_append_right _ (List.mem_append_right _ (List.mem_append_right _ (List.mem_append_right _ (List.mem_append_right _ (List.mem_append_right _ (List.mem_append_left _ h))))))), rfl⟩), rfl⟩
theorem kv_X12_rateOf : Cond.selects RX12 yX12_rateOf yX12_rateOf ∈ TW := tp_7 (q := (yX12_rateOf, 60)) 0 rfl
theorem kv_X12_isNumber : Cond.selects RX12 yX12_isNumber yX12_isNumber ∈ TW := tp_7 (q := (yX12_isNumber, 60)) 1 rfl
theorem kv_X12_closeStep : Cond.selects RX12 yX12_closeStep yX12_closeStep ∈ TW := tp_7 (q := (yX12_closeStep, 60)) 2 rfl
theorem kv_X12_reach : Cond.selects RX12 yX12_reach yX12_reach ∈ TW := tp_7 (q := (yX12_reach, 60)) 3 rfl
theorem kv_X12_archivesNow : Cond.selects RX12 yX12_archivesNow yX12_archivesNow ∈ TW := tp_7 (q := (yX12_archivesNow, 60)) 4 rfl
theorem kv_X12_gather : Cond.selects RX12 yX12_gather yX12_gather ∈ TW := tp_7 (q := (yX12_gather, 60)) 5 rfl
theorem kv_X12_isFollowed : Cond.selects RX12 yX12_isFollowed yX12_isFollowed ∈ TW := tp_7 (q := (yX12_isFollowed, 60)) 6 rfl
theorem kv_X12_isMeasure : Cond.selects RX12 yX12_isMeasure yX12_isMeasure ∈ TW := tp_7 (q := (yX12_isMeasure, 60)) 7 rfl
theorem kv_X12_follow : Cond.selects RX12 yX12_follow yX12_follow ∈ TW := tp_7 (q := (yX12_follow, 60)) 8 rfl
theorem kv_X12_placeNow : Cond.selects RX12 yX12_placeNow yX12_placeNow ∈ TW := tp_7 (q := (yX12_placeNow, 60)) 9 rfl
theorem kv_X12_tells : Cond.selects RX12 yX12_tells yX12_tells ∈ TW := tp_7 (q := (yX12_tells, 60)) 10 rfl
theorem kv_X12_keepTold : Cond.selects RX12 yX12_keepTold yX12_keepTold ∈ TW := tp_7 (q := (yX12_keepTold, 60)) 11 rfl
theorem kv_X12_learn : Cond.selects RX12 yX12_learn yX12_learn ∈ TW := tp_7 (q := (yX12_learn, 60)) 12 rfl
theorem kv_X12_closeRow : Cond.selects RX12 yX12_closeRow yX12_closeRow ∈ TW := tp_7 (q := (yX12_closeRow, 60)) 13 rfl
theorem kv_X12_rowsKept : Cond.selects RX12 yX12_rowsKept yX12_rowsKept ∈ TW := tp_7 (q := (yX12_rowsKept, 60)) 14 rfl
theorem kv_X12_gatheredBy : Cond.selects RX12 yX12_gatheredBy yX12_gatheredBy ∈ TW := tp_7 (q := (yX12_gatheredBy, 60)) 15 rfl
theorem tp_8 {q : MethodName × Nat} (j : Nat) (h0 : lw_privs_8[j]? = some q) : Cond.selects q.1.cls q.1 q.1 ∈ TW := by
  have h := List.mem_of_getElem? h0
  exact List.mem_filter.mpr ⟨List.mem_append_left _ (List.mem_map.mpr ⟨q, (List.mem_append_right _ (List.mem_append_right _ (List.mem_append_right _ (List.mem_append_right _ (List.mem_append_right _ (List.mem_append_right _ (List.mem_append_right _ (List.mem_append_left _ h)))))))), rfl⟩), rfl⟩
theorem kv_X12_canTurn : Cond.selects RX12 yX12_canTurn yX12_canTurn ∈ TW := tp_8 (q := (yX12_canTurn, 60)) 0 rfl
theorem kv_X12_isArchive : Cond.selects RX12 yX12_isArchive yX12_isArchive ∈ TW := tp_8 (q := (yX12_isArchive, 60)) 1 rfl
theorem kv_X12_overAt : Cond.selects RX12 yX12_overAt yX12_overAt ∈ TW := tp_8 (q := (yX12_overAt, 60)) 2 rfl
theorem kv_X12_unitsOf : Cond.selects RX12 yX12_unitsOf yX12_unitsOf ∈ TW := tp_8 (q := (yX12_unitsOf, 60)) 3 rfl
theorem kv_X12_isRow : Cond.selects RX12 yX12_isRow yX12_isRow ∈ TW := tp_8 (q := (yX12_isRow, 60)) 4 rfl
theorem kv_X12_isBoth : Cond.selects RX12 yX12_isBoth yX12_isBoth ∈ TW := tp_8 (q := (yX12_isBoth, 60)) 5 rfl
theorem kv_X12_beginOf : Cond.selects RX12 yX12_beginOf yX12_beginOf ∈ TW := tp_8 (q := (yX12_beginOf, 60)) 6 rfl
theorem kv_X12_laySpan : Cond.selects RX12 yX12_laySpan yX12_laySpan ∈ TW := tp_8 (q := (yX12_laySpan, 60)) 7 rfl
theorem kv_X12_isWithin : Cond.selects RX12 yX12_isWithin yX12_isWithin ∈ TW := tp_8 (q := (yX12_isWithin, 60)) 8 rfl
theorem kv_X12_knownRows : Cond.selects RX12 yX12_knownRows yX12_knownRows ∈ TW := tp_8 (q := (yX12_knownRows, 60)) 9 rfl
theorem kv_X12_noGreater : Cond.selects RX12 yX12_noGreater yX12_noGreater ∈ TW := tp_8 (q := (yX12_noGreater, 60)) 10 rfl
theorem kv_X12_wayOf : Cond.selects RX12 yX12_wayOf yX12_wayOf ∈ TW := tp_8 (q := (yX12_wayOf, 60)) 11 rfl
theorem kv_X12_isBetter : Cond.selects RX12 yX12_isBetter yX12_isBetter ∈ TW := tp_8 (q := (yX12_isBetter, 60)) 12 rfl
theorem kv_X12_eldestFrom : Cond.selects RX12 yX12_eldestFrom yX12_eldestFrom ∈ TW := tp_8 (q := (yX12_eldestFrom, 60)) 13 rfl
theorem kv_X12_oddFrom : Cond.selects RX12 yX12_oddFrom yX12_oddFrom ∈ TW := tp_8 (q := (yX12_oddFrom, 60)) 14 rfl
theorem kv_X12_isShow : Cond.selects RX12 yX12_isShow yX12_isShow ∈ TW := tp_8 (q := (yX12_isShow, 60)) 15 rfl
theorem tp_9 {q : MethodName × Nat} (j : Nat) (h0 : lw_privs_9[j]? = some q) : Cond.selects q.1.cls q.1 q.1 ∈ TW := by
  have h := List.mem_of_getElem? h0
  exact List.mem_filter.mpr ⟨List.mem_append_left _ (List.mem_map.mpr ⟨q, (List.mem_append_right _ (List.mem_append_right _ (List.mem_append_right _ (List.mem_append_right _ (List.mem_append_right _ (List.mem_append_right _ (List.mem_append_right _ (List.mem_append_right _ (h))))))))), rfl⟩), rfl⟩
theorem kv_X12_showOf : Cond.selects RX12 yX12_showOf yX12_showOf ∈ TW := tp_9 (q := (yX12_showOf, 60)) 0 rfl
theorem kv_X12_unitAt : Cond.selects RX12 yX12_unitAt yX12_unitAt ∈ TW := tp_9 (q := (yX12_unitAt, 60)) 1 rfl
theorem kv_X12_leastIn : Cond.selects RX12 yX12_leastIn yX12_leastIn ∈ TW := tp_9 (q := (yX12_leastIn, 60)) 2 rfl
theorem kv_X12_isEnough : Cond.selects RX12 yX12_isEnough yX12_isEnough ∈ TW := tp_9 (q := (yX12_isEnough, 60)) 3 rfl
theorem kv_X12_isBeyond : Cond.selects RX12 yX12_isBeyond yX12_isBeyond ∈ TW := tp_9 (q := (yX12_isBeyond, 60)) 4 rfl
theorem kv_X12_swapAll : Cond.selects RX12 yX12_swapAll yX12_swapAll ∈ TW := tp_9 (q := (yX12_swapAll, 60)) 5 rfl
theorem kv_X12_followed : Cond.selects RX12 yX12_followed yX12_followed ∈ TW := tp_9 (q := (yX12_followed, 60)) 6 rfl
theorem lt_X0 : ∀ k, k < 4 → u_lay RX0 TX0 k ∈ TW
  | 0, _ => ky_X0_how
  | 1, _ => ky_X0_per
  | 2, _ => ky_X0_rows
  | 3, _ => ky_X0_share
  | k + 4, h => absurd h (by omega)
theorem in_X0 : ∀ w ∈ u_ws RX0 TX0 4, w ∈ TW := List.forall_mem_map.mpr (fun k hk => lt_X0 k (List.mem_range.mp hk))
theorem lt_X1 : ∀ k, k < 9 → u_lay RX1 TX1 k ∈ TW
  | 0, _ => ky_X1_shows
  | 1, _ => ky_X1_units
  | 2, _ => ky_X1_length
  | 3, _ => ky_X1_codes
  | 4, _ => ky_X1_parts
  | 5, _ => ky_X1_ends
  | 6, _ => ky_X1_results
  | 7, _ => ky_X1_stack
  | 8, _ => ky_X1_top
  | k + 9, h => absurd h (by omega)
theorem in_X1 : ∀ w ∈ u_ws RX1 TX1 9, w ∈ TW := List.forall_mem_map.mpr (fun k hk => lt_X1 k (List.mem_range.mp hk))
theorem lt_X2 : ∀ k, k < 11 → u_lay RX2 TX2 k ∈ TW
  | 0, _ => ky_X2_sort
  | 1, _ => ky_X2_widthOne
  | 2, _ => ky_X2_widthTwo
  | 3, _ => ky_X2_silence
  | 4, _ => ky_X2_least
  | 5, _ => ky_X2_most
  | 6, _ => ky_X2_season
  | 7, _ => ky_X2_levelWeight
  | 8, _ => ky_X2_trendWeight
  | 9, _ => ky_X2_swingWeight
  | 10, _ => ky_X2_band
  | k + 11, h => absurd h (by omega)
theorem in_X2 : ∀ w ∈ u_ws RX2 TX2 11, w ∈ TW := List.forall_mem_map.mpr (fun k hk => lt_X2 k (List.mem_range.mp hk))
theorem lt_X3 : ∀ k, k < 10 → u_lay RX3 TX3 k ∈ TW
  | 0, _ => ky_X3_silence
  | 1, _ => ky_X3_least
  | 2, _ => ky_X3_most
  | 3, _ => ky_X3_last
  | 4, _ => ky_X3_rate
  | 5, _ => ky_X3_value
  | 6, _ => ky_X3_units
  | 7, _ => ky_X3_sum
  | 8, _ => ky_X3_everGreatest
  | 9, _ => ky_X3_everLeast
  | k + 10, h => absurd h (by omega)
theorem in_X3 : ∀ w ∈ u_ws RX3 TX3 10, w ∈ TW := List.forall_mem_map.mpr (fun k hk => lt_X3 k (List.mem_range.mp hk))
theorem lt_X4 : ∀ k, k < 8 → u_lay RX4 TX4 k ∈ TW
  | 0, _ => ky_X4_began
  | 1, _ => ky_X4_level
  | 2, _ => ky_X4_trend
  | 3, _ => ky_X4_swing
  | 4, _ => ky_X4_spread
  | 5, _ => ky_X4_told
  | 6, _ => ky_X4_odd
  | 7, _ => ky_X4_tells
  | k + 8, h => absurd h (by omega)
theorem in_X4 : ∀ w ∈ u_ws RX4 TX4 8, w ∈ TW := List.forall_mem_map.mpr (fun k hk => lt_X4 k (List.mem_range.mp hk))
theorem lt_X5 : ∀ k, k < 10 → u_lay RX5 TX5 k ∈ TW
  | 0, _ => ky_X5_tape
  | 1, _ => ky_X5_plan
  | 2, _ => ky_X5_token
  | 3, _ => ky_X5_fault
  | 4, _ => ky_X5_place
  | 5, _ => ky_X5_nameTokens
  | 6, _ => ky_X5_nameBearers
  | 7, _ => ky_X5_names
  | 8, _ => ky_X5_waiting
  | 9, _ => ky_X5_waits
  | k + 10, h => absurd h (by omega)
theorem in_X5 : ∀ w ∈ u_ws RX5 TX5 10, w ∈ TW := List.forall_mem_map.mpr (fun k hk => lt_X5 k (List.mem_range.mp hk))
theorem lt_X6 : ∀ k, k < 6 → u_lay RX6 TX6 k ∈ TW
  | 0, _ => ky_X6_step
  | 1, _ => ky_X6_measureCount
  | 2, _ => ky_X6_archiveCount
  | 3, _ => ky_X6_measures
  | 4, _ => ky_X6_archives
  | 5, _ => ky_X6_formulas
  | k + 6, h => absurd h (by omega)
theorem in_X6 : ∀ w ∈ u_ws RX6 TX6 6, w ∈ TW := List.forall_mem_map.mpr (fun k hk => lt_X6 k (List.mem_range.mp hk))
theorem lt_X7 : ∀ k, k < 2 → u_lay RX7 TX7 k ∈ TW
  | 0, _ => ky_X7_cells
  | 1, _ => ky_X7_parts
  | k + 2, h => absurd h (by omega)
theorem in_X7 : ∀ w ∈ u_ws RX7 TX7 2, w ∈ TW := List.forall_mem_map.mpr (fun k hk => lt_X7 k (List.mem_range.mp hk))
theorem lt_X8 : ∀ k, k < 5 → u_lay RX8 TX8 k ∈ TW
  | 0, _ => ky_X8_time
  | 1, _ => ky_X8_readings
  | 2, _ => ky_X8_meters
  | 3, _ => ky_X8_outlooks
  | 4, _ => ky_X8_rings
  | k + 5, h => absurd h (by omega)
theorem in_X8 : ∀ w ∈ u_ws RX8 TX8 5, w ∈ TW := List.forall_mem_map.mpr (fun k hk => lt_X8 k (List.mem_range.mp hk))
theorem lt_X9 : ∀ k, k < 6 → u_lay RX9 TX9 k ∈ TW
  | 0, _ => ky_X9_sum
  | 1, _ => ky_X9_weight
  | 2, _ => ky_X9_known
  | 3, _ => ky_X9_greatest
  | 4, _ => ky_X9_least
  | 5, _ => ky_X9_latest
  | k + 6, h => absurd h (by omega)
theorem in_X9 : ∀ w ∈ u_ws RX9 TX9 6, w ∈ TW := List.forall_mem_map.mpr (fun k hk => lt_X9 k (List.mem_range.mp hk))
theorem lt_X10 : ∀ k, k < 6 → u_lay RX10 TX10 k ∈ TW
  | 0, _ => ky_X10_signs
  | 1, _ => ky_X10_length
  | 2, _ => ky_X10_kinds
  | 3, _ => ky_X10_starts
  | 4, _ => ky_X10_stops
  | 5, _ => ky_X10_tokens
  | k + 6, h => absurd h (by omega)
theorem in_X10 : ∀ w ∈ u_ws RX10 TX10 6, w ∈ TW := List.forall_mem_map.mpr (fun k hk => lt_X10 k (List.mem_range.mp hk))
theorem lt_X11 : ∀ k, k < 14 → u_lay RX11 TX11 k ∈ TW
  | 0, _ => ky_X11_tape
  | 1, _ => ky_X11_parser
  | 2, _ => ky_X11_plan
  | 3, _ => ky_X11_spare
  | 4, _ => ky_X11_states
  | 5, _ => ky_X11_present
  | 6, _ => ky_X11_undoable
  | 7, _ => ky_X11_redoable
  | 8, _ => ky_X11_boxes
  | 9, _ => ky_X11_boxFull
  | 10, _ => ky_X11_fault
  | 11, _ => ky_X11_faultPlace
  | 12, _ => ky_X11_numbers
  | 13, _ => ky_X11_tally
  | k + 14, h => absurd h (by omega)
theorem in_X11 : ∀ w ∈ u_ws RX11 TX11 14, w ∈ TW := List.forall_mem_map.mpr (fun k hk => lt_X11 k (List.mem_range.mp hk))
theorem lt_X12 : ∀ k, k < 60 → u_lay RX12 TX12 k ∈ TW
  | 0, _ => ky_X12_all
  | 1, _ => ky_X12_step
  | 2, _ => ky_X12_measures
  | 3, _ => ky_X12_archives
  | 4, _ => ky_X12_shows
  | 5, _ => ky_X12_units
  | 6, _ => ky_X12_coded
  | 7, _ => ky_X12_sort
  | 8, _ => ky_X12_first
  | 9, _ => ky_X12_second
  | 10, _ => ky_X12_silence
  | 11, _ => ky_X12_least
  | 12, _ => ky_X12_most
  | 13, _ => ky_X12_how
  | 14, _ => ky_X12_per
  | 15, _ => ky_X12_long0
  | 16, _ => ky_X12_share
  | 17, _ => ky_X12_isForecast
  | 18, _ => ky_X12_season
  | 19, _ => ky_X12_levelBy
  | 20, _ => ky_X12_trendBy
  | 21, _ => ky_X12_swingBy
  | 22, _ => ky_X12_band
  | 23, _ => ky_X12_code
  | 24, _ => ky_X12_codeEnd
  | 25, _ => ky_X12_nameAt
  | 26, _ => ky_X12_nameLong
  | 27, _ => ky_X12_named
  | 28, _ => ky_X12_bank
  | 29, _ => ky_X12_tape
  | 30, _ => ky_X12_taped
  | 31, _ => ky_X12_size
  | 32, _ => ky_X12_next
  | 33, _ => ky_X12_at
  | 34, _ => ky_X12_token
  | 35, _ => ky_X12_number
  | 36, _ => ky_X12_word
  | 37, _ => ky_X12_found
  | 38, _ => ky_X12_foundAt
  | 39, _ => ky_X12_fault
  | 40, _ => ky_X12_faultAt
  | 41, _ => ky_X12_letters
  | 42, _ => ky_X12_standsFor
  | 43, _ => ky_X12_waits
  | 44, _ => ky_X12_waiting
  | 45, _ => ky_X12_deep
  | 46, _ => ky_X12_given
  | 47, _ => ky_X12_spanMany
  | 48, _ => ky_X12_spanKnown
  | 49, _ => ky_X12_spanSum
  | 50, _ => ky_X12_spanMost
  | 51, _ => ky_X12_spanLeast
  | 52, _ => ky_X12_stack
  | 53, _ => ky_X12_showAt
  | 54, _ => ky_X12_aside
  | 55, _ => ky_X12_was
  | 56, _ => ky_X12_boxAll
  | 57, _ => ky_X12_isBoxed
  | 58, _ => ky_X12_acts
  | 59, _ => ky_X12_undone
  | k + 60, h => absurd h (by omega)
theorem in_X12 : ∀ w ∈ u_ws RX12 TX12 60, w ∈ TW := List.forall_mem_map.mpr (fun k hk => lt_X12 k (List.mem_range.mp hk))
