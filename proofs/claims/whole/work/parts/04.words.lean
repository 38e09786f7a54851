/-- the words that the walk may use -/
def zw : List Cond := lw_tbl.filter goodWord
theorem zw_tbl : ∀ w ∈ zw, w ∈ lw_tbl := fun w h => (List.mem_filter.mp h).1
theorem zw_good : ∀ w ∈ zw, goodWord w = true := fun w h => (List.mem_filter.mp h).2
theorem zw_s {w : Cond} (h : w ∈ k2_sels lw_privs) (g : goodWord w = true) : w ∈ zw := List.mem_filter.mpr ⟨List.mem_append_left _ h, g⟩
theorem zw_t {w : Cond} (h : w ∈ tables_1) (g : goodWord w = true) : w ∈ zw := List.mem_filter.mpr ⟨List.mem_append_right _ h, g⟩
theorem zw_1 {w : Cond} (h : w ∈ tables_1_1) (g : goodWord w = true) : w ∈ zw := zw_t (List.mem_append_left _ h) g
theorem zw_2 {w : Cond} (h : w ∈ tables_1_2) (g : goodWord w = true) : w ∈ zw := zw_t (List.mem_append_right _ (List.mem_append_left _ h)) g
theorem zw_3 {w : Cond} (h : w ∈ tables_1_3) (g : goodWord w = true) : w ∈ zw := zw_t (List.mem_append_right _ (List.mem_append_right _ (List.mem_append_left _ h))) g
theorem zw_4 {w : Cond} (h : w ∈ tables_1_4) (g : goodWord w = true) : w ∈ zw := zw_t (List.mem_append_right _ (List.mem_append_right _ (List.mem_append_right _ (List.mem_append_left _ h)))) g
theorem zw_5 {w : Cond} (h : w ∈ tables_1_5) (g : goodWord w = true) : w ∈ zw := zw_t (List.mem_append_right _ (List.mem_append_right _ (List.mem_append_right _ (List.mem_append_right _ h)))) g
theorem zw_all {ws : List Cond} (ps : List Nat) (hp : ws = ps.filterMap (fun i => tables_1[i]?)) (h : ws.all goodWord = true) : ∀ w ∈ ws, w ∈ zw := by
  intro w hw
  have h1 := List.all_eq_true.mp h w hw
  rw [hp] at hw
  obtain ⟨i, -, hi⟩ := List.mem_filterMap.mp hw
  exact zw_t (List.mem_of_getElem? hi) h1
theorem wn_L : Cond.initialized RL ∈ zw := zw_1 (List.mem_of_getElem? (i := 0) (by decide +kernel)) rfl
theorem wn_X3 : Cond.initialized RX3 ∈ zw := zw_1 (List.mem_of_getElem? (i := 1) (by decide +kernel)) rfl
theorem wn_X0 : Cond.initialized RX0 ∈ zw := zw_1 (List.mem_of_getElem? (i := 2) (by decide +kernel)) rfl
theorem wn_X2 : Cond.initialized RX2 ∈ zw := zw_1 (List.mem_of_getElem? (i := 3) (by decide +kernel)) rfl
theorem wn_X1 : Cond.initialized RX1 ∈ zw := zw_1 (List.mem_of_getElem? (i := 4) (by decide +kernel)) rfl
theorem wn_X4 : Cond.initialized RX4 ∈ zw := zw_1 (List.mem_of_getElem? (i := 5) (by decide +kernel)) rfl
theorem wn_J10 : Cond.initialized RJ10 ∈ zw := zw_1 (List.mem_of_getElem? (i := 6) (by decide +kernel)) rfl
theorem wn_J6 : Cond.initialized RJ6 ∈ zw := zw_1 (List.mem_of_getElem? (i := 7) (by decide +kernel)) rfl
theorem wn_J9 : Cond.initialized RJ9 ∈ zw := zw_1 (List.mem_of_getElem? (i := 8) (by decide +kernel)) rfl
theorem wn_J0 : Cond.initialized RJ0 ∈ zw := zw_1 (List.mem_of_getElem? (i := 9) (by decide +kernel)) rfl
theorem wn_J1 : Cond.initialized RJ1 ∈ zw := zw_1 (List.mem_of_getElem? (i := 10) (by decide +kernel)) rfl
theorem wn_J3 : Cond.initialized RJ3 ∈ zw := zw_1 (List.mem_of_getElem? (i := 11) (by decide +kernel)) rfl
theorem wn_J2 : Cond.initialized RJ2 ∈ zw := zw_1 (List.mem_of_getElem? (i := 12) (by decide +kernel)) rfl
theorem wl_L_7 : Cond.classLink RL 7 RX3 ∈ zw := zw_1 (List.mem_of_getElem? (i := 13) (by decide +kernel)) rfl
theorem wins_X3 : Cond.instantiable RX3 7 ∈ zw := zw_1 (List.mem_of_getElem? (i := 14) (by decide +kernel)) rfl
theorem wl_L_9 : Cond.methodLink RL 9 yX3_init ∈ zw := zw_1 (List.mem_of_getElem? (i := 15) (by decide +kernel)) rfl
theorem wi_X3_init : Cond.instanceMethod yX3_init ∈ zw := zw_1 (List.mem_of_getElem? (i := 16) (by decide +kernel)) rfl
theorem wc_X3_init : Cond.code yX3_init cX3_init 2 (none : Option Jvm.ClassFile.FieldType) ∈ zw := zw_1 (List.mem_of_getElem? (i := 17) (by decide +kernel)) rfl
theorem wl_X3_1 : Cond.methodLink RX3 1 objectInit ∈ zw := zw_1 (List.mem_of_getElem? (i := 18) (by decide +kernel)) rfl
theorem wi_obj : Cond.instanceMethod objectInit ∈ zw := zw_1 (List.mem_of_getElem? (i := 19) (by decide +kernel)) rfl
theorem wc_obj : Cond.code objectInit ⟨#[0xb1]⟩ 1 (none : Option Jvm.ClassFile.FieldType) ∈ zw := zw_1 (List.mem_of_getElem? (i := 20) (by decide +kernel)) rfl
theorem wl_X3_7 : Cond.classLink RX3 7 RX0 ∈ zw := zw_1 (List.mem_of_getElem? (i := 21) (by decide +kernel)) rfl
theorem wins_X0 : Cond.instantiable RX0 16 ∈ zw := zw_1 (List.mem_of_getElem? (i := 22) (by decide +kernel)) rfl
theorem wl_X3_9 : Cond.methodLink RX3 9 yX0_init ∈ zw := zw_1 (List.mem_of_getElem? (i := 23) (by decide +kernel)) rfl
theorem wi_X0_init : Cond.instanceMethod yX0_init ∈ zw := zw_1 (List.mem_of_getElem? (i := 24) (by decide +kernel)) rfl
theorem wc_X0_init : Cond.code yX0_init cX0_init 2 (none : Option Jvm.ClassFile.FieldType) ∈ zw := zw_1 (List.mem_of_getElem? (i := 25) (by decide +kernel)) rfl
theorem wl_X0_3 : Cond.methodLink RX0 3 objectInit ∈ zw := zw_1 (List.mem_of_getElem? (i := 26) (by decide +kernel)) rfl
theorem wl_X0_9 : Cond.fieldLink RX0 9 "BreadGames$City" "kind" "[I" ∈ zw := zw_1 (List.mem_of_getElem? (i := 27) (by decide +kernel)) rfl
theorem wl_X3_191 : Cond.fieldLink RX3 191 "BreadGames$City" "kind" "[I" ∈ zw := zw_1 (List.mem_of_getElem? (i := 28) (by decide +kernel)) rfl
theorem wl_X0_15 : Cond.fieldLink RX0 15 "BreadGames$City" "hunger" "[I" ∈ zw := zw_1 (List.mem_of_getElem? (i := 29) (by decide +kernel)) rfl
theorem wl_X3_165 : Cond.fieldLink RX3 165 "BreadGames$City" "hunger" "[I" ∈ zw := zw_1 (List.mem_of_getElem? (i := 30) (by decide +kernel)) rfl
theorem wl_X0_18 : Cond.fieldLink RX0 18 "BreadGames$City" "colour" "[I" ∈ zw := zw_1 (List.mem_of_getElem? (i := 31) (by decide +kernel)) rfl
theorem wl_X0_21 : Cond.fieldLink RX0 21 "BreadGames$City" "coin" "[I" ∈ zw := zw_1 (List.mem_of_getElem? (i := 32) (by decide +kernel)) rfl
theorem wl_X3_142 : Cond.fieldLink RX3 142 "BreadGames$City" "coin" "[I" ∈ zw := zw_1 (List.mem_of_getElem? (i := 33) (by decide +kernel)) rfl
theorem wl_X0_24 : Cond.fieldLink RX0 24 "BreadGames$City" "joy" "[I" ∈ zw := zw_1 (List.mem_of_getElem? (i := 34) (by decide +kernel)) rfl
theorem wl_X3_63 : Cond.fieldLink RX3 63 "BreadGames$City" "joy" "[I" ∈ zw := zw_1 (List.mem_of_getElem? (i := 35) (by decide +kernel)) rfl
theorem wl_X0_27 : Cond.fieldLink RX0 27 "BreadGames$City" "token" "[I" ∈ zw := zw_1 (List.mem_of_getElem? (i := 36) (by decide +kernel)) rfl
theorem wl_X3_119 : Cond.fieldLink RX3 119 "BreadGames$City" "token" "[I" ∈ zw := zw_1 (List.mem_of_getElem? (i := 37) (by decide +kernel)) rfl
theorem wl_X0_30 : Cond.fieldLink RX0 30 "BreadGames$City" "spot" "[I" ∈ zw := zw_1 (List.mem_of_getElem? (i := 38) (by decide +kernel)) rfl
theorem wl_X3_229 : Cond.fieldLink RX3 229 "BreadGames$City" "spot" "[I" ∈ zw := zw_1 (List.mem_of_getElem? (i := 39) (by decide +kernel)) rfl
theorem wl_X0_33 : Cond.fieldLink RX0 33 "BreadGames$City" "people" "I" ∈ zw := zw_1 (List.mem_of_getElem? (i := 40) (by decide +kernel)) rfl
theorem wl_X3_52 : Cond.fieldLink RX3 52 "BreadGames$City" "people" "I" ∈ zw := zw_1 (List.mem_of_getElem? (i := 41) (by decide +kernel)) rfl
theorem wl_X0_37 : Cond.fieldLink RX0 37 "BreadGames$City" "leads" "I" ∈ zw := zw_1 (List.mem_of_getElem? (i := 42) (by decide +kernel)) rfl
theorem wl_X3_103 : Cond.fieldLink RX3 103 "BreadGames$City" "leads" "I" ∈ zw := zw_1 (List.mem_of_getElem? (i := 43) (by decide +kernel)) rfl
theorem wl_X0_40 : Cond.fieldLink RX0 40 "BreadGames$City" "loaves" "I" ∈ zw := zw_1 (List.mem_of_getElem? (i := 44) (by decide +kernel)) rfl
theorem wl_X3_113 : Cond.fieldLink RX3 113 "BreadGames$City" "loaves" "I" ∈ zw := zw_1 (List.mem_of_getElem? (i := 45) (by decide +kernel)) rfl
theorem wl_X0_43 : Cond.fieldLink RX0 43 "BreadGames$City" "seats" "I" ∈ zw := zw_1 (List.mem_of_getElem? (i := 46) (by decide +kernel)) rfl
theorem wl_X3_116 : Cond.fieldLink RX3 116 "BreadGames$City" "seats" "I" ∈ zw := zw_1 (List.mem_of_getElem? (i := 47) (by decide +kernel)) rfl
theorem wl_X0_46 : Cond.fieldLink RX0 46 "BreadGames$City" "bound" "I" ∈ zw := zw_1 (List.mem_of_getElem? (i := 48) (by decide +kernel)) rfl
theorem wl_X0_49 : Cond.fieldLink RX0 49 "BreadGames$City" "stale" "I" ∈ zw := zw_1 (List.mem_of_getElem? (i := 49) (by decide +kernel)) rfl
theorem wl_X3_188 : Cond.fieldLink RX3 188 "BreadGames$City" "stale" "I" ∈ zw := zw_1 (List.mem_of_getElem? (i := 50) (by decide +kernel)) rfl
theorem wl_X0_52 : Cond.fieldLink RX0 52 "BreadGames$City" "week" "I" ∈ zw := zw_1 (List.mem_of_getElem? (i := 51) (by decide +kernel)) rfl
theorem wl_X3_97 : Cond.fieldLink RX3 97 "BreadGames$City" "week" "I" ∈ zw := zw_1 (List.mem_of_getElem? (i := 52) (by decide +kernel)) rfl
theorem wl_X0_55 : Cond.fieldLink RX0 55 "BreadGames$City" "riots" "I" ∈ zw := zw_1 (List.mem_of_getElem? (i := 53) (by decide +kernel)) rfl
theorem wl_X3_100 : Cond.fieldLink RX3 100 "BreadGames$City" "riots" "I" ∈ zw := zw_1 (List.mem_of_getElem? (i := 54) (by decide +kernel)) rfl
theorem wl_X0_58 : Cond.fieldLink RX0 58 "BreadGames$City" "z" "I" ∈ zw := zw_1 (List.mem_of_getElem? (i := 55) (by decide +kernel)) rfl
theorem wl_X3_201 : Cond.fieldLink RX3 201 "BreadGames$City" "z" "I" ∈ zw := zw_1 (List.mem_of_getElem? (i := 56) (by decide +kernel)) rfl
theorem warr_int : Cond.arrayClass .int ∈ zw := zw_1 (List.mem_of_getElem? (i := 90) (by decide +kernel)) rfl
theorem wl_X3_22 : Cond.classLink RX3 22 RX2 ∈ zw := zw_1 (List.mem_of_getElem? (i := 91) (by decide +kernel)) rfl
theorem wins_X2 : Cond.instantiable RX2 6 ∈ zw := zw_1 (List.mem_of_getElem? (i := 92) (by decide +kernel)) rfl
theorem wi_X2_init : Cond.instanceMethod yX2_init ∈ zw := zw_1 (List.mem_of_getElem? (i := 94) (by decide +kernel)) rfl
theorem wc_X2_init : Cond.code yX2_init cX2_init 1 (none : Option Jvm.ClassFile.FieldType) ∈ zw := zw_1 (List.mem_of_getElem? (i := 95) (by decide +kernel)) rfl
theorem wl_X2_3 : Cond.methodLink RX2 3 objectInit ∈ zw := zw_1 (List.mem_of_getElem? (i := 96) (by decide +kernel)) rfl
theorem wl_X2_9 : Cond.fieldLink RX2 9 "BreadGames$Tape" "bytes" "[I" ∈ zw := zw_1 (List.mem_of_getElem? (i := 97) (by decide +kernel)) rfl
theorem wl_X2_15 : Cond.fieldLink RX2 15 "BreadGames$Tape" "length" "I" ∈ zw := zw_1 (List.mem_of_getElem? (i := 98) (by decide +kernel)) rfl
theorem wl_X3_204 : Cond.fieldLink RX3 204 "BreadGames$Tape" "length" "I" ∈ zw := zw_1 (List.mem_of_getElem? (i := 99) (by decide +kernel)) rfl
theorem wl_X2_19 : Cond.fieldLink RX2 19 "BreadGames$Tape" "start" "I" ∈ zw := zw_1 (List.mem_of_getElem? (i := 100) (by decide +kernel)) rfl
theorem wl_X3_223 : Cond.fieldLink RX3 223 "BreadGames$Tape" "start" "I" ∈ zw := zw_1 (List.mem_of_getElem? (i := 101) (by decide +kernel)) rfl
theorem wl_X2_22 : Cond.fieldLink RX2 22 "BreadGames$Tape" "end" "I" ∈ zw := zw_1 (List.mem_of_getElem? (i := 102) (by decide +kernel)) rfl
theorem wl_X2_25 : Cond.fieldLink RX2 25 "BreadGames$Tape" "sort" "I" ∈ zw := zw_1 (List.mem_of_getElem? (i := 103) (by decide +kernel)) rfl
theorem wl_X3_220 : Cond.fieldLink RX3 220 "BreadGames$Tape" "sort" "I" ∈ zw := zw_1 (List.mem_of_getElem? (i := 104) (by decide +kernel)) rfl
theorem wl_X2_28 : Cond.fieldLink RX2 28 "BreadGames$Tape" "value" "I" ∈ zw := zw_1 (List.mem_of_getElem? (i := 105) (by decide +kernel)) rfl
theorem wl_X3_329 : Cond.fieldLink RX3 329 "BreadGames$Tape" "value" "I" ∈ zw := zw_1 (List.mem_of_getElem? (i := 106) (by decide +kernel)) rfl
theorem wl_X3_29 : Cond.classLink RX3 29 RX1 ∈ zw := zw_1 (List.mem_of_getElem? (i := 120) (by decide +kernel)) rfl
theorem wins_X1 : Cond.instantiable RX1 3 ∈ zw := zw_1 (List.mem_of_getElem? (i := 122) (by decide +kernel)) rfl
theorem wi_X1_init : Cond.instanceMethod yX1_init ∈ zw := zw_1 (List.mem_of_getElem? (i := 124) (by decide +kernel)) rfl
theorem wc_X1_init : Cond.code yX1_init cX1_init 1 (none : Option Jvm.ClassFile.FieldType) ∈ zw := zw_1 (List.mem_of_getElem? (i := 125) (by decide +kernel)) rfl
theorem wl_X1_3 : Cond.methodLink RX1 3 objectInit ∈ zw := zw_1 (List.mem_of_getElem? (i := 126) (by decide +kernel)) rfl
theorem wl_X1_9 : Cond.fieldLink RX1 9 "BreadGames$Sheet" "numbers" "[I" ∈ zw := zw_1 (List.mem_of_getElem? (i := 127) (by decide +kernel)) rfl
theorem wl_X0_142 : Cond.fieldLink RX0 142 "BreadGames$Sheet" "numbers" "[I" ∈ zw := zw_1 (List.mem_of_getElem? (i := 128) (by decide +kernel)) rfl
theorem wl_X3_256 : Cond.fieldLink RX3 256 "BreadGames$Sheet" "numbers" "[I" ∈ zw := zw_1 (List.mem_of_getElem? (i := 129) (by decide +kernel)) rfl
theorem wl_X1_15 : Cond.fieldLink RX1 15 "BreadGames$Sheet" "bits" "I" ∈ zw := zw_1 (List.mem_of_getElem? (i := 130) (by decide +kernel)) rfl
theorem wl_X3_250 : Cond.fieldLink RX3 250 "BreadGames$Sheet" "bits" "I" ∈ zw := zw_1 (List.mem_of_getElem? (i := 131) (by decide +kernel)) rfl
theorem wl_X1_19 : Cond.fieldLink RX1 19 "BreadGames$Sheet" "size" "I" ∈ zw := zw_1 (List.mem_of_getElem? (i := 132) (by decide +kernel)) rfl
theorem wl_X3_241 : Cond.fieldLink RX3 241 "BreadGames$Sheet" "size" "I" ∈ zw := zw_1 (List.mem_of_getElem? (i := 133) (by decide +kernel)) rfl
theorem wl_X0_137 : Cond.fieldLink RX0 137 "BreadGames$Sheet" "size" "I" ∈ zw := zw_1 (List.mem_of_getElem? (i := 134) (by decide +kernel)) rfl
theorem wl_X3_10 : Cond.fieldLink RX3 10 "BreadGames" "city" "LBreadGames$City;" ∈ zw := zw_1 (List.mem_of_getElem? (i := 142) (by decide +kernel)) rfl
theorem wl_X3_16 : Cond.fieldLink RX3 16 "BreadGames" "trial" "LBreadGames$City;" ∈ zw := zw_1 (List.mem_of_getElem? (i := 143) (by decide +kernel)) rfl
theorem wl_X3_19 : Cond.fieldLink RX3 19 "BreadGames" "kept" "LBreadGames$City;" ∈ zw := zw_1 (List.mem_of_getElem? (i := 144) (by decide +kernel)) rfl
theorem wl_X3_25 : Cond.fieldLink RX3 25 "BreadGames" "tape" "LBreadGames$Tape;" ∈ zw := zw_1 (List.mem_of_getElem? (i := 145) (by decide +kernel)) rfl
theorem wl_X3_31 : Cond.fieldLink RX3 31 "BreadGames" "sheets" "[LBreadGames$Sheet;" ∈ zw := zw_1 (List.mem_of_getElem? (i := 146) (by decide +kernel)) rfl
theorem wl_X3_36 : Cond.fieldLink RX3 36 "BreadGames" "found" "[I" ∈ zw := zw_1 (List.mem_of_getElem? (i := 147) (by decide +kernel)) rfl
theorem wl_X3_40 : Cond.fieldLink RX3 40 "BreadGames" "keeps" "Z" ∈ zw := zw_1 (List.mem_of_getElem? (i := 148) (by decide +kernel)) rfl
theorem wl_L_13 : Cond.methodLink RL 13 yX3_citizen ∈ zw := zw_1 (List.mem_of_getElem? (i := 164) (by decide +kernel)) rfl
theorem wi_X3_citizen : Cond.instanceMethod yX3_citizen ∈ zw := zw_1 (List.mem_of_getElem? (i := 165) (by decide +kernel)) rfl
theorem wv_X3_citizen : Cond.selects RX3 yX3_citizen yX3_citizen ∈ zw := zw_1 (List.mem_of_getElem? (i := 166) (by decide +kernel)) rfl
theorem wc_X3_citizen : Cond.code yX3_citizen cX3_citizen 2 (some .int) ∈ zw := zw_1 (List.mem_of_getElem? (i := 167) (by decide +kernel)) rfl
theorem wl_X3_44 : Cond.methodLink RX3 44 yX3_isKind ∈ zw := zw_1 (List.mem_of_getElem? (i := 168) (by decide +kernel)) rfl
theorem wt_X3_isKind : Cond.static yX3_isKind ∈ zw := zw_1 (List.mem_of_getElem? (i := 169) (by decide +kernel)) rfl
theorem wc_X3_isKind : Cond.code yX3_isKind cX3_isKind 1 (some .boolean) ∈ zw := zw_1 (List.mem_of_getElem? (i := 170) (by decide +kernel)) rfl
theorem wl_X3_48 : Cond.methodLink RX3 48 yX3_finding ∈ zw := zw_1 (List.mem_of_getElem? (i := 171) (by decide +kernel)) rfl
theorem wi_X3_finding : Cond.instanceMethod yX3_finding ∈ zw := zw_1 (List.mem_of_getElem? (i := 173) (by decide +kernel)) rfl
theorem wc_X3_finding : Cond.code yX3_finding cX3_finding 2 (some .int) ∈ zw := zw_1 (List.mem_of_getElem? (i := 174) (by decide +kernel)) rfl
theorem wl_X3_276 : Cond.constant RX3 276 (-1000001) ∈ zw := zw_1 (List.mem_of_getElem? (i := 175) (by decide +kernel)) rfl
theorem wl_X3_56 : Cond.methodLink RX3 56 yX0_settle ∈ zw := zw_1 (List.mem_of_getElem? (i := 176) (by decide +kernel)) rfl
theorem wi_X0_settle : Cond.instanceMethod yX0_settle ∈ zw := zw_1 (List.mem_of_getElem? (i := 177) (by decide +kernel)) rfl
theorem wv_X0_settle : Cond.selects RX0 yX0_settle yX0_settle ∈ zw := zw_1 (List.mem_of_getElem? (i := 178) (by decide +kernel)) rfl
theorem wc_X0_settle : Cond.code yX0_settle cX0_settle 3 (none : Option Jvm.ClassFile.FieldType) ∈ zw := zw_1 (List.mem_of_getElem? (i := 179) (by decide +kernel)) rfl
theorem wl_L_18 : Cond.methodLink RL 18 yX3_of ∈ zw := zw_1 (List.mem_of_getElem? (i := 180) (by decide +kernel)) rfl
theorem wi_X3_of : Cond.instanceMethod yX3_of ∈ zw := zw_1 (List.mem_of_getElem? (i := 181) (by decide +kernel)) rfl
theorem wv_X3_of : Cond.selects RX3 yX3_of yX3_of ∈ zw := zw_1 (List.mem_of_getElem? (i := 182) (by decide +kernel)) rfl
theorem wc_X3_of : Cond.code yX3_of cX3_of 3 (some .int) ∈ zw := zw_1 (List.mem_of_getElem? (i := 183) (by decide +kernel)) rfl
theorem wl_X3_60 : Cond.methodLink RX3 60 yX0_houses ∈ zw := zw_1 (List.mem_of_getElem? (i := 184) (by decide +kernel)) rfl
theorem wi_X0_houses : Cond.instanceMethod yX0_houses ∈ zw := zw_1 (List.mem_of_getElem? (i := 185) (by decide +kernel)) rfl
theorem wv_X0_houses : Cond.selects RX0 yX0_houses yX0_houses ∈ zw := zw_1 (List.mem_of_getElem? (i := 186) (by decide +kernel)) rfl
theorem wc_X0_houses : Cond.code yX0_houses cX0_houses 2 (some .boolean) ∈ zw := zw_1 (List.mem_of_getElem? (i := 187) (by decide +kernel)) rfl
theorem wl_X3_66 : Cond.methodLink RX3 66 yX0_loafWorth ∈ zw := zw_1 (List.mem_of_getElem? (i := 188) (by decide +kernel)) rfl
theorem wi_X0_loafWorth : Cond.instanceMethod yX0_loafWorth ∈ zw := zw_1 (List.mem_of_getElem? (i := 189) (by decide +kernel)) rfl
theorem wv_X0_loafWorth : Cond.selects RX0 yX0_loafWorth yX0_loafWorth ∈ zw := zw_1 (List.mem_of_getElem? (i := 190) (by decide +kernel)) rfl
theorem wc_X0_loafWorth : Cond.code yX0_loafWorth cX0_loafWorth 3 (some .int) ∈ zw := zw_1 (List.mem_of_getElem? (i := 191) (by decide +kernel)) rfl
theorem wl_X3_69 : Cond.methodLink RX3 69 yX0_seatWorth ∈ zw := zw_1 (List.mem_of_getElem? (i := 192) (by decide +kernel)) rfl
theorem wi_X0_seatWorth : Cond.instanceMethod yX0_seatWorth ∈ zw := zw_1 (List.mem_of_getElem? (i := 193) (by decide +kernel)) rfl
theorem wv_X0_seatWorth : Cond.selects RX0 yX0_seatWorth yX0_seatWorth ∈ zw := zw_1 (List.mem_of_getElem? (i := 194) (by decide +kernel)) rfl
theorem wc_X0_seatWorth : Cond.code yX0_seatWorth cX0_seatWorth 3 (some .int) ∈ zw := zw_1 (List.mem_of_getElem? (i := 195) (by decide +kernel)) rfl
theorem wl_X3_72 : Cond.methodLink RX3 72 yX0_hasTrait ∈ zw := zw_1 (List.mem_of_getElem? (i := 196) (by decide +kernel)) rfl
theorem wt_X0_hasTrait : Cond.static yX0_hasTrait ∈ zw := zw_1 (List.mem_of_getElem? (i := 197) (by decide +kernel)) rfl
theorem wc_X0_hasTrait : Cond.code yX0_hasTrait cX0_hasTrait 1 (some .boolean) ∈ zw := zw_1 (List.mem_of_getElem? (i := 198) (by decide +kernel)) rfl
theorem wl_X3_75 : Cond.methodLink RX3 75 yX0_trait ∈ zw := zw_1 (List.mem_of_getElem? (i := 199) (by decide +kernel)) rfl
theorem wi_X0_trait : Cond.instanceMethod yX0_trait ∈ zw := zw_1 (List.mem_of_getElem? (i := 200) (by decide +kernel)) rfl
theorem wv_X0_trait : Cond.selects RX0 yX0_trait yX0_trait ∈ zw := zw_1 (List.mem_of_getElem? (i := 201) (by decide +kernel)) rfl
theorem wc_X0_trait : Cond.code yX0_trait cX0_trait 3 (some .int) ∈ zw := zw_1 (List.mem_of_getElem? (i := 202) (by decide +kernel)) rfl
theorem wl_L_23 : Cond.methodLink RL 23 yX3_change ∈ zw := zw_1 (List.mem_of_getElem? (i := 203) (by decide +kernel)) rfl
theorem wi_X3_change : Cond.instanceMethod yX3_change ∈ zw := zw_1 (List.mem_of_getElem? (i := 204) (by decide +kernel)) rfl
theorem wv_X3_change : Cond.selects RX3 yX3_change yX3_change ∈ zw := zw_1 (List.mem_of_getElem? (i := 205) (by decide +kernel)) rfl
theorem wc_X3_change : Cond.code yX3_change cX3_change 5 (some .int) ∈ zw := zw_1 (List.mem_of_getElem? (i := 206) (by decide +kernel)) rfl
theorem wl_X3_79 : Cond.methodLink RX3 79 yX0_allowsTrait ∈ zw := zw_1 (List.mem_of_getElem? (i := 207) (by decide +kernel)) rfl
theorem wt_X0_allowsTrait : Cond.static yX0_allowsTrait ∈ zw := zw_1 (List.mem_of_getElem? (i := 208) (by decide +kernel)) rfl
theorem wc_X0_allowsTrait : Cond.code yX0_allowsTrait cX0_allowsTrait 2 (some .boolean) ∈ zw := zw_1 (List.mem_of_getElem? (i := 209) (by decide +kernel)) rfl
theorem wl_X3_83 : Cond.methodLink RX3 83 yX0_setTrait ∈ zw := zw_1 (List.mem_of_getElem? (i := 211) (by decide +kernel)) rfl
theorem wi_X0_setTrait : Cond.instanceMethod yX0_setTrait ∈ zw := zw_1 (List.mem_of_getElem? (i := 212) (by decide +kernel)) rfl
theorem wv_X0_setTrait : Cond.selects RX0 yX0_setTrait yX0_setTrait ∈ zw := zw_1 (List.mem_of_getElem? (i := 213) (by decide +kernel)) rfl
theorem wc_X0_setTrait : Cond.code yX0_setTrait cX0_setTrait 4 (none : Option Jvm.ClassFile.FieldType) ∈ zw := zw_1 (List.mem_of_getElem? (i := 214) (by decide +kernel)) rfl
theorem wl_X0_71 : Cond.methodLink RX0 71 yX0_houses ∈ zw := zw_1 (List.mem_of_getElem? (i := 215) (by decide +kernel)) rfl
theorem wl_L_28 : Cond.methodLink RL 28 yX3_rule ∈ zw := zw_1 (List.mem_of_getElem? (i := 216) (by decide +kernel)) rfl
theorem wi_X3_rule : Cond.instanceMethod yX3_rule ∈ zw := zw_1 (List.mem_of_getElem? (i := 217) (by decide +kernel)) rfl
theorem wv_X3_rule : Cond.selects RX3 yX3_rule yX3_rule ∈ zw := zw_1 (List.mem_of_getElem? (i := 218) (by decide +kernel)) rfl
theorem wc_X3_rule : Cond.code yX3_rule cX3_rule 4 (some .int) ∈ zw := zw_1 (List.mem_of_getElem? (i := 219) (by decide +kernel)) rfl
theorem wl_X3_87 : Cond.methodLink RX3 87 yX0_allowsRule ∈ zw := zw_1 (List.mem_of_getElem? (i := 220) (by decide +kernel)) rfl
theorem wt_X0_allowsRule : Cond.static yX0_allowsRule ∈ zw := zw_1 (List.mem_of_getElem? (i := 221) (by decide +kernel)) rfl
theorem wc_X0_allowsRule : Cond.code yX0_allowsRule cX0_allowsRule 2 (some .boolean) ∈ zw := zw_1 (List.mem_of_getElem? (i := 222) (by decide +kernel)) rfl
theorem wl_X3_90 : Cond.methodLink RX3 90 yX0_ruling ∈ zw := zw_1 (List.mem_of_getElem? (i := 223) (by decide +kernel)) rfl
theorem wi_X0_ruling : Cond.instanceMethod yX0_ruling ∈ zw := zw_1 (List.mem_of_getElem? (i := 224) (by decide +kernel)) rfl
theorem wv_X0_ruling : Cond.selects RX0 yX0_ruling yX0_ruling ∈ zw := zw_1 (List.mem_of_getElem? (i := 225) (by decide +kernel)) rfl
theorem wc_X0_ruling : Cond.code yX0_ruling cX0_ruling 2 (some .int) ∈ zw := zw_1 (List.mem_of_getElem? (i := 226) (by decide +kernel)) rfl
theorem wl_X3_93 : Cond.methodLink RX3 93 yX0_setRuling ∈ zw := zw_1 (List.mem_of_getElem? (i := 227) (by decide +kernel)) rfl
theorem wi_X0_setRuling : Cond.instanceMethod yX0_setRuling ∈ zw := zw_1 (List.mem_of_getElem? (i := 228) (by decide +kernel)) rfl
theorem wv_X0_setRuling : Cond.selects RX0 yX0_setRuling yX0_setRuling ∈ zw := zw_1 (List.mem_of_getElem? (i := 229) (by decide +kernel)) rfl
theorem wc_X0_setRuling : Cond.code yX0_setRuling cX0_setRuling 3 (none : Option Jvm.ClassFile.FieldType) ∈ zw := zw_1 (List.mem_of_getElem? (i := 230) (by decide +kernel)) rfl
theorem wl_L_32 : Cond.methodLink RL 32 yX3_now ∈ zw := zw_1 (List.mem_of_getElem? (i := 231) (by decide +kernel)) rfl
theorem wi_X3_now : Cond.instanceMethod yX3_now ∈ zw := zw_1 (List.mem_of_getElem? (i := 232) (by decide +kernel)) rfl
theorem wv_X3_now : Cond.selects RX3 yX3_now yX3_now ∈ zw := zw_1 (List.mem_of_getElem? (i := 233) (by decide +kernel)) rfl
theorem wc_X3_now : Cond.code yX3_now cX3_now 2 (some .int) ∈ zw := zw_1 (List.mem_of_getElem? (i := 234) (by decide +kernel)) rfl
theorem wl_X3_106 : Cond.methodLink RX3 106 yX0_holders ∈ zw := zw_1 (List.mem_of_getElem? (i := 235) (by decide +kernel)) rfl
theorem wi_X0_holders : Cond.instanceMethod yX0_holders ∈ zw := zw_1 (List.mem_of_getElem? (i := 236) (by decide +kernel)) rfl
theorem wv_X0_holders : Cond.selects RX0 yX0_holders yX0_holders ∈ zw := zw_1 (List.mem_of_getElem? (i := 237) (by decide +kernel)) rfl
theorem wc_X0_holders : Cond.code yX0_holders cX0_holders 4 (some .int) ∈ zw := zw_1 (List.mem_of_getElem? (i := 238) (by decide +kernel)) rfl
theorem wl_X3_109 : Cond.methodLink RX3 109 yX0_starving ∈ zw := zw_1 (List.mem_of_getElem? (i := 239) (by decide +kernel)) rfl
theorem wi_X0_starving : Cond.instanceMethod yX0_starving ∈ zw := zw_2 (List.mem_of_getElem? (i := 0) (by decide +kernel)) rfl
theorem wv_X0_starving : Cond.selects RX0 yX0_starving yX0_starving ∈ zw := zw_2 (List.mem_of_getElem? (i := 1) (by decide +kernel)) rfl
theorem wc_X0_starving : Cond.code yX0_starving cX0_starving 3 (some .int) ∈ zw := zw_2 (List.mem_of_getElem? (i := 2) (by decide +kernel)) rfl
theorem wl_L_36 : Cond.methodLink RL 36 yX3_wants ∈ zw := zw_2 (List.mem_of_getElem? (i := 3) (by decide +kernel)) rfl
theorem wi_X3_wants : Cond.instanceMethod yX3_wants ∈ zw := zw_2 (List.mem_of_getElem? (i := 4) (by decide +kernel)) rfl
theorem wv_X3_wants : Cond.selects RX3 yX3_wants yX3_wants ∈ zw := zw_2 (List.mem_of_getElem? (i := 5) (by decide +kernel)) rfl
theorem wc_X3_wants : Cond.code yX3_wants cX3_wants 2 (some .int) ∈ zw := zw_2 (List.mem_of_getElem? (i := 6) (by decide +kernel)) rfl
theorem wl_X3_122 : Cond.methodLink RX3 122 yX0_wantsOther ∈ zw := zw_2 (List.mem_of_getElem? (i := 7) (by decide +kernel)) rfl
theorem wi_X0_wantsOther : Cond.instanceMethod yX0_wantsOther ∈ zw := zw_2 (List.mem_of_getElem? (i := 8) (by decide +kernel)) rfl
theorem wv_X0_wantsOther : Cond.selects RX0 yX0_wantsOther yX0_wantsOther ∈ zw := zw_2 (List.mem_of_getElem? (i := 9) (by decide +kernel)) rfl
theorem wc_X0_wantsOther : Cond.code yX0_wantsOther cX0_wantsOther 3 (some .boolean) ∈ zw := zw_2 (List.mem_of_getElem? (i := 10) (by decide +kernel)) rfl
theorem wl_X0_78 : Cond.methodLink RX0 78 yX0_seatWorth ∈ zw := zw_2 (List.mem_of_getElem? (i := 11) (by decide +kernel)) rfl
theorem wl_X0_74 : Cond.methodLink RX0 74 yX0_loafWorth ∈ zw := zw_2 (List.mem_of_getElem? (i := 12) (by decide +kernel)) rfl
theorem wl_L_40 : Cond.methodLink RL 40 yX3_swap ∈ zw := zw_2 (List.mem_of_getElem? (i := 13) (by decide +kernel)) rfl
theorem wi_X3_swap : Cond.instanceMethod yX3_swap ∈ zw := zw_2 (List.mem_of_getElem? (i := 14) (by decide +kernel)) rfl
theorem wv_X3_swap : Cond.selects RX3 yX3_swap yX3_swap ∈ zw := zw_2 (List.mem_of_getElem? (i := 15) (by decide +kernel)) rfl
theorem wc_X3_swap : Cond.code yX3_swap cX3_swap 4 (some .int) ∈ zw := zw_2 (List.mem_of_getElem? (i := 16) (by decide +kernel)) rfl
theorem wl_X3_125 : Cond.methodLink RX3 125 yX0_exchange ∈ zw := zw_2 (List.mem_of_getElem? (i := 17) (by decide +kernel)) rfl
theorem wi_X0_exchange : Cond.instanceMethod yX0_exchange ∈ zw := zw_2 (List.mem_of_getElem? (i := 18) (by decide +kernel)) rfl
theorem wv_X0_exchange : Cond.selects RX0 yX0_exchange yX0_exchange ∈ zw := zw_2 (List.mem_of_getElem? (i := 19) (by decide +kernel)) rfl
theorem wc_X0_exchange : Cond.code yX0_exchange cX0_exchange 4 (none : Option Jvm.ClassFile.FieldType) ∈ zw := zw_2 (List.mem_of_getElem? (i := 20) (by decide +kernel)) rfl
theorem wl_L_44 : Cond.methodLink RL 44 yX3_gates ∈ zw := zw_2 (List.mem_of_getElem? (i := 21) (by decide +kernel)) rfl
theorem wi_X3_gates : Cond.instanceMethod yX3_gates ∈ zw := zw_2 (List.mem_of_getElem? (i := 22) (by decide +kernel)) rfl
theorem wv_X3_gates : Cond.selects RX3 yX3_gates yX3_gates ∈ zw := zw_2 (List.mem_of_getElem? (i := 23) (by decide +kernel)) rfl
theorem wc_X3_gates : Cond.code yX3_gates cX3_gates 1 (some .int) ∈ zw := zw_2 (List.mem_of_getElem? (i := 24) (by decide +kernel)) rfl
theorem wl_X3_128 : Cond.methodLink RX3 128 yX0_openGates ∈ zw := zw_2 (List.mem_of_getElem? (i := 25) (by decide +kernel)) rfl
theorem wi_X0_openGates : Cond.instanceMethod yX0_openGates ∈ zw := zw_2 (List.mem_of_getElem? (i := 26) (by decide +kernel)) rfl
theorem wv_X0_openGates : Cond.selects RX0 yX0_openGates yX0_openGates ∈ zw := zw_2 (List.mem_of_getElem? (i := 27) (by decide +kernel)) rfl
theorem wc_X0_openGates : Cond.code yX0_openGates cX0_openGates 4 (some .int) ∈ zw := zw_2 (List.mem_of_getElem? (i := 28) (by decide +kernel)) rfl
theorem wl_X0_81 : Cond.methodLink RX0 81 yX0_wantsOther ∈ zw := zw_2 (List.mem_of_getElem? (i := 29) (by decide +kernel)) rfl
theorem wl_X0_84 : Cond.methodLink RX0 84 yX0_exchange ∈ zw := zw_2 (List.mem_of_getElem? (i := 30) (by decide +kernel)) rfl
theorem wl_L_49 : Cond.methodLink RL 49 yX3_changes ∈ zw := zw_2 (List.mem_of_getElem? (i := 31) (by decide +kernel)) rfl
theorem wi_X3_changes : Cond.instanceMethod yX3_changes ∈ zw := zw_2 (List.mem_of_getElem? (i := 32) (by decide +kernel)) rfl
theorem wv_X3_changes : Cond.selects RX3 yX3_changes yX3_changes ∈ zw := zw_2 (List.mem_of_getElem? (i := 33) (by decide +kernel)) rfl
theorem wc_X3_changes : Cond.code yX3_changes cX3_changes 1 (some .int) ∈ zw := zw_2 (List.mem_of_getElem? (i := 34) (by decide +kernel)) rfl
theorem wl_X3_131 : Cond.methodLink RX3 131 yX0_become ∈ zw := zw_2 (List.mem_of_getElem? (i := 35) (by decide +kernel)) rfl
theorem wi_X0_become : Cond.instanceMethod yX0_become ∈ zw := zw_2 (List.mem_of_getElem? (i := 36) (by decide +kernel)) rfl
theorem wv_X0_become : Cond.selects RX0 yX0_become yX0_become ∈ zw := zw_2 (List.mem_of_getElem? (i := 37) (by decide +kernel)) rfl
theorem wc_X0_become : Cond.code yX0_become cX0_become 2 (none : Option Jvm.ClassFile.FieldType) ∈ zw := zw_2 (List.mem_of_getElem? (i := 38) (by decide +kernel)) rfl
theorem wl_X0_61 : Cond.methodLink RX0 61 arraycopyName ∈ zw := zw_2 (List.mem_of_getElem? (i := 39) (by decide +kernel)) rfl
theorem wt_acopy : Cond.static arraycopyName ∈ zw := zw_2 (List.mem_of_getElem? (i := 40) (by decide +kernel)) rfl
theorem wnat_acopy : Cond.native arraycopyName ∈ zw := zw_2 (List.mem_of_getElem? (i := 41) (by decide +kernel)) rfl
theorem wl_L_53 : Cond.methodLink RL 53 yX3_buy ∈ zw := zw_2 (List.mem_of_getElem? (i := 42) (by decide +kernel)) rfl
theorem wi_X3_buy : Cond.instanceMethod yX3_buy ∈ zw := zw_2 (List.mem_of_getElem? (i := 43) (by decide +kernel)) rfl
theorem wv_X3_buy : Cond.selects RX3 yX3_buy yX3_buy ∈ zw := zw_2 (List.mem_of_getElem? (i := 44) (by decide +kernel)) rfl
theorem wc_X3_buy : Cond.code yX3_buy cX3_buy 5 (some .int) ∈ zw := zw_2 (List.mem_of_getElem? (i := 45) (by decide +kernel)) rfl
theorem wl_X3_135 : Cond.methodLink RX3 135 yX0_wouldTrade ∈ zw := zw_2 (List.mem_of_getElem? (i := 46) (by decide +kernel)) rfl
theorem wi_X0_wouldTrade : Cond.instanceMethod yX0_wouldTrade ∈ zw := zw_2 (List.mem_of_getElem? (i := 47) (by decide +kernel)) rfl
theorem wv_X0_wouldTrade : Cond.selects RX0 yX0_wouldTrade yX0_wouldTrade ∈ zw := zw_2 (List.mem_of_getElem? (i := 48) (by decide +kernel)) rfl
theorem wc_X0_wouldTrade : Cond.code yX0_wouldTrade cX0_wouldTrade 4 (some .boolean) ∈ zw := zw_2 (List.mem_of_getElem? (i := 49) (by decide +kernel)) rfl
theorem wl_X0_88 : Cond.methodLink RX0 88 yX0_tokenWorth ∈ zw := zw_2 (List.mem_of_getElem? (i := 50) (by decide +kernel)) rfl
theorem wi_X0_tokenWorth : Cond.instanceMethod yX0_tokenWorth ∈ zw := zw_2 (List.mem_of_getElem? (i := 51) (by decide +kernel)) rfl
theorem wv_X0_tokenWorth : Cond.selects RX0 yX0_tokenWorth yX0_tokenWorth ∈ zw := zw_2 (List.mem_of_getElem? (i := 52) (by decide +kernel)) rfl
theorem wc_X0_tokenWorth : Cond.code yX0_tokenWorth cX0_tokenWorth 3 (some .int) ∈ zw := zw_2 (List.mem_of_getElem? (i := 53) (by decide +kernel)) rfl
theorem wl_X3_139 : Cond.methodLink RX3 139 yX0_trade ∈ zw := zw_2 (List.mem_of_getElem? (i := 54) (by decide +kernel)) rfl
theorem wi_X0_trade : Cond.instanceMethod yX0_trade ∈ zw := zw_2 (List.mem_of_getElem? (i := 55) (by decide +kernel)) rfl
theorem wv_X0_trade : Cond.selects RX0 yX0_trade yX0_trade ∈ zw := zw_2 (List.mem_of_getElem? (i := 56) (by decide +kernel)) rfl
theorem wc_X0_trade : Cond.code yX0_trade cX0_trade 4 (none : Option Jvm.ClassFile.FieldType) ∈ zw := zw_2 (List.mem_of_getElem? (i := 57) (by decide +kernel)) rfl
theorem wl_L_57 : Cond.methodLink RL 57 yX3_welfare ∈ zw := zw_2 (List.mem_of_getElem? (i := 58) (by decide +kernel)) rfl
theorem wi_X3_welfare : Cond.instanceMethod yX3_welfare ∈ zw := zw_2 (List.mem_of_getElem? (i := 59) (by decide +kernel)) rfl
theorem wv_X3_welfare : Cond.selects RX3 yX3_welfare yX3_welfare ∈ zw := zw_2 (List.mem_of_getElem? (i := 60) (by decide +kernel)) rfl
theorem wc_X3_welfare : Cond.code yX3_welfare cX3_welfare 1 (some .int) ∈ zw := zw_2 (List.mem_of_getElem? (i := 61) (by decide +kernel)) rfl
theorem wl_X3_145 : Cond.methodLink RX3 145 yX0_allWorth ∈ zw := zw_2 (List.mem_of_getElem? (i := 62) (by decide +kernel)) rfl
theorem wi_X0_allWorth : Cond.instanceMethod yX0_allWorth ∈ zw := zw_2 (List.mem_of_getElem? (i := 63) (by decide +kernel)) rfl
theorem wv_X0_allWorth : Cond.selects RX0 yX0_allWorth yX0_allWorth ∈ zw := zw_2 (List.mem_of_getElem? (i := 64) (by decide +kernel)) rfl
theorem wc_X0_allWorth : Cond.code yX0_allWorth cX0_allWorth 3 (some .int) ∈ zw := zw_2 (List.mem_of_getElem? (i := 65) (by decide +kernel)) rfl
theorem wl_L_61 : Cond.methodLink RL 61 yX3_most ∈ zw := zw_2 (List.mem_of_getElem? (i := 66) (by decide +kernel)) rfl
theorem wi_X3_most : Cond.instanceMethod yX3_most ∈ zw := zw_2 (List.mem_of_getElem? (i := 67) (by decide +kernel)) rfl
theorem wv_X3_most : Cond.selects RX3 yX3_most yX3_most ∈ zw := zw_2 (List.mem_of_getElem? (i := 68) (by decide +kernel)) rfl
theorem wc_X3_most : Cond.code yX3_most cX3_most 1 (some .int) ∈ zw := zw_2 (List.mem_of_getElem? (i := 69) (by decide +kernel)) rfl
theorem wl_X3_148 : Cond.methodLink RX3 148 yX0_bestWorth ∈ zw := zw_2 (List.mem_of_getElem? (i := 70) (by decide +kernel)) rfl
theorem wi_X0_bestWorth : Cond.instanceMethod yX0_bestWorth ∈ zw := zw_2 (List.mem_of_getElem? (i := 71) (by decide +kernel)) rfl
theorem wv_X0_bestWorth : Cond.selects RX0 yX0_bestWorth yX0_bestWorth ∈ zw := zw_2 (List.mem_of_getElem? (i := 72) (by decide +kernel)) rfl
theorem wc_X0_bestWorth : Cond.code yX0_bestWorth cX0_bestWorth 6 (some .int) ∈ zw := zw_2 (List.mem_of_getElem? (i := 73) (by decide +kernel)) rfl
theorem wl_X0_92 : Cond.methodLink RX0 92 yX0_holders ∈ zw := zw_2 (List.mem_of_getElem? (i := 74) (by decide +kernel)) rfl
theorem wl_X0_95 : Cond.methodLink RX0 95 yJ6_bitCount_0f7a4 ∈ zw := zw_2 (List.mem_of_getElem? (i := 75) (by decide +kernel)) rfl
theorem wt_J6_bitCount_0f7a4 : Cond.static yJ6_bitCount_0f7a4 ∈ zw := zw_2 (List.mem_of_getElem? (i := 76) (by decide +kernel)) rfl
theorem wc_J6_bitCount_0f7a4 : Cond.code yJ6_bitCount_0f7a4 cJ6_bitCount_0f7a4 1 (some .int) ∈ zw := zw_2 (List.mem_of_getElem? (i := 77) (by decide +kernel)) rfl
theorem wl_J6_265 : Cond.constant RJ6 265 (1431655765) ∈ zw := zw_2 (List.mem_of_getElem? (i := 78) (by decide +kernel)) rfl
theorem wl_J6_266 : Cond.constant RJ6 266 (858993459) ∈ zw := zw_2 (List.mem_of_getElem? (i := 79) (by decide +kernel)) rfl
theorem wl_J6_267 : Cond.constant RJ6 267 (252645135) ∈ zw := zw_2 (List.mem_of_getElem? (i := 80) (by decide +kernel)) rfl
theorem wl_X0_100 : Cond.methodLink RX0 100 yX0_keenestOnLoaf ∈ zw := zw_2 (List.mem_of_getElem? (i := 81) (by decide +kernel)) rfl
theorem wi_X0_keenestOnLoaf : Cond.instanceMethod yX0_keenestOnLoaf ∈ zw := zw_2 (List.mem_of_getElem? (i := 82) (by decide +kernel)) rfl
theorem wv_X0_keenestOnLoaf : Cond.selects RX0 yX0_keenestOnLoaf yX0_keenestOnLoaf ∈ zw := zw_2 (List.mem_of_getElem? (i := 83) (by decide +kernel)) rfl
theorem wc_X0_keenestOnLoaf : Cond.code yX0_keenestOnLoaf cX0_keenestOnLoaf 6 (some .int) ∈ zw := zw_2 (List.mem_of_getElem? (i := 84) (by decide +kernel)) rfl
theorem wl_L_65 : Cond.methodLink RL 65 yX3_price ∈ zw := zw_2 (List.mem_of_getElem? (i := 85) (by decide +kernel)) rfl
theorem wi_X3_price : Cond.instanceMethod yX3_price ∈ zw := zw_2 (List.mem_of_getElem? (i := 86) (by decide +kernel)) rfl
theorem wv_X3_price : Cond.selects RX3 yX3_price yX3_price ∈ zw := zw_2 (List.mem_of_getElem? (i := 87) (by decide +kernel)) rfl
theorem wc_X3_price : Cond.code yX3_price cX3_price 3 (some .int) ∈ zw := zw_2 (List.mem_of_getElem? (i := 88) (by decide +kernel)) rfl
theorem wl_X3_151 : Cond.methodLink RX3 151 yJ6_bitCount_0f7a4 ∈ zw := zw_2 (List.mem_of_getElem? (i := 89) (by decide +kernel)) rfl
theorem wl_X3_156 : Cond.methodLink RX3 156 yX0_preferLoafAt ∈ zw := zw_2 (List.mem_of_getElem? (i := 90) (by decide +kernel)) rfl
theorem wi_X0_preferLoafAt : Cond.instanceMethod yX0_preferLoafAt ∈ zw := zw_2 (List.mem_of_getElem? (i := 91) (by decide +kernel)) rfl
theorem wv_X0_preferLoafAt : Cond.selects RX0 yX0_preferLoafAt yX0_preferLoafAt ∈ zw := zw_2 (List.mem_of_getElem? (i := 92) (by decide +kernel)) rfl
theorem wc_X0_preferLoafAt : Cond.code yX0_preferLoafAt cX0_preferLoafAt 4 (some .int) ∈ zw := zw_2 (List.mem_of_getElem? (i := 93) (by decide +kernel)) rfl
theorem wl_L_69 : Cond.methodLink RL 69 yX3_weeks ∈ zw := zw_2 (List.mem_of_getElem? (i := 94) (by decide +kernel)) rfl
theorem wi_X3_weeks : Cond.instanceMethod yX3_weeks ∈ zw := zw_2 (List.mem_of_getElem? (i := 95) (by decide +kernel)) rfl
theorem wv_X3_weeks : Cond.selects RX3 yX3_weeks yX3_weeks ∈ zw := zw_2 (List.mem_of_getElem? (i := 96) (by decide +kernel)) rfl
theorem wc_X3_weeks : Cond.code yX3_weeks cX3_weeks 4 (some .int) ∈ zw := zw_2 (List.mem_of_getElem? (i := 97) (by decide +kernel)) rfl
theorem wl_X3_159 : Cond.methodLink RX3 159 yX3_hindrance ∈ zw := zw_2 (List.mem_of_getElem? (i := 98) (by decide +kernel)) rfl
theorem wi_X3_hindrance : Cond.instanceMethod yX3_hindrance ∈ zw := zw_2 (List.mem_of_getElem? (i := 100) (by decide +kernel)) rfl
theorem wc_X3_hindrance : Cond.code yX3_hindrance cX3_hindrance 2 (some .int) ∈ zw := zw_2 (List.mem_of_getElem? (i := 101) (by decide +kernel)) rfl
theorem wl_X3_162 : Cond.methodLink RX3 162 yX0_passWeeks ∈ zw := zw_2 (List.mem_of_getElem? (i := 102) (by decide +kernel)) rfl
theorem wi_X0_passWeeks : Cond.instanceMethod yX0_passWeeks ∈ zw := zw_2 (List.mem_of_getElem? (i := 103) (by decide +kernel)) rfl
theorem wv_X0_passWeeks : Cond.selects RX0 yX0_passWeeks yX0_passWeeks ∈ zw := zw_2 (List.mem_of_getElem? (i := 104) (by decide +kernel)) rfl
theorem wc_X0_passWeeks : Cond.code yX0_passWeeks cX0_passWeeks 4 (some .int) ∈ zw := zw_2 (List.mem_of_getElem? (i := 105) (by decide +kernel)) rfl
theorem wl_X0_131 : Cond.methodLink RX0 131 yX0_passWeek ∈ zw := zw_2 (List.mem_of_getElem? (i := 106) (by decide +kernel)) rfl
theorem wi_X0_passWeek : Cond.instanceMethod yX0_passWeek ∈ zw := zw_2 (List.mem_of_getElem? (i := 107) (by decide +kernel)) rfl
theorem wv_X0_passWeek : Cond.selects RX0 yX0_passWeek yX0_passWeek ∈ zw := zw_2 (List.mem_of_getElem? (i := 108) (by decide +kernel)) rfl
theorem wc_X0_passWeek : Cond.code yX0_passWeek cX0_passWeek 3 (some .int) ∈ zw := zw_2 (List.mem_of_getElem? (i := 109) (by decide +kernel)) rfl
theorem wl_X0_119 : Cond.methodLink RX0 119 yX0_drawTokens ∈ zw := zw_2 (List.mem_of_getElem? (i := 110) (by decide +kernel)) rfl
theorem wi_X0_drawTokens : Cond.instanceMethod yX0_drawTokens ∈ zw := zw_2 (List.mem_of_getElem? (i := 111) (by decide +kernel)) rfl
theorem wv_X0_drawTokens : Cond.selects RX0 yX0_drawTokens yX0_drawTokens ∈ zw := zw_2 (List.mem_of_getElem? (i := 112) (by decide +kernel)) rfl
theorem wc_X0_drawTokens : Cond.code yX0_drawTokens cX0_drawTokens 5 (none : Option Jvm.ClassFile.FieldType) ∈ zw := zw_2 (List.mem_of_getElem? (i := 113) (by decide +kernel)) rfl
theorem wl_X0_104 : Cond.methodLink RX0 104 yX0_draw ∈ zw := zw_2 (List.mem_of_getElem? (i := 114) (by decide +kernel)) rfl
theorem wi_X0_draw : Cond.instanceMethod yX0_draw ∈ zw := zw_2 (List.mem_of_getElem? (i := 115) (by decide +kernel)) rfl
theorem wv_X0_draw : Cond.selects RX0 yX0_draw yX0_draw ∈ zw := zw_2 (List.mem_of_getElem? (i := 116) (by decide +kernel)) rfl
theorem wc_X0_draw : Cond.code yX0_draw cX0_draw 1 (some .int) ∈ zw := zw_2 (List.mem_of_getElem? (i := 117) (by decide +kernel)) rfl
theorem wl_X0_103 : Cond.constant RX0 103 (1103515245) ∈ zw := zw_2 (List.mem_of_getElem? (i := 118) (by decide +kernel)) rfl
theorem wl_X0_122 : Cond.methodLink RX0 122 yX0_openGates ∈ zw := zw_2 (List.mem_of_getElem? (i := 119) (by decide +kernel)) rfl
theorem wl_X0_125 : Cond.methodLink RX0 125 yX0_eatAndSee ∈ zw := zw_2 (List.mem_of_getElem? (i := 120) (by decide +kernel)) rfl
theorem wi_X0_eatAndSee : Cond.instanceMethod yX0_eatAndSee ∈ zw := zw_2 (List.mem_of_getElem? (i := 121) (by decide +kernel)) rfl
theorem wv_X0_eatAndSee : Cond.selects RX0 yX0_eatAndSee yX0_eatAndSee ∈ zw := zw_2 (List.mem_of_getElem? (i := 122) (by decide +kernel)) rfl
theorem wc_X0_eatAndSee : Cond.code yX0_eatAndSee cX0_eatAndSee 3 (none : Option Jvm.ClassFile.FieldType) ∈ zw := zw_2 (List.mem_of_getElem? (i := 123) (by decide +kernel)) rfl
theorem wl_X0_108 : Cond.methodLink RX0 108 Lib.Math.max.name ∈ zw := zw_2 (List.mem_of_getElem? (i := 124) (by decide +kernel)) rfl
theorem wt_mmax : Cond.static Lib.Math.max.name ∈ zw := zw_2 (List.mem_of_getElem? (i := 125) (by decide +kernel)) rfl
theorem wc_mmax : Cond.code Lib.Math.max.name Lib.Math.max.code 2 (some .int) ∈ zw := zw_2 (List.mem_of_getElem? (i := 126) (by decide +kernel)) rfl
theorem wl_X0_113 : Cond.methodLink RX0 113 Lib.Math.min.name ∈ zw := zw_2 (List.mem_of_getElem? (i := 127) (by decide +kernel)) rfl
theorem wt_mmin : Cond.static Lib.Math.min.name ∈ zw := zw_2 (List.mem_of_getElem? (i := 128) (by decide +kernel)) rfl
theorem wc_mmin : Cond.code Lib.Math.min.name Lib.Math.min.code 2 (some .int) ∈ zw := zw_2 (List.mem_of_getElem? (i := 129) (by decide +kernel)) rfl
theorem wl_X0_128 : Cond.methodLink RX0 128 yX0_maybeRiot ∈ zw := zw_2 (List.mem_of_getElem? (i := 130) (by decide +kernel)) rfl
theorem wi_X0_maybeRiot : Cond.instanceMethod yX0_maybeRiot ∈ zw := zw_2 (List.mem_of_getElem? (i := 131) (by decide +kernel)) rfl
theorem wv_X0_maybeRiot : Cond.selects RX0 yX0_maybeRiot yX0_maybeRiot ∈ zw := zw_2 (List.mem_of_getElem? (i := 132) (by decide +kernel)) rfl
theorem wc_X0_maybeRiot : Cond.code yX0_maybeRiot cX0_maybeRiot 2 (none : Option Jvm.ClassFile.FieldType) ∈ zw := zw_2 (List.mem_of_getElem? (i := 133) (by decide +kernel)) rfl
theorem wl_X0_116 : Cond.methodLink RX0 116 yX0_starving ∈ zw := zw_2 (List.mem_of_getElem? (i := 134) (by decide +kernel)) rfl
theorem wl_L_73 : Cond.methodLink RL 73 yX3_ahead ∈ zw := zw_2 (List.mem_of_getElem? (i := 135) (by decide +kernel)) rfl
theorem wi_X3_ahead : Cond.instanceMethod yX3_ahead ∈ zw := zw_2 (List.mem_of_getElem? (i := 136) (by decide +kernel)) rfl
theorem wv_X3_ahead : Cond.selects RX3 yX3_ahead yX3_ahead ∈ zw := zw_2 (List.mem_of_getElem? (i := 137) (by decide +kernel)) rfl
theorem wc_X3_ahead : Cond.code yX3_ahead cX3_ahead 5 (some .int) ∈ zw := zw_2 (List.mem_of_getElem? (i := 138) (by decide +kernel)) rfl
theorem wl_X3_168 : Cond.methodLink RX3 168 yX0_allOf ∈ zw := zw_2 (List.mem_of_getElem? (i := 139) (by decide +kernel)) rfl
theorem wi_X0_allOf : Cond.instanceMethod yX0_allOf ∈ zw := zw_2 (List.mem_of_getElem? (i := 140) (by decide +kernel)) rfl
theorem wv_X0_allOf : Cond.selects RX0 yX0_allOf yX0_allOf ∈ zw := zw_2 (List.mem_of_getElem? (i := 141) (by decide +kernel)) rfl
theorem wc_X0_allOf : Cond.code yX0_allOf cX0_allOf 4 (some .int) ∈ zw := zw_2 (List.mem_of_getElem? (i := 142) (by decide +kernel)) rfl
theorem wl_L_77 : Cond.methodLink RL 77 yX3_riot ∈ zw := zw_2 (List.mem_of_getElem? (i := 143) (by decide +kernel)) rfl
theorem wi_X3_riot : Cond.instanceMethod yX3_riot ∈ zw := zw_2 (List.mem_of_getElem? (i := 144) (by decide +kernel)) rfl
theorem wv_X3_riot : Cond.selects RX3 yX3_riot yX3_riot ∈ zw := zw_2 (List.mem_of_getElem? (i := 145) (by decide +kernel)) rfl
theorem wc_X3_riot : Cond.code yX3_riot cX3_riot 2 (some .int) ∈ zw := zw_2 (List.mem_of_getElem? (i := 146) (by decide +kernel)) rfl
theorem wl_X3_172 : Cond.methodLink RX3 172 yX0_calmWeeks ∈ zw := zw_2 (List.mem_of_getElem? (i := 147) (by decide +kernel)) rfl
theorem wi_X0_calmWeeks : Cond.instanceMethod yX0_calmWeeks ∈ zw := zw_2 (List.mem_of_getElem? (i := 148) (by decide +kernel)) rfl
theorem wv_X0_calmWeeks : Cond.selects RX0 yX0_calmWeeks yX0_calmWeeks ∈ zw := zw_2 (List.mem_of_getElem? (i := 149) (by decide +kernel)) rfl
theorem wc_X0_calmWeeks : Cond.code yX0_calmWeeks cX0_calmWeeks 4 (some .int) ∈ zw := zw_2 (List.mem_of_getElem? (i := 150) (by decide +kernel)) rfl
theorem wl_L_81 : Cond.methodLink RL 81 yX3_next ∈ zw := zw_2 (List.mem_of_getElem? (i := 151) (by decide +kernel)) rfl
theorem wi_X3_next : Cond.instanceMethod yX3_next ∈ zw := zw_2 (List.mem_of_getElem? (i := 152) (by decide +kernel)) rfl
theorem wv_X3_next : Cond.selects RX3 yX3_next yX3_next ∈ zw := zw_2 (List.mem_of_getElem? (i := 153) (by decide +kernel)) rfl
theorem wc_X3_next : Cond.code yX3_next cX3_next 2 (some .int) ∈ zw := zw_2 (List.mem_of_getElem? (i := 154) (by decide +kernel)) rfl
theorem wl_X3_175 : Cond.methodLink RX3 175 yX0_drawTokens ∈ zw := zw_2 (List.mem_of_getElem? (i := 155) (by decide +kernel)) rfl
theorem wl_L_85 : Cond.methodLink RL 85 yX3_loaves ∈ zw := zw_2 (List.mem_of_getElem? (i := 156) (by decide +kernel)) rfl
theorem wi_X3_loaves : Cond.instanceMethod yX3_loaves ∈ zw := zw_2 (List.mem_of_getElem? (i := 157) (by decide +kernel)) rfl
theorem wv_X3_loaves : Cond.selects RX3 yX3_loaves yX3_loaves ∈ zw := zw_2 (List.mem_of_getElem? (i := 158) (by decide +kernel)) rfl
theorem wc_X3_loaves : Cond.code yX3_loaves cX3_loaves 2 (some .int) ∈ zw := zw_2 (List.mem_of_getElem? (i := 159) (by decide +kernel)) rfl
theorem wl_X3_178 : Cond.methodLink RX3 178 yX3_leastCalmRuling ∈ zw := zw_2 (List.mem_of_getElem? (i := 160) (by decide +kernel)) rfl
theorem wi_X3_leastCalmRuling : Cond.instanceMethod yX3_leastCalmRuling ∈ zw := zw_2 (List.mem_of_getElem? (i := 162) (by decide +kernel)) rfl
theorem wc_X3_leastCalmRuling : Cond.code yX3_leastCalmRuling cX3_leastCalmRuling 5 (some .int) ∈ zw := zw_2 (List.mem_of_getElem? (i := 163) (by decide +kernel)) rfl
theorem wl_L_89 : Cond.methodLink RL 89 yX3_cheapest ∈ zw := zw_2 (List.mem_of_getElem? (i := 164) (by decide +kernel)) rfl
theorem wi_X3_cheapest : Cond.instanceMethod yX3_cheapest ∈ zw := zw_2 (List.mem_of_getElem? (i := 165) (by decide +kernel)) rfl
theorem wv_X3_cheapest : Cond.selects RX3 yX3_cheapest yX3_cheapest ∈ zw := zw_2 (List.mem_of_getElem? (i := 166) (by decide +kernel)) rfl
theorem wc_X3_cheapest : Cond.code yX3_cheapest cX3_cheapest 8 (some .int) ∈ zw := zw_2 (List.mem_of_getElem? (i := 167) (by decide +kernel)) rfl
theorem wl_X3_181 : Cond.methodLink RX3 181 yX3_isCalmWith ∈ zw := zw_2 (List.mem_of_getElem? (i := 168) (by decide +kernel)) rfl
theorem wi_X3_isCalmWith : Cond.instanceMethod yX3_isCalmWith ∈ zw := zw_2 (List.mem_of_getElem? (i := 170) (by decide +kernel)) rfl
theorem wc_X3_isCalmWith : Cond.code yX3_isCalmWith cX3_isCalmWith 4 (some .boolean) ∈ zw := zw_2 (List.mem_of_getElem? (i := 171) (by decide +kernel)) rfl
theorem wl_L_93 : Cond.methodLink RL 93 yX3_leader ∈ zw := zw_2 (List.mem_of_getElem? (i := 172) (by decide +kernel)) rfl
theorem wi_X3_leader : Cond.instanceMethod yX3_leader ∈ zw := zw_2 (List.mem_of_getElem? (i := 173) (by decide +kernel)) rfl
theorem wv_X3_leader : Cond.selects RX3 yX3_leader yX3_leader ∈ zw := zw_2 (List.mem_of_getElem? (i := 174) (by decide +kernel)) rfl
theorem wc_X3_leader : Cond.code yX3_leader cX3_leader 7 (some .int) ∈ zw := zw_2 (List.mem_of_getElem? (i := 175) (by decide +kernel)) rfl
theorem wl_L_97 : Cond.methodLink RL 97 yX3_colourFor ∈ zw := zw_2 (List.mem_of_getElem? (i := 176) (by decide +kernel)) rfl
theorem wi_X3_colourFor : Cond.instanceMethod yX3_colourFor ∈ zw := zw_2 (List.mem_of_getElem? (i := 177) (by decide +kernel)) rfl
theorem wv_X3_colourFor : Cond.selects RX3 yX3_colourFor yX3_colourFor ∈ zw := zw_2 (List.mem_of_getElem? (i := 178) (by decide +kernel)) rfl
theorem wc_X3_colourFor : Cond.code yX3_colourFor cX3_colourFor 3 (some .int) ∈ zw := zw_2 (List.mem_of_getElem? (i := 179) (by decide +kernel)) rfl
theorem wl_X3_184 : Cond.methodLink RX3 184 yX3_bestTrait ∈ zw := zw_2 (List.mem_of_getElem? (i := 180) (by decide +kernel)) rfl
theorem wi_X3_bestTrait : Cond.instanceMethod yX3_bestTrait ∈ zw := zw_2 (List.mem_of_getElem? (i := 182) (by decide +kernel)) rfl
theorem wc_X3_bestTrait : Cond.code yX3_bestTrait cX3_bestTrait 10 (some .int) ∈ zw := zw_2 (List.mem_of_getElem? (i := 183) (by decide +kernel)) rfl
theorem wl_L_101 : Cond.methodLink RL 101 yX3_kindFor ∈ zw := zw_2 (List.mem_of_getElem? (i := 184) (by decide +kernel)) rfl
theorem wi_X3_kindFor : Cond.instanceMethod yX3_kindFor ∈ zw := zw_2 (List.mem_of_getElem? (i := 185) (by decide +kernel)) rfl
theorem wv_X3_kindFor : Cond.selects RX3 yX3_kindFor yX3_kindFor ∈ zw := zw_2 (List.mem_of_getElem? (i := 186) (by decide +kernel)) rfl
theorem wc_X3_kindFor : Cond.code yX3_kindFor cX3_kindFor 3 (some .int) ∈ zw := zw_2 (List.mem_of_getElem? (i := 187) (by decide +kernel)) rfl
theorem wl_L_105 : Cond.methodLink RL 105 yX3_stale ∈ zw := zw_2 (List.mem_of_getElem? (i := 188) (by decide +kernel)) rfl
theorem wi_X3_stale : Cond.instanceMethod yX3_stale ∈ zw := zw_2 (List.mem_of_getElem? (i := 189) (by decide +kernel)) rfl
theorem wv_X3_stale : Cond.selects RX3 yX3_stale yX3_stale ∈ zw := zw_2 (List.mem_of_getElem? (i := 190) (by decide +kernel)) rfl
theorem wc_X3_stale : Cond.code yX3_stale cX3_stale 4 (some .int) ∈ zw := zw_2 (List.mem_of_getElem? (i := 191) (by decide +kernel)) rfl
theorem wl_L_109 : Cond.methodLink RL 109 yX3_bound ∈ zw := zw_2 (List.mem_of_getElem? (i := 192) (by decide +kernel)) rfl
theorem wi_X3_bound : Cond.instanceMethod yX3_bound ∈ zw := zw_2 (List.mem_of_getElem? (i := 193) (by decide +kernel)) rfl
theorem wv_X3_bound : Cond.selects RX3 yX3_bound yX3_bound ∈ zw := zw_2 (List.mem_of_getElem? (i := 194) (by decide +kernel)) rfl
theorem wc_X3_bound : Cond.code yX3_bound cX3_bound 2 (some .int) ∈ zw := zw_2 (List.mem_of_getElem? (i := 195) (by decide +kernel)) rfl
theorem wl_L_113 : Cond.methodLink RL 113 yX3_law ∈ zw := zw_2 (List.mem_of_getElem? (i := 196) (by decide +kernel)) rfl
theorem wi_X3_law : Cond.instanceMethod yX3_law ∈ zw := zw_2 (List.mem_of_getElem? (i := 197) (by decide +kernel)) rfl
theorem wv_X3_law : Cond.selects RX3 yX3_law yX3_law ∈ zw := zw_2 (List.mem_of_getElem? (i := 198) (by decide +kernel)) rfl
theorem wc_X3_law : Cond.code yX3_law cX3_law 6 (some .int) ∈ zw := zw_2 (List.mem_of_getElem? (i := 199) (by decide +kernel)) rfl
theorem wl_L_117 : Cond.methodLink RL 117 yX3_ways ∈ zw := zw_2 (List.mem_of_getElem? (i := 200) (by decide +kernel)) rfl
theorem wi_X3_ways : Cond.instanceMethod yX3_ways ∈ zw := zw_2 (List.mem_of_getElem? (i := 201) (by decide +kernel)) rfl
theorem wv_X3_ways : Cond.selects RX3 yX3_ways yX3_ways ∈ zw := zw_2 (List.mem_of_getElem? (i := 202) (by decide +kernel)) rfl
theorem wc_X3_ways : Cond.code yX3_ways cX3_ways 1 (some .long) ∈ zw := zw_2 (List.mem_of_getElem? (i := 203) (by decide +kernel)) rfl
theorem wl_X3_194 : Cond.methodLink RX3 194 yX3_waysThat ∈ zw := zw_2 (List.mem_of_getElem? (i := 204) (by decide +kernel)) rfl
theorem wi_X3_waysThat : Cond.instanceMethod yX3_waysThat ∈ zw := zw_2 (List.mem_of_getElem? (i := 206) (by decide +kernel)) rfl
theorem wc_X3_waysThat : Cond.code yX3_waysThat cX3_waysThat 8 (some .long) ∈ zw := zw_2 (List.mem_of_getElem? (i := 207) (by decide +kernel)) rfl
theorem wl_X3_280 : Cond.methodLink RX3 280 yX0_drawers ∈ zw := zw_2 (List.mem_of_getElem? (i := 208) (by decide +kernel)) rfl
theorem wi_X0_drawers : Cond.instanceMethod yX0_drawers ∈ zw := zw_2 (List.mem_of_getElem? (i := 209) (by decide +kernel)) rfl
theorem wv_X0_drawers : Cond.selects RX0 yX0_drawers yX0_drawers ∈ zw := zw_2 (List.mem_of_getElem? (i := 210) (by decide +kernel)) rfl
theorem wc_X0_drawers : Cond.code yX0_drawers cX0_drawers 1 (some .int) ∈ zw := zw_2 (List.mem_of_getElem? (i := 211) (by decide +kernel)) rfl
theorem wl_X3_283 : Cond.methodLink RX3 283 yX0_canDeal ∈ zw := zw_2 (List.mem_of_getElem? (i := 212) (by decide +kernel)) rfl
theorem wi_X0_canDeal : Cond.instanceMethod yX0_canDeal ∈ zw := zw_2 (List.mem_of_getElem? (i := 213) (by decide +kernel)) rfl
theorem wv_X0_canDeal : Cond.selects RX0 yX0_canDeal yX0_canDeal ∈ zw := zw_2 (List.mem_of_getElem? (i := 214) (by decide +kernel)) rfl
theorem wc_X0_canDeal : Cond.code yX0_canDeal cX0_canDeal 3 (some .boolean) ∈ zw := zw_2 (List.mem_of_getElem? (i := 215) (by decide +kernel)) rfl
theorem wl_X0_134 : Cond.methodLink RX0 134 yX0_drawers ∈ zw := zw_2 (List.mem_of_getElem? (i := 216) (by decide +kernel)) rfl
theorem wl_X3_286 : Cond.methodLink RX3 286 yX0_deal ∈ zw := zw_2 (List.mem_of_getElem? (i := 217) (by decide +kernel)) rfl
theorem wi_X0_deal : Cond.instanceMethod yX0_deal ∈ zw := zw_2 (List.mem_of_getElem? (i := 218) (by decide +kernel)) rfl
theorem wv_X0_deal : Cond.selects RX0 yX0_deal yX0_deal ∈ zw := zw_2 (List.mem_of_getElem? (i := 219) (by decide +kernel)) rfl
theorem wc_X0_deal : Cond.code yX0_deal cX0_deal 4 (none : Option Jvm.ClassFile.FieldType) ∈ zw := zw_2 (List.mem_of_getElem? (i := 220) (by decide +kernel)) rfl
theorem wl_X3_289 : Cond.methodLink RX3 289 yX3_isSo ∈ zw := zw_2 (List.mem_of_getElem? (i := 221) (by decide +kernel)) rfl
theorem wi_X3_isSo : Cond.instanceMethod yX3_isSo ∈ zw := zw_2 (List.mem_of_getElem? (i := 223) (by decide +kernel)) rfl
theorem wc_X3_isSo : Cond.code yX3_isSo cX3_isSo 4 (some .boolean) ∈ zw := zw_2 (List.mem_of_getElem? (i := 224) (by decide +kernel)) rfl
theorem wl_X3_235 : Cond.methodLink RX3 235 yX3_isSheet ∈ zw := zw_2 (List.mem_of_getElem? (i := 225) (by decide +kernel)) rfl
theorem wt_X3_isSheet : Cond.static yX3_isSheet ∈ zw := zw_2 (List.mem_of_getElem? (i := 226) (by decide +kernel)) rfl
theorem wc_X3_isSheet : Cond.code yX3_isSheet cX3_isSheet 1 (some .boolean) ∈ zw := zw_2 (List.mem_of_getElem? (i := 227) (by decide +kernel)) rfl
theorem wl_X3_292 : Cond.methodLink RX3 292 yX0_fits ∈ zw := zw_2 (List.mem_of_getElem? (i := 228) (by decide +kernel)) rfl
theorem wi_X0_fits : Cond.instanceMethod yX0_fits ∈ zw := zw_2 (List.mem_of_getElem? (i := 229) (by decide +kernel)) rfl
theorem wv_X0_fits : Cond.selects RX0 yX0_fits yX0_fits ∈ zw := zw_2 (List.mem_of_getElem? (i := 230) (by decide +kernel)) rfl
theorem wc_X0_fits : Cond.code yX0_fits cX0_fits 3 (some .boolean) ∈ zw := zw_2 (List.mem_of_getElem? (i := 231) (by decide +kernel)) rfl
theorem wl_L_122 : Cond.methodLink RL 122 yX3_eats ∈ zw := zw_2 (List.mem_of_getElem? (i := 232) (by decide +kernel)) rfl
theorem wi_X3_eats : Cond.instanceMethod yX3_eats ∈ zw := zw_2 (List.mem_of_getElem? (i := 233) (by decide +kernel)) rfl
theorem wv_X3_eats : Cond.selects RX3 yX3_eats yX3_eats ∈ zw := zw_2 (List.mem_of_getElem? (i := 234) (by decide +kernel)) rfl
theorem wc_X3_eats : Cond.code yX3_eats cX3_eats 2 (some .long) ∈ zw := zw_2 (List.mem_of_getElem? (i := 235) (by decide +kernel)) rfl
theorem wl_L_127 : Cond.methodLink RL 127 yX3_busy ∈ zw := zw_2 (List.mem_of_getElem? (i := 236) (by decide +kernel)) rfl
theorem wi_X3_busy : Cond.instanceMethod yX3_busy ∈ zw := zw_2 (List.mem_of_getElem? (i := 237) (by decide +kernel)) rfl
theorem wv_X3_busy : Cond.selects RX3 yX3_busy yX3_busy ∈ zw := zw_2 (List.mem_of_getElem? (i := 238) (by decide +kernel)) rfl
theorem wc_X3_busy : Cond.code yX3_busy cX3_busy 2 (some .long) ∈ zw := zw_2 (List.mem_of_getElem? (i := 239) (by decide +kernel)) rfl
theorem wl_L_131 : Cond.methodLink RL 131 yX3_famine ∈ zw := zw_3 (List.mem_of_getElem? (i := 0) (by decide +kernel)) rfl
theorem wi_X3_famine : Cond.instanceMethod yX3_famine ∈ zw := zw_3 (List.mem_of_getElem? (i := 1) (by decide +kernel)) rfl
theorem wv_X3_famine : Cond.selects RX3 yX3_famine yX3_famine ∈ zw := zw_3 (List.mem_of_getElem? (i := 2) (by decide +kernel)) rfl
theorem wc_X3_famine : Cond.code yX3_famine cX3_famine 3 (some .int) ∈ zw := zw_3 (List.mem_of_getElem? (i := 3) (by decide +kernel)) rfl
theorem wl_X3_198 : Cond.methodLink RX3 198 yX0_strike ∈ zw := zw_3 (List.mem_of_getElem? (i := 4) (by decide +kernel)) rfl
theorem wi_X0_strike : Cond.instanceMethod yX0_strike ∈ zw := zw_3 (List.mem_of_getElem? (i := 5) (by decide +kernel)) rfl
theorem wv_X0_strike : Cond.selects RX0 yX0_strike yX0_strike ∈ zw := zw_3 (List.mem_of_getElem? (i := 6) (by decide +kernel)) rfl
theorem wc_X0_strike : Cond.code yX0_strike cX0_strike 2 (none : Option Jvm.ClassFile.FieldType) ∈ zw := zw_3 (List.mem_of_getElem? (i := 7) (by decide +kernel)) rfl
theorem wl_L_135 : Cond.methodLink RL 135 yX3_seed ∈ zw := zw_3 (List.mem_of_getElem? (i := 8) (by decide +kernel)) rfl
theorem wi_X3_seed : Cond.instanceMethod yX3_seed ∈ zw := zw_3 (List.mem_of_getElem? (i := 9) (by decide +kernel)) rfl
theorem wv_X3_seed : Cond.selects RX3 yX3_seed yX3_seed ∈ zw := zw_3 (List.mem_of_getElem? (i := 10) (by decide +kernel)) rfl
theorem wc_X3_seed : Cond.code yX3_seed cX3_seed 3 (some .int) ∈ zw := zw_3 (List.mem_of_getElem? (i := 11) (by decide +kernel)) rfl
theorem wl_L_139 : Cond.methodLink RL 139 yX3_feed ∈ zw := zw_3 (List.mem_of_getElem? (i := 12) (by decide +kernel)) rfl
theorem wi_X3_feed : Cond.instanceMethod yX3_feed ∈ zw := zw_3 (List.mem_of_getElem? (i := 13) (by decide +kernel)) rfl
theorem wv_X3_feed : Cond.selects RX3 yX3_feed yX3_feed ∈ zw := zw_3 (List.mem_of_getElem? (i := 14) (by decide +kernel)) rfl
theorem wc_X3_feed : Cond.code yX3_feed cX3_feed 4 (some .int) ∈ zw := zw_3 (List.mem_of_getElem? (i := 15) (by decide +kernel)) rfl
theorem wl_X3_207 : Cond.methodLink RX3 207 yX2_append ∈ zw := zw_3 (List.mem_of_getElem? (i := 16) (by decide +kernel)) rfl
theorem wi_X2_append : Cond.instanceMethod yX2_append ∈ zw := zw_3 (List.mem_of_getElem? (i := 17) (by decide +kernel)) rfl
theorem wv_X2_append : Cond.selects RX2 yX2_append yX2_append ∈ zw := zw_3 (List.mem_of_getElem? (i := 18) (by decide +kernel)) rfl
theorem wc_X2_append : Cond.code yX2_append cX2_append 2 (none : Option Jvm.ClassFile.FieldType) ∈ zw := zw_3 (List.mem_of_getElem? (i := 19) (by decide +kernel)) rfl
theorem wl_L_143 : Cond.methodLink RL 143 yX3_wipe ∈ zw := zw_3 (List.mem_of_getElem? (i := 20) (by decide +kernel)) rfl
theorem wi_X3_wipe : Cond.instanceMethod yX3_wipe ∈ zw := zw_3 (List.mem_of_getElem? (i := 21) (by decide +kernel)) rfl
theorem wv_X3_wipe : Cond.selects RX3 yX3_wipe yX3_wipe ∈ zw := zw_3 (List.mem_of_getElem? (i := 22) (by decide +kernel)) rfl
theorem wc_X3_wipe : Cond.code yX3_wipe cX3_wipe 2 (some .int) ∈ zw := zw_3 (List.mem_of_getElem? (i := 23) (by decide +kernel)) rfl
theorem wl_L_147 : Cond.methodLink RL 147 yX3_text ∈ zw := zw_3 (List.mem_of_getElem? (i := 24) (by decide +kernel)) rfl
theorem wi_X3_text : Cond.instanceMethod yX3_text ∈ zw := zw_3 (List.mem_of_getElem? (i := 25) (by decide +kernel)) rfl
theorem wv_X3_text : Cond.selects RX3 yX3_text yX3_text ∈ zw := zw_3 (List.mem_of_getElem? (i := 26) (by decide +kernel)) rfl
theorem wc_X3_text : Cond.code yX3_text cX3_text 5 (some .int) ∈ zw := zw_3 (List.mem_of_getElem? (i := 27) (by decide +kernel)) rfl
theorem wl_X3_210 : Cond.methodLink RX3 210 yX2_rewind ∈ zw := zw_3 (List.mem_of_getElem? (i := 28) (by decide +kernel)) rfl
theorem wi_X2_rewind : Cond.instanceMethod yX2_rewind ∈ zw := zw_3 (List.mem_of_getElem? (i := 29) (by decide +kernel)) rfl
theorem wv_X2_rewind : Cond.selects RX2 yX2_rewind yX2_rewind ∈ zw := zw_3 (List.mem_of_getElem? (i := 30) (by decide +kernel)) rfl
theorem wc_X2_rewind : Cond.code yX2_rewind cX2_rewind 1 (none : Option Jvm.ClassFile.FieldType) ∈ zw := zw_3 (List.mem_of_getElem? (i := 31) (by decide +kernel)) rfl
theorem wl_X3_213 : Cond.methodLink RX3 213 yX2_advance ∈ zw := zw_3 (List.mem_of_getElem? (i := 32) (by decide +kernel)) rfl
theorem wi_X2_advance : Cond.instanceMethod yX2_advance ∈ zw := zw_3 (List.mem_of_getElem? (i := 33) (by decide +kernel)) rfl
theorem wv_X2_advance : Cond.selects RX2 yX2_advance yX2_advance ∈ zw := zw_3 (List.mem_of_getElem? (i := 34) (by decide +kernel)) rfl
theorem wc_X2_advance : Cond.code yX2_advance cX2_advance 1 (none : Option Jvm.ClassFile.FieldType) ∈ zw := zw_3 (List.mem_of_getElem? (i := 35) (by decide +kernel)) rfl
theorem wl_X2_31 : Cond.methodLink RX2 31 yX2_isLetter ∈ zw := zw_3 (List.mem_of_getElem? (i := 36) (by decide +kernel)) rfl
theorem wt_X2_isLetter : Cond.static yX2_isLetter ∈ zw := zw_3 (List.mem_of_getElem? (i := 37) (by decide +kernel)) rfl
theorem wc_X2_isLetter : Cond.code yX2_isLetter cX2_isLetter 1 (some .boolean) ∈ zw := zw_3 (List.mem_of_getElem? (i := 38) (by decide +kernel)) rfl
theorem wl_X2_35 : Cond.methodLink RX2 35 yX2_readWord ∈ zw := zw_3 (List.mem_of_getElem? (i := 39) (by decide +kernel)) rfl
theorem wi_X2_readWord : Cond.instanceMethod yX2_readWord ∈ zw := zw_3 (List.mem_of_getElem? (i := 40) (by decide +kernel)) rfl
theorem wv_X2_readWord : Cond.selects RX2 yX2_readWord yX2_readWord ∈ zw := zw_3 (List.mem_of_getElem? (i := 41) (by decide +kernel)) rfl
theorem wc_X2_readWord : Cond.code yX2_readWord cX2_readWord 1 (none : Option Jvm.ClassFile.FieldType) ∈ zw := zw_3 (List.mem_of_getElem? (i := 42) (by decide +kernel)) rfl
theorem wl_X2_38 : Cond.methodLink RX2 38 yX2_isDigit ∈ zw := zw_3 (List.mem_of_getElem? (i := 43) (by decide +kernel)) rfl
theorem wt_X2_isDigit : Cond.static yX2_isDigit ∈ zw := zw_3 (List.mem_of_getElem? (i := 44) (by decide +kernel)) rfl
theorem wc_X2_isDigit : Cond.code yX2_isDigit cX2_isDigit 1 (some .boolean) ∈ zw := zw_3 (List.mem_of_getElem? (i := 45) (by decide +kernel)) rfl
theorem wl_X2_41 : Cond.methodLink RX2 41 yX2_readNumber ∈ zw := zw_3 (List.mem_of_getElem? (i := 46) (by decide +kernel)) rfl
theorem wi_X2_readNumber : Cond.instanceMethod yX2_readNumber ∈ zw := zw_3 (List.mem_of_getElem? (i := 47) (by decide +kernel)) rfl
theorem wv_X2_readNumber : Cond.selects RX2 yX2_readNumber yX2_readNumber ∈ zw := zw_3 (List.mem_of_getElem? (i := 48) (by decide +kernel)) rfl
theorem wc_X2_readNumber : Cond.code yX2_readNumber cX2_readNumber 1 (none : Option Jvm.ClassFile.FieldType) ∈ zw := zw_3 (List.mem_of_getElem? (i := 49) (by decide +kernel)) rfl
theorem wl_X2_44 : Cond.methodLink RX2 44 Lib.Math.min.name ∈ zw := zw_3 (List.mem_of_getElem? (i := 50) (by decide +kernel)) rfl
theorem wl_X3_216 : Cond.methodLink RX3 216 yX3_readItem ∈ zw := zw_3 (List.mem_of_getElem? (i := 51) (by decide +kernel)) rfl
theorem wi_X3_readItem : Cond.instanceMethod yX3_readItem ∈ zw := zw_3 (List.mem_of_getElem? (i := 53) (by decide +kernel)) rfl
theorem wc_X3_readItem : Cond.code yX3_readItem cX3_readItem 3 (some .boolean) ∈ zw := zw_3 (List.mem_of_getElem? (i := 54) (by decide +kernel)) rfl
theorem wl_X3_296 : Cond.methodLink RX3 296 yX2_kindTold ∈ zw := zw_3 (List.mem_of_getElem? (i := 55) (by decide +kernel)) rfl
theorem wi_X2_kindTold : Cond.instanceMethod yX2_kindTold ∈ zw := zw_3 (List.mem_of_getElem? (i := 56) (by decide +kernel)) rfl
theorem wv_X2_kindTold : Cond.selects RX2 yX2_kindTold yX2_kindTold ∈ zw := zw_3 (List.mem_of_getElem? (i := 57) (by decide +kernel)) rfl
theorem wc_X2_kindTold : Cond.code yX2_kindTold cX2_kindTold 2 (some .int) ∈ zw := zw_3 (List.mem_of_getElem? (i := 58) (by decide +kernel)) rfl
theorem wl_X2_59 : Cond.methodLink RX2 59 yX2_kindWord ∈ zw := zw_3 (List.mem_of_getElem? (i := 59) (by decide +kernel)) rfl
theorem wt_X2_kindWord : Cond.static yX2_kindWord ∈ zw := zw_3 (List.mem_of_getElem? (i := 60) (by decide +kernel)) rfl
theorem wc_X2_kindWord : Cond.code yX2_kindWord cX2_kindWord 1 (some (.object "java/lang/String")) ∈ zw := zw_3 (List.mem_of_getElem? (i := 61) (by decide +kernel)) rfl
theorem wl_X2_63 : Cond.methodLink RX2 63 yX2_isWord ∈ zw := zw_3 (List.mem_of_getElem? (i := 69) (by decide +kernel)) rfl
theorem wi_X2_isWord : Cond.instanceMethod yX2_isWord ∈ zw := zw_3 (List.mem_of_getElem? (i := 70) (by decide +kernel)) rfl
theorem wv_X2_isWord : Cond.selects RX2 yX2_isWord yX2_isWord ∈ zw := zw_3 (List.mem_of_getElem? (i := 71) (by decide +kernel)) rfl
theorem wc_X2_isWord : Cond.code yX2_isWord cX2_isWord 3 (some .boolean) ∈ zw := zw_3 (List.mem_of_getElem? (i := 72) (by decide +kernel)) rfl
theorem wl_X2_50 : Cond.methodLink RX2 50 yJ0_length_8abf5 ∈ zw := zw_3 (List.mem_of_getElem? (i := 73) (by decide +kernel)) rfl
theorem wi_J0_length_8abf5 : Cond.instanceMethod yJ0_length_8abf5 ∈ zw := zw_3 (List.mem_of_getElem? (i := 74) (by decide +kernel)) rfl
theorem wv_J0_length_8abf5 : Cond.selects RJ0 yJ0_length_8abf5 yJ0_length_8abf5 ∈ zw := zw_3 (List.mem_of_getElem? (i := 75) (by decide +kernel)) rfl
theorem wc_J0_length_8abf5 : Cond.code yJ0_length_8abf5 cJ0_length_8abf5 1 (some .int) ∈ zw := zw_3 (List.mem_of_getElem? (i := 76) (by decide +kernel)) rfl
theorem wl_J0_335 : Cond.methodLink RJ0 335 yJ0_coder_7d493 ∈ zw := zw_3 (List.mem_of_getElem? (i := 77) (by decide +kernel)) rfl
theorem wi_J0_coder_7d493 : Cond.instanceMethod yJ0_coder_7d493 ∈ zw := zw_3 (List.mem_of_getElem? (i := 78) (by decide +kernel)) rfl
theorem wv_J0_coder_7d493 : Cond.selects RJ0 yJ0_coder_7d493 yJ0_coder_7d493 ∈ zw := zw_3 (List.mem_of_getElem? (i := 79) (by decide +kernel)) rfl
theorem wc_J0_coder_7d493 : Cond.code yJ0_coder_7d493 cJ0_coder_7d493 1 (some .byte) ∈ zw := zw_3 (List.mem_of_getElem? (i := 80) (by decide +kernel)) rfl
theorem wl_J0_38 : Cond.fieldLink RJ0 38 "java/lang/String" "COMPACT_STRINGS" "Z" ∈ zw := zw_3 (List.mem_of_getElem? (i := 81) (by decide +kernel)) rfl
theorem wl_X2_55 : Cond.methodLink RX2 55 yJ0_charAt_5068e ∈ zw := zw_3 (List.mem_of_getElem? (i := 83) (by decide +kernel)) rfl
theorem wi_J0_charAt_5068e : Cond.instanceMethod yJ0_charAt_5068e ∈ zw := zw_3 (List.mem_of_getElem? (i := 84) (by decide +kernel)) rfl
theorem wv_J0_charAt_5068e : Cond.selects RJ0 yJ0_charAt_5068e yJ0_charAt_5068e ∈ zw := zw_3 (List.mem_of_getElem? (i := 85) (by decide +kernel)) rfl
theorem wc_J0_charAt_5068e : Cond.code yJ0_charAt_5068e cJ0_charAt_5068e 2 (some .char) ∈ zw := zw_3 (List.mem_of_getElem? (i := 86) (by decide +kernel)) rfl
theorem wl_J0_492 : Cond.methodLink RJ0 492 yJ0_isLatin1_aae02 ∈ zw := zw_3 (List.mem_of_getElem? (i := 87) (by decide +kernel)) rfl
theorem wi_J0_isLatin1_aae02 : Cond.instanceMethod yJ0_isLatin1_aae02 ∈ zw := zw_3 (List.mem_of_getElem? (i := 88) (by decide +kernel)) rfl
theorem wv_J0_isLatin1_aae02 : Cond.selects RJ0 yJ0_isLatin1_aae02 yJ0_isLatin1_aae02 ∈ zw := zw_3 (List.mem_of_getElem? (i := 89) (by decide +kernel)) rfl
theorem wc_J0_isLatin1_aae02 : Cond.code yJ0_isLatin1_aae02 cJ0_isLatin1_aae02 1 (some .boolean) ∈ zw := zw_3 (List.mem_of_getElem? (i := 90) (by decide +kernel)) rfl
theorem wl_J0_495 : Cond.methodLink RJ0 495 yJ1_charAt_3b067 ∈ zw := zw_3 (List.mem_of_getElem? (i := 91) (by decide +kernel)) rfl
theorem wt_J1_charAt_3b067 : Cond.static yJ1_charAt_3b067 ∈ zw := zw_3 (List.mem_of_getElem? (i := 92) (by decide +kernel)) rfl
theorem wc_J1_charAt_3b067 : Cond.code yJ1_charAt_3b067 cJ1_charAt_3b067 2 (some .char) ∈ zw := zw_3 (List.mem_of_getElem? (i := 93) (by decide +kernel)) rfl
theorem wl_J1_9 : Cond.methodLink RJ1 9 yJ0_checkIndex_df160 ∈ zw := zw_3 (List.mem_of_getElem? (i := 94) (by decide +kernel)) rfl
theorem wt_J0_checkIndex_df160 : Cond.static yJ0_checkIndex_df160 ∈ zw := zw_3 (List.mem_of_getElem? (i := 95) (by decide +kernel)) rfl
theorem wc_J0_checkIndex_df160 : Cond.code yJ0_checkIndex_df160 cJ0_checkIndex_df160 2 (none : Option Jvm.ClassFile.FieldType) ∈ zw := zw_3 (List.mem_of_getElem? (i := 96) (by decide +kernel)) rfl
theorem wl_J0_1053 : Cond.fieldLink RJ0 1053 "jdk/internal/util/Preconditions" "SIOOBE_FORMATTER" "Ljava/util/function/BiFunction;" ∈ zw := zw_3 (List.mem_of_getElem? (i := 97) (by decide +kernel)) rfl
theorem wl_J0_1059 : Cond.methodLink RJ0 1059 yJ3_checkIndex_8e157 ∈ zw := zw_3 (List.mem_of_getElem? (i := 99) (by decide +kernel)) rfl
theorem wt_J3_checkIndex_8e157 : Cond.static yJ3_checkIndex_8e157 ∈ zw := zw_3 (List.mem_of_getElem? (i := 100) (by decide +kernel)) rfl
theorem wc_J3_checkIndex_8e157 : Cond.code yJ3_checkIndex_8e157 cJ3_checkIndex_8e157 3 (some .int) ∈ zw := zw_3 (List.mem_of_getElem? (i := 101) (by decide +kernel)) rfl
theorem wl_J0_498 : Cond.methodLink RJ0 498 yJ2_charAt_3b067 ∈ zw := zw_3 (List.mem_of_getElem? (i := 102) (by decide +kernel)) rfl
theorem wt_J2_charAt_3b067 : Cond.static yJ2_charAt_3b067 ∈ zw := zw_3 (List.mem_of_getElem? (i := 103) (by decide +kernel)) rfl
theorem wc_J2_charAt_3b067 : Cond.code yJ2_charAt_3b067 cJ2_charAt_3b067 2 (some .char) ∈ zw := zw_3 (List.mem_of_getElem? (i := 104) (by decide +kernel)) rfl
theorem wl_J2_67 : Cond.methodLink RJ2 67 yJ2_checkIndex_2214a ∈ zw := zw_3 (List.mem_of_getElem? (i := 105) (by decide +kernel)) rfl
theorem wt_J2_checkIndex_2214a : Cond.static yJ2_checkIndex_2214a ∈ zw := zw_3 (List.mem_of_getElem? (i := 106) (by decide +kernel)) rfl
theorem wc_J2_checkIndex_2214a : Cond.code yJ2_checkIndex_2214a cJ2_checkIndex_2214a 2 (none : Option Jvm.ClassFile.FieldType) ∈ zw := zw_3 (List.mem_of_getElem? (i := 107) (by decide +kernel)) rfl
theorem wl_J2_48 : Cond.methodLink RJ2 48 yJ2_length_9d52b ∈ zw := zw_3 (List.mem_of_getElem? (i := 108) (by decide +kernel)) rfl
theorem wt_J2_length_9d52b : Cond.static yJ2_length_9d52b ∈ zw := zw_3 (List.mem_of_getElem? (i := 109) (by decide +kernel)) rfl
theorem wc_J2_length_9d52b : Cond.code yJ2_length_9d52b cJ2_length_9d52b 1 (some .int) ∈ zw := zw_3 (List.mem_of_getElem? (i := 110) (by decide +kernel)) rfl
theorem wl_J2_414 : Cond.methodLink RJ2 414 yJ0_checkIndex_df160 ∈ zw := zw_3 (List.mem_of_getElem? (i := 111) (by decide +kernel)) rfl
theorem wl_J2_71 : Cond.methodLink RJ2 71 yJ2_getChar_3b067 ∈ zw := zw_3 (List.mem_of_getElem? (i := 112) (by decide +kernel)) rfl
theorem wt_J2_getChar_3b067 : Cond.static yJ2_getChar_3b067 ∈ zw := zw_3 (List.mem_of_getElem? (i := 113) (by decide +kernel)) rfl
theorem wc_J2_getChar_3b067 : Cond.code yJ2_getChar_3b067 cJ2_getChar_3b067 2 (some .char) ∈ zw := zw_3 (List.mem_of_getElem? (i := 114) (by decide +kernel)) rfl
theorem wl_J2_44 : Cond.fieldLink RJ2 44 "java/lang/StringUTF16" "$assertionsDisabled" "Z" ∈ zw := zw_3 (List.mem_of_getElem? (i := 115) (by decide +kernel)) rfl
theorem wl_J2_59 : Cond.fieldLink RJ2 59 "java/lang/StringUTF16" "HI_BYTE_SHIFT" "I" ∈ zw := zw_3 (List.mem_of_getElem? (i := 117) (by decide +kernel)) rfl
theorem wl_J2_63 : Cond.fieldLink RJ2 63 "java/lang/StringUTF16" "LO_BYTE_SHIFT" "I" ∈ zw := zw_3 (List.mem_of_getElem? (i := 119) (by decide +kernel)) rfl
theorem wl_X3_299 : Cond.methodLink RX3 299 yX3_readCitizen ∈ zw := zw_3 (List.mem_of_getElem? (i := 121) (by decide +kernel)) rfl
theorem wi_X3_readCitizen : Cond.instanceMethod yX3_readCitizen ∈ zw := zw_3 (List.mem_of_getElem? (i := 123) (by decide +kernel)) rfl
theorem wc_X3_readCitizen : Cond.code yX3_readCitizen cX3_readCitizen 3 (some .boolean) ∈ zw := zw_3 (List.mem_of_getElem? (i := 124) (by decide +kernel)) rfl
theorem wl_X3_318 : Cond.methodLink RX3 318 yX3_readTrait ∈ zw := zw_3 (List.mem_of_getElem? (i := 126) (by decide +kernel)) rfl
theorem wi_X3_readTrait : Cond.instanceMethod yX3_readTrait ∈ zw := zw_3 (List.mem_of_getElem? (i := 128) (by decide +kernel)) rfl
theorem wc_X3_readTrait : Cond.code yX3_readTrait cX3_readTrait 3 (some .boolean) ∈ zw := zw_3 (List.mem_of_getElem? (i := 129) (by decide +kernel)) rfl
theorem wl_X3_303 : Cond.methodLink RX3 303 yX2_isWord ∈ zw := zw_3 (List.mem_of_getElem? (i := 130) (by decide +kernel)) rfl
theorem wl_X3_307 : Cond.methodLink RX3 307 yX3_readRuling ∈ zw := zw_3 (List.mem_of_getElem? (i := 136) (by decide +kernel)) rfl
theorem wi_X3_readRuling : Cond.instanceMethod yX3_readRuling ∈ zw := zw_3 (List.mem_of_getElem? (i := 138) (by decide +kernel)) rfl
theorem wc_X3_readRuling : Cond.code yX3_readRuling cX3_readRuling 2 (some .boolean) ∈ zw := zw_3 (List.mem_of_getElem? (i := 139) (by decide +kernel)) rfl
theorem warr_byte : Cond.arrayClass .byte ∈ zw := zw_3 (List.mem_of_getElem? (i := 145) (by decide +kernel)) rfl
theorem wl_L_151 : Cond.methodLink RL 151 yX3_hold ∈ zw := zw_3 (List.mem_of_getElem? (i := 146) (by decide +kernel)) rfl
theorem wi_X3_hold : Cond.instanceMethod yX3_hold ∈ zw := zw_3 (List.mem_of_getElem? (i := 147) (by decide +kernel)) rfl
theorem wv_X3_hold : Cond.selects RX3 yX3_hold yX3_hold ∈ zw := zw_3 (List.mem_of_getElem? (i := 148) (by decide +kernel)) rfl
theorem wc_X3_hold : Cond.code yX3_hold cX3_hold 3 (some .int) ∈ zw := zw_3 (List.mem_of_getElem? (i := 149) (by decide +kernel)) rfl
theorem wl_X3_226 : Cond.methodLink RX3 226 yX3_isSpot ∈ zw := zw_3 (List.mem_of_getElem? (i := 150) (by decide +kernel)) rfl
theorem wt_X3_isSpot : Cond.static yX3_isSpot ∈ zw := zw_3 (List.mem_of_getElem? (i := 151) (by decide +kernel)) rfl
theorem wc_X3_isSpot : Cond.code yX3_isSpot cX3_isSpot 1 (some .boolean) ∈ zw := zw_3 (List.mem_of_getElem? (i := 152) (by decide +kernel)) rfl
theorem wl_L_155 : Cond.methodLink RL 155 yX3_as ∈ zw := zw_3 (List.mem_of_getElem? (i := 153) (by decide +kernel)) rfl
theorem wi_X3_as : Cond.instanceMethod yX3_as ∈ zw := zw_3 (List.mem_of_getElem? (i := 154) (by decide +kernel)) rfl
theorem wv_X3_as : Cond.selects RX3 yX3_as yX3_as ∈ zw := zw_3 (List.mem_of_getElem? (i := 155) (by decide +kernel)) rfl
theorem wc_X3_as : Cond.code yX3_as cX3_as 4 (some .int) ∈ zw := zw_3 (List.mem_of_getElem? (i := 156) (by decide +kernel)) rfl
theorem wl_X3_232 : Cond.methodLink RX3 232 yX3_isUnder ∈ zw := zw_3 (List.mem_of_getElem? (i := 157) (by decide +kernel)) rfl
theorem wt_X3_isUnder : Cond.static yX3_isUnder ∈ zw := zw_3 (List.mem_of_getElem? (i := 158) (by decide +kernel)) rfl
theorem wc_X3_isUnder : Cond.code yX3_isUnder cX3_isUnder 4 (some .boolean) ∈ zw := zw_3 (List.mem_of_getElem? (i := 159) (by decide +kernel)) rfl
theorem wl_X3_277 : Cond.fieldLink RX3 277 "BreadGames" "KIND_ABOVE" "[I" ∈ zw := zw_3 (List.mem_of_getElem? (i := 160) (by decide +kernel)) rfl
theorem wl_L_159 : Cond.methodLink RL 159 yX3_sheet ∈ zw := zw_3 (List.mem_of_getElem? (i := 162) (by decide +kernel)) rfl
theorem wi_X3_sheet : Cond.instanceMethod yX3_sheet ∈ zw := zw_3 (List.mem_of_getElem? (i := 163) (by decide +kernel)) rfl
theorem wv_X3_sheet : Cond.selects RX3 yX3_sheet yX3_sheet ∈ zw := zw_3 (List.mem_of_getElem? (i := 164) (by decide +kernel)) rfl
theorem wc_X3_sheet : Cond.code yX3_sheet cX3_sheet 5 (some .int) ∈ zw := zw_3 (List.mem_of_getElem? (i := 165) (by decide +kernel)) rfl
theorem wl_X3_238 : Cond.methodLink RX3 238 yX1_renew ∈ zw := zw_3 (List.mem_of_getElem? (i := 166) (by decide +kernel)) rfl
theorem wi_X1_renew : Cond.instanceMethod yX1_renew ∈ zw := zw_3 (List.mem_of_getElem? (i := 167) (by decide +kernel)) rfl
theorem wv_X1_renew : Cond.selects RX1 yX1_renew yX1_renew ∈ zw := zw_3 (List.mem_of_getElem? (i := 168) (by decide +kernel)) rfl
theorem wc_X1_renew : Cond.code yX1_renew cX1_renew 4 (none : Option Jvm.ClassFile.FieldType) ∈ zw := zw_3 (List.mem_of_getElem? (i := 169) (by decide +kernel)) rfl
theorem wl_L_163 : Cond.methodLink RL 163 yX3_write ∈ zw := zw_3 (List.mem_of_getElem? (i := 170) (by decide +kernel)) rfl
theorem wi_X3_write : Cond.instanceMethod yX3_write ∈ zw := zw_3 (List.mem_of_getElem? (i := 171) (by decide +kernel)) rfl
theorem wv_X3_write : Cond.selects RX3 yX3_write yX3_write ∈ zw := zw_3 (List.mem_of_getElem? (i := 172) (by decide +kernel)) rfl
theorem wc_X3_write : Cond.code yX3_write cX3_write 5 (some .int) ∈ zw := zw_3 (List.mem_of_getElem? (i := 173) (by decide +kernel)) rfl
theorem wl_X3_244 : Cond.methodLink RX3 244 yX3_sheetHindrance ∈ zw := zw_3 (List.mem_of_getElem? (i := 174) (by decide +kernel)) rfl
theorem wi_X3_sheetHindrance : Cond.instanceMethod yX3_sheetHindrance ∈ zw := zw_3 (List.mem_of_getElem? (i := 176) (by decide +kernel)) rfl
theorem wc_X3_sheetHindrance : Cond.code yX3_sheetHindrance cX3_sheetHindrance 2 (some .int) ∈ zw := zw_3 (List.mem_of_getElem? (i := 177) (by decide +kernel)) rfl
theorem wl_X3_247 : Cond.methodLink RX3 247 yX1_put ∈ zw := zw_3 (List.mem_of_getElem? (i := 178) (by decide +kernel)) rfl
theorem wi_X1_put : Cond.instanceMethod yX1_put ∈ zw := zw_3 (List.mem_of_getElem? (i := 179) (by decide +kernel)) rfl
theorem wv_X1_put : Cond.selects RX1 yX1_put yX1_put ∈ zw := zw_3 (List.mem_of_getElem? (i := 180) (by decide +kernel)) rfl
theorem wc_X1_put : Cond.code yX1_put cX1_put 3 (none : Option Jvm.ClassFile.FieldType) ∈ zw := zw_3 (List.mem_of_getElem? (i := 181) (by decide +kernel)) rfl
theorem wl_L_167 : Cond.methodLink RL 167 yX3_copy ∈ zw := zw_3 (List.mem_of_getElem? (i := 182) (by decide +kernel)) rfl
theorem wi_X3_copy : Cond.instanceMethod yX3_copy ∈ zw := zw_3 (List.mem_of_getElem? (i := 183) (by decide +kernel)) rfl
theorem wv_X3_copy : Cond.selects RX3 yX3_copy yX3_copy ∈ zw := zw_3 (List.mem_of_getElem? (i := 184) (by decide +kernel)) rfl
theorem wc_X3_copy : Cond.code yX3_copy cX3_copy 8 (some .int) ∈ zw := zw_3 (List.mem_of_getElem? (i := 185) (by decide +kernel)) rfl
theorem wl_X3_253 : Cond.methodLink RX3 253 yX1_spans ∈ zw := zw_3 (List.mem_of_getElem? (i := 186) (by decide +kernel)) rfl
theorem wi_X1_spans : Cond.instanceMethod yX1_spans ∈ zw := zw_3 (List.mem_of_getElem? (i := 187) (by decide +kernel)) rfl
theorem wv_X1_spans : Cond.selects RX1 yX1_spans yX1_spans ∈ zw := zw_3 (List.mem_of_getElem? (i := 188) (by decide +kernel)) rfl
theorem wc_X1_spans : Cond.code yX1_spans cX1_spans 3 (some .boolean) ∈ zw := zw_3 (List.mem_of_getElem? (i := 189) (by decide +kernel)) rfl
theorem wl_X3_259 : Cond.methodLink RX3 259 arraycopyName ∈ zw := zw_3 (List.mem_of_getElem? (i := 190) (by decide +kernel)) rfl
theorem wl_L_172 : Cond.methodLink RL 172 yX3_load ∈ zw := zw_3 (List.mem_of_getElem? (i := 191) (by decide +kernel)) rfl
theorem wi_X3_load : Cond.instanceMethod yX3_load ∈ zw := zw_3 (List.mem_of_getElem? (i := 192) (by decide +kernel)) rfl
theorem wv_X3_load : Cond.selects RX3 yX3_load yX3_load ∈ zw := zw_3 (List.mem_of_getElem? (i := 193) (by decide +kernel)) rfl
theorem wc_X3_load : Cond.code yX3_load cX3_load 6 (some .int) ∈ zw := zw_3 (List.mem_of_getElem? (i := 194) (by decide +kernel)) rfl
theorem wl_X3_265 : Cond.methodLink RX3 265 Lib.Math.min.name ∈ zw := zw_3 (List.mem_of_getElem? (i := 195) (by decide +kernel)) rfl
theorem wl_L_176 : Cond.methodLink RL 176 yX3_tally ∈ zw := zw_3 (List.mem_of_getElem? (i := 196) (by decide +kernel)) rfl
theorem wi_X3_tally : Cond.instanceMethod yX3_tally ∈ zw := zw_3 (List.mem_of_getElem? (i := 197) (by decide +kernel)) rfl
theorem wv_X3_tally : Cond.selects RX3 yX3_tally yX3_tally ∈ zw := zw_3 (List.mem_of_getElem? (i := 198) (by decide +kernel)) rfl
theorem wc_X3_tally : Cond.code yX3_tally cX3_tally 3 (some .long) ∈ zw := zw_3 (List.mem_of_getElem? (i := 199) (by decide +kernel)) rfl
theorem wl_L_180 : Cond.methodLink RL 180 yX3_judge ∈ zw := zw_3 (List.mem_of_getElem? (i := 200) (by decide +kernel)) rfl
theorem wi_X3_judge : Cond.instanceMethod yX3_judge ∈ zw := zw_3 (List.mem_of_getElem? (i := 201) (by decide +kernel)) rfl
theorem wv_X3_judge : Cond.selects RX3 yX3_judge yX3_judge ∈ zw := zw_3 (List.mem_of_getElem? (i := 202) (by decide +kernel)) rfl
theorem wc_X3_judge : Cond.code yX3_judge cX3_judge 5 (some .int) ∈ zw := zw_3 (List.mem_of_getElem? (i := 203) (by decide +kernel)) rfl
theorem wl_X3_270 : Cond.methodLink RX3 270 yX0_passWeek ∈ zw := zw_3 (List.mem_of_getElem? (i := 204) (by decide +kernel)) rfl
theorem wl_L_184 : Cond.methodLink RL 184 yX3_image ∈ zw := zw_3 (List.mem_of_getElem? (i := 205) (by decide +kernel)) rfl
theorem wi_X3_image : Cond.instanceMethod yX3_image ∈ zw := zw_3 (List.mem_of_getElem? (i := 206) (by decide +kernel)) rfl
theorem wv_X3_image : Cond.selects RX3 yX3_image yX3_image ∈ zw := zw_3 (List.mem_of_getElem? (i := 207) (by decide +kernel)) rfl
theorem wc_X3_image : Cond.code yX3_image cX3_image 1 (some .int) ∈ zw := zw_3 (List.mem_of_getElem? (i := 208) (by decide +kernel)) rfl
theorem wl_L_188 : Cond.methodLink RL 188 yX3_undo ∈ zw := zw_3 (List.mem_of_getElem? (i := 209) (by decide +kernel)) rfl
theorem wi_X3_undo : Cond.instanceMethod yX3_undo ∈ zw := zw_3 (List.mem_of_getElem? (i := 210) (by decide +kernel)) rfl
theorem wv_X3_undo : Cond.selects RX3 yX3_undo yX3_undo ∈ zw := zw_3 (List.mem_of_getElem? (i := 211) (by decide +kernel)) rfl
theorem wc_X3_undo : Cond.code yX3_undo cX3_undo 1 (some .int) ∈ zw := zw_3 (List.mem_of_getElem? (i := 212) (by decide +kernel)) rfl
theorem wl_L_192 : Cond.methodLink RL 192 yX3_tear ∈ zw := zw_3 (List.mem_of_getElem? (i := 213) (by decide +kernel)) rfl
theorem wi_X3_tear : Cond.instanceMethod yX3_tear ∈ zw := zw_3 (List.mem_of_getElem? (i := 214) (by decide +kernel)) rfl
theorem wv_X3_tear : Cond.selects RX3 yX3_tear yX3_tear ∈ zw := zw_3 (List.mem_of_getElem? (i := 215) (by decide +kernel)) rfl
theorem wc_X3_tear : Cond.code yX3_tear cX3_tear 2 (some .int) ∈ zw := zw_3 (List.mem_of_getElem? (i := 216) (by decide +kernel)) rfl
theorem wl_L_196 : Cond.methodLink RL 196 yX3_count ∈ zw := zw_3 (List.mem_of_getElem? (i := 217) (by decide +kernel)) rfl
theorem wi_X3_count : Cond.instanceMethod yX3_count ∈ zw := zw_3 (List.mem_of_getElem? (i := 218) (by decide +kernel)) rfl
theorem wv_X3_count : Cond.selects RX3 yX3_count yX3_count ∈ zw := zw_3 (List.mem_of_getElem? (i := 219) (by decide +kernel)) rfl
theorem wc_X3_count : Cond.code yX3_count cX3_count 2 (some .int) ∈ zw := zw_3 (List.mem_of_getElem? (i := 220) (by decide +kernel)) rfl
theorem wl_X3_273 : Cond.methodLink RX3 273 yX0_heldSpots ∈ zw := zw_3 (List.mem_of_getElem? (i := 221) (by decide +kernel)) rfl
theorem wi_X0_heldSpots : Cond.instanceMethod yX0_heldSpots ∈ zw := zw_3 (List.mem_of_getElem? (i := 222) (by decide +kernel)) rfl
theorem wv_X0_heldSpots : Cond.selects RX0 yX0_heldSpots yX0_heldSpots ∈ zw := zw_3 (List.mem_of_getElem? (i := 223) (by decide +kernel)) rfl
theorem wc_X0_heldSpots : Cond.code yX0_heldSpots cX0_heldSpots 3 (some .int) ∈ zw := zw_3 (List.mem_of_getElem? (i := 224) (by decide +kernel)) rfl
theorem wl_L_200 : Cond.methodLink RL 200 yX3_status ∈ zw := zw_3 (List.mem_of_getElem? (i := 225) (by decide +kernel)) rfl
theorem wi_X3_status : Cond.instanceMethod yX3_status ∈ zw := zw_3 (List.mem_of_getElem? (i := 226) (by decide +kernel)) rfl
theorem wv_X3_status : Cond.selects RX3 yX3_status yX3_status ∈ zw := zw_3 (List.mem_of_getElem? (i := 227) (by decide +kernel)) rfl
theorem wc_X3_status : Cond.code yX3_status cX3_status 4 (some .int) ∈ zw := zw_3 (List.mem_of_getElem? (i := 228) (by decide +kernel)) rfl
theorem wl_L_10 : Cond.classLink RL 10 RX4 ∈ zw := zw_3 (List.mem_of_getElem? (i := 229) (by decide +kernel)) rfl
theorem wins_X4 : Cond.instantiable RX4 17 ∈ zw := zw_3 (List.mem_of_getElem? (i := 230) (by decide +kernel)) rfl
theorem wl_L_12 : Cond.methodLink RL 12 yX4_init ∈ zw := zw_3 (List.mem_of_getElem? (i := 231) (by decide +kernel)) rfl
theorem wi_X4_init : Cond.instanceMethod yX4_init ∈ zw := zw_3 (List.mem_of_getElem? (i := 232) (by decide +kernel)) rfl
theorem wc_X4_init : Cond.code yX4_init cX4_init 2 (none : Option Jvm.ClassFile.FieldType) ∈ zw := zw_3 (List.mem_of_getElem? (i := 233) (by decide +kernel)) rfl
theorem wl_X4_3 : Cond.methodLink RX4 3 objectInit ∈ zw := zw_3 (List.mem_of_getElem? (i := 234) (by decide +kernel)) rfl
theorem wl_X4_9 : Cond.fieldLink RX4 9 "BreadGamesModel" "m" "[I" ∈ zw := zw_3 (List.mem_of_getElem? (i := 235) (by decide +kernel)) rfl
theorem wl_X4_13 : Cond.fieldLink RX4 13 "BreadGamesModel" "kept" "[I" ∈ zw := zw_3 (List.mem_of_getElem? (i := 236) (by decide +kernel)) rfl
theorem wl_X4_16 : Cond.fieldLink RX4 16 "BreadGamesModel" "was" "[I" ∈ zw := zw_3 (List.mem_of_getElem? (i := 237) (by decide +kernel)) rfl
theorem wl_X4_302 : Cond.fieldLink RX4 302 "BreadGamesModel" "isKept" "Z" ∈ zw := zw_3 (List.mem_of_getElem? (i := 238) (by decide +kernel)) rfl
theorem wl_X4_19 : Cond.fieldLink RX4 19 "BreadGamesModel" "found" "[I" ∈ zw := zw_3 (List.mem_of_getElem? (i := 239) (by decide +kernel)) rfl
theorem wl_X4_167 : Cond.fieldLink RX4 167 "BreadGamesModel" "riotsThen" "I" ∈ zw := zw_4 (List.mem_of_getElem? (i := 0) (by decide +kernel)) rfl
theorem wl_X4_171 : Cond.fieldLink RX4 171 "BreadGamesModel" "joyThen" "I" ∈ zw := zw_4 (List.mem_of_getElem? (i := 1) (by decide +kernel)) rfl
theorem wl_X4_22 : Cond.fieldLink RX4 22 "BreadGamesModel" "tape" "[I" ∈ zw := zw_4 (List.mem_of_getElem? (i := 2) (by decide +kernel)) rfl
theorem wl_X4_197 : Cond.fieldLink RX4 197 "BreadGamesModel" "taped" "I" ∈ zw := zw_4 (List.mem_of_getElem? (i := 3) (by decide +kernel)) rfl
theorem wl_X4_212 : Cond.fieldLink RX4 212 "BreadGamesModel" "sort" "I" ∈ zw := zw_4 (List.mem_of_getElem? (i := 4) (by decide +kernel)) rfl
theorem wl_X4_203 : Cond.fieldLink RX4 203 "BreadGamesModel" "from" "I" ∈ zw := zw_4 (List.mem_of_getElem? (i := 5) (by decide +kernel)) rfl
theorem wl_X4_200 : Cond.fieldLink RX4 200 "BreadGamesModel" "to" "I" ∈ zw := zw_4 (List.mem_of_getElem? (i := 6) (by decide +kernel)) rfl
theorem wl_X4_209 : Cond.fieldLink RX4 209 "BreadGamesModel" "value" "I" ∈ zw := zw_4 (List.mem_of_getElem? (i := 7) (by decide +kernel)) rfl
theorem wl_X4_215 : Cond.fieldLink RX4 215 "BreadGamesModel" "bad" "Z" ∈ zw := zw_4 (List.mem_of_getElem? (i := 8) (by decide +kernel)) rfl
theorem wl_X4_25 : Cond.fieldLink RX4 25 "BreadGamesModel" "bits" "[I" ∈ zw := zw_4 (List.mem_of_getElem? (i := 9) (by decide +kernel)) rfl
theorem wl_X4_28 : Cond.fieldLink RX4 28 "BreadGamesModel" "size" "[I" ∈ zw := zw_4 (List.mem_of_getElem? (i := 10) (by decide +kernel)) rfl
theorem wl_X4_31 : Cond.fieldLink RX4 31 "BreadGamesModel" "number" "[I" ∈ zw := zw_4 (List.mem_of_getElem? (i := 11) (by decide +kernel)) rfl
theorem wl_L_17 : Cond.methodLink RL 17 yX4_citizen ∈ zw := zw_4 (List.mem_of_getElem? (i := 47) (by decide +kernel)) rfl
theorem wi_X4_citizen : Cond.instanceMethod yX4_citizen ∈ zw := zw_4 (List.mem_of_getElem? (i := 48) (by decide +kernel)) rfl
theorem wv_X4_citizen : Cond.selects RX4 yX4_citizen yX4_citizen ∈ zw := zw_4 (List.mem_of_getElem? (i := 49) (by decide +kernel)) rfl
theorem wc_X4_citizen : Cond.code yX4_citizen cX4_citizen 2 (some .int) ∈ zw := zw_4 (List.mem_of_getElem? (i := 50) (by decide +kernel)) rfl
theorem wl_X4_54 : Cond.methodLink RX4 54 yX4_isKind ∈ zw := zw_4 (List.mem_of_getElem? (i := 51) (by decide +kernel)) rfl
theorem wt_X4_isKind : Cond.static yX4_isKind ∈ zw := zw_4 (List.mem_of_getElem? (i := 52) (by decide +kernel)) rfl
theorem wc_X4_isKind : Cond.code yX4_isKind cX4_isKind 1 (some .boolean) ∈ zw := zw_4 (List.mem_of_getElem? (i := 53) (by decide +kernel)) rfl
theorem wl_X4_44 : Cond.constantLong RX4 44 (6) ∈ zw := zw_4 (List.mem_of_getElem? (i := 54) (by decide +kernel)) rfl
theorem wl_X4_40 : Cond.methodLink RX4 40 yX4_in ∈ zw := zw_4 (List.mem_of_getElem? (i := 55) (by decide +kernel)) rfl
theorem wt_X4_in : Cond.static yX4_in ∈ zw := zw_4 (List.mem_of_getElem? (i := 56) (by decide +kernel)) rfl
theorem wc_X4_in : Cond.code yX4_in cX4_in 6 (some .boolean) ∈ zw := zw_4 (List.mem_of_getElem? (i := 57) (by decide +kernel)) rfl
theorem wl_X4_34 : Cond.constant RX4 34 (-1000001) ∈ zw := zw_4 (List.mem_of_getElem? (i := 58) (by decide +kernel)) rfl
theorem wl_X4_36 : Cond.methodLink RX4 36 yX4_finds ∈ zw := zw_4 (List.mem_of_getElem? (i := 59) (by decide +kernel)) rfl
theorem wi_X4_finds : Cond.instanceMethod yX4_finds ∈ zw := zw_4 (List.mem_of_getElem? (i := 61) (by decide +kernel)) rfl
theorem wc_X4_finds : Cond.code yX4_finds cX4_finds 2 (some .int) ∈ zw := zw_4 (List.mem_of_getElem? (i := 62) (by decide +kernel)) rfl
theorem wl_X4_58 : Cond.constant RX4 58 (-1000002) ∈ zw := zw_4 (List.mem_of_getElem? (i := 63) (by decide +kernel)) rfl
theorem wl_X4_59 : Cond.methodLink RX4 59 yX4_comes ∈ zw := zw_4 (List.mem_of_getElem? (i := 64) (by decide +kernel)) rfl
theorem wi_X4_comes : Cond.instanceMethod yX4_comes ∈ zw := zw_4 (List.mem_of_getElem? (i := 66) (by decide +kernel)) rfl
theorem wc_X4_comes : Cond.code yX4_comes cX4_comes 7 (some .int) ∈ zw := zw_4 (List.mem_of_getElem? (i := 67) (by decide +kernel)) rfl
theorem wl_X4_50 : Cond.methodLink RX4 50 yX4_makes ∈ zw := zw_4 (List.mem_of_getElem? (i := 68) (by decide +kernel)) rfl
theorem wi_X4_makes : Cond.instanceMethod yX4_makes ∈ zw := zw_4 (List.mem_of_getElem? (i := 70) (by decide +kernel)) rfl
theorem wc_X4_makes : Cond.code yX4_makes cX4_makes 4 (none : Option Jvm.ClassFile.FieldType) ∈ zw := zw_4 (List.mem_of_getElem? (i := 71) (by decide +kernel)) rfl
theorem wl_L_22 : Cond.methodLink RL 22 yX4_of ∈ zw := zw_4 (List.mem_of_getElem? (i := 72) (by decide +kernel)) rfl
theorem wi_X4_of : Cond.instanceMethod yX4_of ∈ zw := zw_4 (List.mem_of_getElem? (i := 73) (by decide +kernel)) rfl
theorem wv_X4_of : Cond.selects RX4 yX4_of yX4_of ∈ zw := zw_4 (List.mem_of_getElem? (i := 74) (by decide +kernel)) rfl
theorem wc_X4_of : Cond.code yX4_of cX4_of 3 (some .int) ∈ zw := zw_4 (List.mem_of_getElem? (i := 75) (by decide +kernel)) rfl
theorem wl_X4_67 : Cond.methodLink RX4 67 yX4_isOne ∈ zw := zw_4 (List.mem_of_getElem? (i := 76) (by decide +kernel)) rfl
theorem wi_X4_isOne : Cond.instanceMethod yX4_isOne ∈ zw := zw_4 (List.mem_of_getElem? (i := 78) (by decide +kernel)) rfl
theorem wc_X4_isOne : Cond.code yX4_isOne cX4_isOne 2 (some .boolean) ∈ zw := zw_4 (List.mem_of_getElem? (i := 79) (by decide +kernel)) rfl
theorem wl_X4_70 : Cond.constantLong RX4 70 (7) ∈ zw := zw_4 (List.mem_of_getElem? (i := 80) (by decide +kernel)) rfl
theorem wl_X4_63 : Cond.methodLink RX4 63 yX4_is ∈ zw := zw_4 (List.mem_of_getElem? (i := 81) (by decide +kernel)) rfl
theorem wi_X4_is : Cond.instanceMethod yX4_is ∈ zw := zw_4 (List.mem_of_getElem? (i := 83) (by decide +kernel)) rfl
theorem wc_X4_is : Cond.code yX4_is cX4_is 3 (some .int) ∈ zw := zw_4 (List.mem_of_getElem? (i := 84) (by decide +kernel)) rfl
theorem wl_X4_72 : Cond.methodLink RX4 72 yX4_loafWorth ∈ zw := zw_4 (List.mem_of_getElem? (i := 85) (by decide +kernel)) rfl
theorem wi_X4_loafWorth : Cond.instanceMethod yX4_loafWorth ∈ zw := zw_4 (List.mem_of_getElem? (i := 87) (by decide +kernel)) rfl
theorem wc_X4_loafWorth : Cond.code yX4_loafWorth cX4_loafWorth 4 (some .int) ∈ zw := zw_4 (List.mem_of_getElem? (i := 88) (by decide +kernel)) rfl
theorem wl_X4_75 : Cond.methodLink RX4 75 yX4_seatWorth ∈ zw := zw_4 (List.mem_of_getElem? (i := 89) (by decide +kernel)) rfl
theorem wi_X4_seatWorth : Cond.instanceMethod yX4_seatWorth ∈ zw := zw_4 (List.mem_of_getElem? (i := 91) (by decide +kernel)) rfl
theorem wc_X4_seatWorth : Cond.code yX4_seatWorth cX4_seatWorth 3 (some .int) ∈ zw := zw_4 (List.mem_of_getElem? (i := 92) (by decide +kernel)) rfl
theorem wl_L_27 : Cond.methodLink RL 27 yX4_change ∈ zw := zw_4 (List.mem_of_getElem? (i := 93) (by decide +kernel)) rfl
theorem wi_X4_change : Cond.instanceMethod yX4_change ∈ zw := zw_4 (List.mem_of_getElem? (i := 94) (by decide +kernel)) rfl
theorem wv_X4_change : Cond.selects RX4 yX4_change yX4_change ∈ zw := zw_4 (List.mem_of_getElem? (i := 95) (by decide +kernel)) rfl
theorem wc_X4_change : Cond.code yX4_change cX4_change 4 (some .int) ∈ zw := zw_4 (List.mem_of_getElem? (i := 96) (by decide +kernel)) rfl
theorem wl_X4_87 : Cond.methodLink RX4 87 yX4_isPart ∈ zw := zw_4 (List.mem_of_getElem? (i := 97) (by decide +kernel)) rfl
theorem wt_X4_isPart : Cond.static yX4_isPart ∈ zw := zw_4 (List.mem_of_getElem? (i := 98) (by decide +kernel)) rfl
theorem wc_X4_isPart : Cond.code yX4_isPart cX4_isPart 2 (some .boolean) ∈ zw := zw_4 (List.mem_of_getElem? (i := 99) (by decide +kernel)) rfl
theorem wl_X4_78 : Cond.methodLink RX4 78 yX4_isHunger ∈ zw := zw_4 (List.mem_of_getElem? (i := 100) (by decide +kernel)) rfl
theorem wt_X4_isHunger : Cond.static yX4_isHunger ∈ zw := zw_4 (List.mem_of_getElem? (i := 101) (by decide +kernel)) rfl
theorem wc_X4_isHunger : Cond.code yX4_isHunger cX4_isHunger 1 (some .boolean) ∈ zw := zw_4 (List.mem_of_getElem? (i := 102) (by decide +kernel)) rfl
theorem wl_X4_46 : Cond.constantLong RX4 46 (9) ∈ zw := zw_4 (List.mem_of_getElem? (i := 103) (by decide +kernel)) rfl
theorem wl_X4_81 : Cond.constantLong RX4 81 (3) ∈ zw := zw_4 (List.mem_of_getElem? (i := 104) (by decide +kernel)) rfl
theorem wl_X4_83 : Cond.constantLong RX4 83 (9999) ∈ zw := zw_4 (List.mem_of_getElem? (i := 105) (by decide +kernel)) rfl
theorem wl_X4_85 : Cond.constantLong RX4 85 (2) ∈ zw := zw_4 (List.mem_of_getElem? (i := 106) (by decide +kernel)) rfl
theorem wl_X4_91 : Cond.methodLink RX4 91 yX4_becomes ∈ zw := zw_4 (List.mem_of_getElem? (i := 107) (by decide +kernel)) rfl
theorem wi_X4_becomes : Cond.instanceMethod yX4_becomes ∈ zw := zw_4 (List.mem_of_getElem? (i := 109) (by decide +kernel)) rfl
theorem wc_X4_becomes : Cond.code yX4_becomes cX4_becomes 4 (some .int) ∈ zw := zw_4 (List.mem_of_getElem? (i := 110) (by decide +kernel)) rfl
theorem wl_L_31 : Cond.methodLink RL 31 yX4_rule ∈ zw := zw_4 (List.mem_of_getElem? (i := 111) (by decide +kernel)) rfl
theorem wi_X4_rule : Cond.instanceMethod yX4_rule ∈ zw := zw_4 (List.mem_of_getElem? (i := 112) (by decide +kernel)) rfl
theorem wv_X4_rule : Cond.selects RX4 yX4_rule yX4_rule ∈ zw := zw_4 (List.mem_of_getElem? (i := 113) (by decide +kernel)) rfl
theorem wc_X4_rule : Cond.code yX4_rule cX4_rule 3 (some .int) ∈ zw := zw_4 (List.mem_of_getElem? (i := 114) (by decide +kernel)) rfl
theorem wl_X4_96 : Cond.methodLink RX4 96 yX4_isRule ∈ zw := zw_4 (List.mem_of_getElem? (i := 115) (by decide +kernel)) rfl
theorem wt_X4_isRule : Cond.static yX4_isRule ∈ zw := zw_4 (List.mem_of_getElem? (i := 116) (by decide +kernel)) rfl
theorem wc_X4_isRule : Cond.code yX4_isRule cX4_isRule 2 (some .boolean) ∈ zw := zw_4 (List.mem_of_getElem? (i := 117) (by decide +kernel)) rfl
theorem wl_X4_94 : Cond.constantLong RX4 94 (10) ∈ zw := zw_4 (List.mem_of_getElem? (i := 118) (by decide +kernel)) rfl
theorem wl_L_35 : Cond.methodLink RL 35 yX4_now ∈ zw := zw_4 (List.mem_of_getElem? (i := 119) (by decide +kernel)) rfl
theorem wi_X4_now : Cond.instanceMethod yX4_now ∈ zw := zw_4 (List.mem_of_getElem? (i := 120) (by decide +kernel)) rfl
theorem wv_X4_now : Cond.selects RX4 yX4_now yX4_now ∈ zw := zw_4 (List.mem_of_getElem? (i := 121) (by decide +kernel)) rfl
theorem wc_X4_now : Cond.code yX4_now cX4_now 2 (some .int) ∈ zw := zw_4 (List.mem_of_getElem? (i := 122) (by decide +kernel)) rfl
theorem wl_X4_99 : Cond.methodLink RX4 99 yX4_with ∈ zw := zw_4 (List.mem_of_getElem? (i := 123) (by decide +kernel)) rfl
theorem wi_X4_with : Cond.instanceMethod yX4_with ∈ zw := zw_4 (List.mem_of_getElem? (i := 125) (by decide +kernel)) rfl
theorem wc_X4_with : Cond.code yX4_with cX4_with 4 (some .int) ∈ zw := zw_4 (List.mem_of_getElem? (i := 126) (by decide +kernel)) rfl
theorem wl_X4_102 : Cond.methodLink RX4 102 yX4_hungry ∈ zw := zw_4 (List.mem_of_getElem? (i := 127) (by decide +kernel)) rfl
theorem wi_X4_hungry : Cond.instanceMethod yX4_hungry ∈ zw := zw_4 (List.mem_of_getElem? (i := 129) (by decide +kernel)) rfl
theorem wc_X4_hungry : Cond.code yX4_hungry cX4_hungry 3 (some .int) ∈ zw := zw_4 (List.mem_of_getElem? (i := 130) (by decide +kernel)) rfl
theorem wl_X4_106 : Cond.methodLink RX4 106 yX4_cost ∈ zw := zw_4 (List.mem_of_getElem? (i := 131) (by decide +kernel)) rfl
theorem wi_X4_cost : Cond.instanceMethod yX4_cost ∈ zw := zw_4 (List.mem_of_getElem? (i := 133) (by decide +kernel)) rfl
theorem wc_X4_cost : Cond.code yX4_cost cX4_cost 1 (some .int) ∈ zw := zw_4 (List.mem_of_getElem? (i := 134) (by decide +kernel)) rfl
theorem wl_L_39 : Cond.methodLink RL 39 yX4_wants ∈ zw := zw_4 (List.mem_of_getElem? (i := 135) (by decide +kernel)) rfl
theorem wi_X4_wants : Cond.instanceMethod yX4_wants ∈ zw := zw_4 (List.mem_of_getElem? (i := 136) (by decide +kernel)) rfl
theorem wv_X4_wants : Cond.selects RX4 yX4_wants yX4_wants ∈ zw := zw_4 (List.mem_of_getElem? (i := 137) (by decide +kernel)) rfl
theorem wc_X4_wants : Cond.code yX4_wants cX4_wants 2 (some .int) ∈ zw := zw_4 (List.mem_of_getElem? (i := 138) (by decide +kernel)) rfl
theorem wl_X4_109 : Cond.constant RX4 109 (-1000005) ∈ zw := zw_4 (List.mem_of_getElem? (i := 139) (by decide +kernel)) rfl
theorem wl_X4_110 : Cond.methodLink RX4 110 yX4_wantsOther ∈ zw := zw_4 (List.mem_of_getElem? (i := 140) (by decide +kernel)) rfl
theorem wi_X4_wantsOther : Cond.instanceMethod yX4_wantsOther ∈ zw := zw_4 (List.mem_of_getElem? (i := 142) (by decide +kernel)) rfl
theorem wc_X4_wantsOther : Cond.code yX4_wantsOther cX4_wantsOther 3 (some .boolean) ∈ zw := zw_4 (List.mem_of_getElem? (i := 143) (by decide +kernel)) rfl
theorem wl_L_43 : Cond.methodLink RL 43 yX4_swap ∈ zw := zw_4 (List.mem_of_getElem? (i := 144) (by decide +kernel)) rfl
theorem wi_X4_swap : Cond.instanceMethod yX4_swap ∈ zw := zw_4 (List.mem_of_getElem? (i := 145) (by decide +kernel)) rfl
theorem wv_X4_swap : Cond.selects RX4 yX4_swap yX4_swap ∈ zw := zw_4 (List.mem_of_getElem? (i := 146) (by decide +kernel)) rfl
theorem wc_X4_swap : Cond.code yX4_swap cX4_swap 4 (some .int) ∈ zw := zw_4 (List.mem_of_getElem? (i := 147) (by decide +kernel)) rfl
theorem wl_X4_113 : Cond.methodLink RX4 113 yX4_changeTokens ∈ zw := zw_4 (List.mem_of_getElem? (i := 148) (by decide +kernel)) rfl
theorem wi_X4_changeTokens : Cond.instanceMethod yX4_changeTokens ∈ zw := zw_4 (List.mem_of_getElem? (i := 150) (by decide +kernel)) rfl
theorem wc_X4_changeTokens : Cond.code yX4_changeTokens cX4_changeTokens 4 (none : Option Jvm.ClassFile.FieldType) ∈ zw := zw_4 (List.mem_of_getElem? (i := 151) (by decide +kernel)) rfl
theorem wl_L_48 : Cond.methodLink RL 48 yX4_gates ∈ zw := zw_4 (List.mem_of_getElem? (i := 152) (by decide +kernel)) rfl
theorem wi_X4_gates : Cond.instanceMethod yX4_gates ∈ zw := zw_4 (List.mem_of_getElem? (i := 153) (by decide +kernel)) rfl
theorem wv_X4_gates : Cond.selects RX4 yX4_gates yX4_gates ∈ zw := zw_4 (List.mem_of_getElem? (i := 154) (by decide +kernel)) rfl
theorem wc_X4_gates : Cond.code yX4_gates cX4_gates 1 (some .int) ∈ zw := zw_4 (List.mem_of_getElem? (i := 155) (by decide +kernel)) rfl
theorem wl_X4_120 : Cond.methodLink RX4 120 yX4_opens ∈ zw := zw_4 (List.mem_of_getElem? (i := 156) (by decide +kernel)) rfl
theorem wi_X4_opens : Cond.instanceMethod yX4_opens ∈ zw := zw_4 (List.mem_of_getElem? (i := 158) (by decide +kernel)) rfl
theorem wc_X4_opens : Cond.code yX4_opens cX4_opens 4 (some .int) ∈ zw := zw_4 (List.mem_of_getElem? (i := 159) (by decide +kernel)) rfl
theorem wl_X4_117 : Cond.methodLink RX4 117 yX4_firstWanting ∈ zw := zw_4 (List.mem_of_getElem? (i := 160) (by decide +kernel)) rfl
theorem wi_X4_firstWanting : Cond.instanceMethod yX4_firstWanting ∈ zw := zw_4 (List.mem_of_getElem? (i := 162) (by decide +kernel)) rfl
theorem wc_X4_firstWanting : Cond.code yX4_firstWanting cX4_firstWanting 3 (some .int) ∈ zw := zw_4 (List.mem_of_getElem? (i := 163) (by decide +kernel)) rfl
theorem wl_L_52 : Cond.methodLink RL 52 yX4_changes ∈ zw := zw_4 (List.mem_of_getElem? (i := 164) (by decide +kernel)) rfl
theorem wi_X4_changes : Cond.instanceMethod yX4_changes ∈ zw := zw_4 (List.mem_of_getElem? (i := 165) (by decide +kernel)) rfl
theorem wv_X4_changes : Cond.selects RX4 yX4_changes yX4_changes ∈ zw := zw_4 (List.mem_of_getElem? (i := 166) (by decide +kernel)) rfl
theorem wc_X4_changes : Cond.code yX4_changes cX4_changes 2 (some .int) ∈ zw := zw_4 (List.mem_of_getElem? (i := 167) (by decide +kernel)) rfl
theorem wl_X4_123 : Cond.methodLink RX4 123 yX4_row ∈ zw := zw_4 (List.mem_of_getElem? (i := 168) (by decide +kernel)) rfl
theorem wt_X4_row : Cond.static yX4_row ∈ zw := zw_4 (List.mem_of_getElem? (i := 169) (by decide +kernel)) rfl
theorem wc_X4_row : Cond.code yX4_row cX4_row 3 (none : Option Jvm.ClassFile.FieldType) ∈ zw := zw_4 (List.mem_of_getElem? (i := 170) (by decide +kernel)) rfl
theorem wl_L_56 : Cond.methodLink RL 56 yX4_buy ∈ zw := zw_4 (List.mem_of_getElem? (i := 171) (by decide +kernel)) rfl
theorem wi_X4_buy : Cond.instanceMethod yX4_buy ∈ zw := zw_4 (List.mem_of_getElem? (i := 172) (by decide +kernel)) rfl
theorem wv_X4_buy : Cond.selects RX4 yX4_buy yX4_buy ∈ zw := zw_4 (List.mem_of_getElem? (i := 173) (by decide +kernel)) rfl
theorem wc_X4_buy : Cond.code yX4_buy cX4_buy 4 (some .int) ∈ zw := zw_4 (List.mem_of_getElem? (i := 174) (by decide +kernel)) rfl
theorem wl_X4_130 : Cond.constantLong RX4 130 (99) ∈ zw := zw_4 (List.mem_of_getElem? (i := 175) (by decide +kernel)) rfl
theorem wl_X4_132 : Cond.methodLink RX4 132 yX4_mayBuy ∈ zw := zw_4 (List.mem_of_getElem? (i := 176) (by decide +kernel)) rfl
theorem wi_X4_mayBuy : Cond.instanceMethod yX4_mayBuy ∈ zw := zw_4 (List.mem_of_getElem? (i := 178) (by decide +kernel)) rfl
theorem wc_X4_mayBuy : Cond.code yX4_mayBuy cX4_mayBuy 5 (some .boolean) ∈ zw := zw_4 (List.mem_of_getElem? (i := 179) (by decide +kernel)) rfl
theorem wl_X4_127 : Cond.methodLink RX4 127 yX4_worth ∈ zw := zw_4 (List.mem_of_getElem? (i := 180) (by decide +kernel)) rfl
theorem wi_X4_worth : Cond.instanceMethod yX4_worth ∈ zw := zw_4 (List.mem_of_getElem? (i := 182) (by decide +kernel)) rfl
theorem wc_X4_worth : Cond.code yX4_worth cX4_worth 3 (some .int) ∈ zw := zw_4 (List.mem_of_getElem? (i := 183) (by decide +kernel)) rfl
theorem wl_L_60 : Cond.methodLink RL 60 yX4_welfare ∈ zw := zw_4 (List.mem_of_getElem? (i := 184) (by decide +kernel)) rfl
theorem wi_X4_welfare : Cond.instanceMethod yX4_welfare ∈ zw := zw_4 (List.mem_of_getElem? (i := 185) (by decide +kernel)) rfl
theorem wv_X4_welfare : Cond.selects RX4 yX4_welfare yX4_welfare ∈ zw := zw_4 (List.mem_of_getElem? (i := 186) (by decide +kernel)) rfl
theorem wc_X4_welfare : Cond.code yX4_welfare cX4_welfare 3 (some .int) ∈ zw := zw_4 (List.mem_of_getElem? (i := 187) (by decide +kernel)) rfl
theorem wl_L_64 : Cond.methodLink RL 64 yX4_most ∈ zw := zw_4 (List.mem_of_getElem? (i := 188) (by decide +kernel)) rfl
theorem wi_X4_most : Cond.instanceMethod yX4_most ∈ zw := zw_4 (List.mem_of_getElem? (i := 189) (by decide +kernel)) rfl
theorem wv_X4_most : Cond.selects RX4 yX4_most yX4_most ∈ zw := zw_4 (List.mem_of_getElem? (i := 190) (by decide +kernel)) rfl
theorem wc_X4_most : Cond.code yX4_most cX4_most 7 (some .int) ∈ zw := zw_4 (List.mem_of_getElem? (i := 191) (by decide +kernel)) rfl
theorem wl_X4_136 : Cond.methodLink RX4 136 yX4_many ∈ zw := zw_4 (List.mem_of_getElem? (i := 192) (by decide +kernel)) rfl
theorem wt_X4_many : Cond.static yX4_many ∈ zw := zw_4 (List.mem_of_getElem? (i := 193) (by decide +kernel)) rfl
theorem wc_X4_many : Cond.code yX4_many cX4_many 3 (some .int) ∈ zw := zw_4 (List.mem_of_getElem? (i := 194) (by decide +kernel)) rfl
theorem wl_L_68 : Cond.methodLink RL 68 yX4_price ∈ zw := zw_4 (List.mem_of_getElem? (i := 195) (by decide +kernel)) rfl
theorem wi_X4_price : Cond.instanceMethod yX4_price ∈ zw := zw_4 (List.mem_of_getElem? (i := 196) (by decide +kernel)) rfl
theorem wv_X4_price : Cond.selects RX4 yX4_price yX4_price ∈ zw := zw_4 (List.mem_of_getElem? (i := 197) (by decide +kernel)) rfl
theorem wc_X4_price : Cond.code yX4_price cX4_price 5 (some .int) ∈ zw := zw_4 (List.mem_of_getElem? (i := 198) (by decide +kernel)) rfl
theorem wl_X4_35 : Cond.constant RX4 35 (-1000004) ∈ zw := zw_4 (List.mem_of_getElem? (i := 199) (by decide +kernel)) rfl
theorem wl_L_72 : Cond.methodLink RL 72 yX4_weeks ∈ zw := zw_4 (List.mem_of_getElem? (i := 200) (by decide +kernel)) rfl
theorem wi_X4_weeks : Cond.instanceMethod yX4_weeks ∈ zw := zw_4 (List.mem_of_getElem? (i := 201) (by decide +kernel)) rfl
theorem wv_X4_weeks : Cond.selects RX4 yX4_weeks yX4_weeks ∈ zw := zw_4 (List.mem_of_getElem? (i := 202) (by decide +kernel)) rfl
theorem wc_X4_weeks : Cond.code yX4_weeks cX4_weeks 3 (some .int) ∈ zw := zw_4 (List.mem_of_getElem? (i := 203) (by decide +kernel)) rfl
theorem wl_X4_152 : Cond.methodLink RX4 152 yX4_areWeeks ∈ zw := zw_4 (List.mem_of_getElem? (i := 204) (by decide +kernel)) rfl
theorem wt_X4_areWeeks : Cond.static yX4_areWeeks ∈ zw := zw_4 (List.mem_of_getElem? (i := 205) (by decide +kernel)) rfl
theorem wc_X4_areWeeks : Cond.code yX4_areWeeks cX4_areWeeks 1 (some .boolean) ∈ zw := zw_4 (List.mem_of_getElem? (i := 206) (by decide +kernel)) rfl
theorem wl_X4_48 : Cond.constantLong RX4 48 (60) ∈ zw := zw_4 (List.mem_of_getElem? (i := 207) (by decide +kernel)) rfl
theorem wl_X4_155 : Cond.methodLink RX4 155 yX4_isLate ∈ zw := zw_4 (List.mem_of_getElem? (i := 208) (by decide +kernel)) rfl
theorem wi_X4_isLate : Cond.instanceMethod yX4_isLate ∈ zw := zw_4 (List.mem_of_getElem? (i := 210) (by decide +kernel)) rfl
theorem wc_X4_isLate : Cond.code yX4_isLate cX4_isLate 2 (some .boolean) ∈ zw := zw_4 (List.mem_of_getElem? (i := 211) (by decide +kernel)) rfl
theorem wl_X4_158 : Cond.methodLink RX4 158 yX4_goes ∈ zw := zw_4 (List.mem_of_getElem? (i := 212) (by decide +kernel)) rfl
theorem wi_X4_goes : Cond.instanceMethod yX4_goes ∈ zw := zw_4 (List.mem_of_getElem? (i := 214) (by decide +kernel)) rfl
theorem wc_X4_goes : Cond.code yX4_goes cX4_goes 4 (some .int) ∈ zw := zw_4 (List.mem_of_getElem? (i := 215) (by decide +kernel)) rfl
theorem wl_X4_149 : Cond.methodLink RX4 149 yX4_aWeek ∈ zw := zw_4 (List.mem_of_getElem? (i := 216) (by decide +kernel)) rfl
theorem wi_X4_aWeek : Cond.instanceMethod yX4_aWeek ∈ zw := zw_4 (List.mem_of_getElem? (i := 218) (by decide +kernel)) rfl
theorem wc_X4_aWeek : Cond.code yX4_aWeek cX4_aWeek 3 (some .int) ∈ zw := zw_4 (List.mem_of_getElem? (i := 219) (by decide +kernel)) rfl
theorem wl_X4_143 : Cond.methodLink RX4 143 yX4_drawsTokens ∈ zw := zw_4 (List.mem_of_getElem? (i := 220) (by decide +kernel)) rfl
theorem wi_X4_drawsTokens : Cond.instanceMethod yX4_drawsTokens ∈ zw := zw_4 (List.mem_of_getElem? (i := 222) (by decide +kernel)) rfl
theorem wc_X4_drawsTokens : Cond.code yX4_drawsTokens cX4_drawsTokens 6 (none : Option Jvm.ClassFile.FieldType) ∈ zw := zw_4 (List.mem_of_getElem? (i := 223) (by decide +kernel)) rfl
theorem wl_X4_140 : Cond.methodLink RX4 140 yX4_draw ∈ zw := zw_4 (List.mem_of_getElem? (i := 224) (by decide +kernel)) rfl
theorem wi_X4_draw : Cond.instanceMethod yX4_draw ∈ zw := zw_4 (List.mem_of_getElem? (i := 226) (by decide +kernel)) rfl
theorem wc_X4_draw : Cond.code yX4_draw cX4_draw 1 (some .int) ∈ zw := zw_4 (List.mem_of_getElem? (i := 227) (by decide +kernel)) rfl
theorem wl_X4_139 : Cond.constant RX4 139 (1103515245) ∈ zw := zw_4 (List.mem_of_getElem? (i := 228) (by decide +kernel)) rfl
theorem wl_X4_146 : Cond.methodLink RX4 146 yX4_eatAndSee ∈ zw := zw_4 (List.mem_of_getElem? (i := 229) (by decide +kernel)) rfl
theorem wi_X4_eatAndSee : Cond.instanceMethod yX4_eatAndSee ∈ zw := zw_4 (List.mem_of_getElem? (i := 231) (by decide +kernel)) rfl
theorem wc_X4_eatAndSee : Cond.code yX4_eatAndSee cX4_eatAndSee 4 (none : Option Jvm.ClassFile.FieldType) ∈ zw := zw_4 (List.mem_of_getElem? (i := 232) (by decide +kernel)) rfl
theorem wl_L_76 : Cond.methodLink RL 76 yX4_ahead ∈ zw := zw_4 (List.mem_of_getElem? (i := 233) (by decide +kernel)) rfl
theorem wi_X4_ahead : Cond.instanceMethod yX4_ahead ∈ zw := zw_4 (List.mem_of_getElem? (i := 234) (by decide +kernel)) rfl
theorem wv_X4_ahead : Cond.selects RX4 yX4_ahead yX4_ahead ∈ zw := zw_4 (List.mem_of_getElem? (i := 235) (by decide +kernel)) rfl
theorem wc_X4_ahead : Cond.code yX4_ahead cX4_ahead 6 (some .int) ∈ zw := zw_4 (List.mem_of_getElem? (i := 236) (by decide +kernel)) rfl
theorem wl_X4_161 : Cond.methodLink RX4 161 yX4_sum ∈ zw := zw_4 (List.mem_of_getElem? (i := 237) (by decide +kernel)) rfl
theorem wi_X4_sum : Cond.instanceMethod yX4_sum ∈ zw := zw_4 (List.mem_of_getElem? (i := 239) (by decide +kernel)) rfl
theorem wc_X4_sum : Cond.code yX4_sum cX4_sum 4 (some .int) ∈ zw := zw_5 (List.mem_of_getElem? (i := 0) (by decide +kernel)) rfl
theorem wl_L_80 : Cond.methodLink RL 80 yX4_riot ∈ zw := zw_5 (List.mem_of_getElem? (i := 1) (by decide +kernel)) rfl
theorem wi_X4_riot : Cond.instanceMethod yX4_riot ∈ zw := zw_5 (List.mem_of_getElem? (i := 2) (by decide +kernel)) rfl
theorem wv_X4_riot : Cond.selects RX4 yX4_riot yX4_riot ∈ zw := zw_5 (List.mem_of_getElem? (i := 3) (by decide +kernel)) rfl
theorem wc_X4_riot : Cond.code yX4_riot cX4_riot 3 (some .int) ∈ zw := zw_5 (List.mem_of_getElem? (i := 4) (by decide +kernel)) rfl
theorem wl_X4_164 : Cond.methodLink RX4 164 yX4_orNone ∈ zw := zw_5 (List.mem_of_getElem? (i := 5) (by decide +kernel)) rfl
theorem wi_X4_orNone : Cond.instanceMethod yX4_orNone ∈ zw := zw_5 (List.mem_of_getElem? (i := 7) (by decide +kernel)) rfl
theorem wc_X4_orNone : Cond.code yX4_orNone cX4_orNone 2 (some .int) ∈ zw := zw_5 (List.mem_of_getElem? (i := 8) (by decide +kernel)) rfl
theorem wl_L_84 : Cond.methodLink RL 84 yX4_next ∈ zw := zw_5 (List.mem_of_getElem? (i := 9) (by decide +kernel)) rfl
theorem wi_X4_next : Cond.instanceMethod yX4_next ∈ zw := zw_5 (List.mem_of_getElem? (i := 10) (by decide +kernel)) rfl
theorem wv_X4_next : Cond.selects RX4 yX4_next yX4_next ∈ zw := zw_5 (List.mem_of_getElem? (i := 11) (by decide +kernel)) rfl
theorem wc_X4_next : Cond.code yX4_next cX4_next 3 (some .int) ∈ zw := zw_5 (List.mem_of_getElem? (i := 12) (by decide +kernel)) rfl
theorem wl_L_88 : Cond.methodLink RL 88 yX4_loaves ∈ zw := zw_5 (List.mem_of_getElem? (i := 13) (by decide +kernel)) rfl
theorem wi_X4_loaves : Cond.instanceMethod yX4_loaves ∈ zw := zw_5 (List.mem_of_getElem? (i := 14) (by decide +kernel)) rfl
theorem wv_X4_loaves : Cond.selects RX4 yX4_loaves yX4_loaves ∈ zw := zw_5 (List.mem_of_getElem? (i := 15) (by decide +kernel)) rfl
theorem wc_X4_loaves : Cond.code yX4_loaves cX4_loaves 3 (some .int) ∈ zw := zw_5 (List.mem_of_getElem? (i := 16) (by decide +kernel)) rfl
theorem wl_X4_174 : Cond.methodLink RX4 174 yX4_tries ∈ zw := zw_5 (List.mem_of_getElem? (i := 17) (by decide +kernel)) rfl
theorem wi_X4_tries : Cond.instanceMethod yX4_tries ∈ zw := zw_5 (List.mem_of_getElem? (i := 19) (by decide +kernel)) rfl
theorem wc_X4_tries : Cond.code yX4_tries cX4_tries 6 (some .int) ∈ zw := zw_5 (List.mem_of_getElem? (i := 20) (by decide +kernel)) rfl
theorem wl_L_92 : Cond.methodLink RL 92 yX4_cheapest ∈ zw := zw_5 (List.mem_of_getElem? (i := 21) (by decide +kernel)) rfl
theorem wi_X4_cheapest : Cond.instanceMethod yX4_cheapest ∈ zw := zw_5 (List.mem_of_getElem? (i := 22) (by decide +kernel)) rfl
theorem wv_X4_cheapest : Cond.selects RX4 yX4_cheapest yX4_cheapest ∈ zw := zw_5 (List.mem_of_getElem? (i := 23) (by decide +kernel)) rfl
theorem wc_X4_cheapest : Cond.code yX4_cheapest cX4_cheapest 7 (some .int) ∈ zw := zw_5 (List.mem_of_getElem? (i := 24) (by decide +kernel)) rfl
theorem wl_L_96 : Cond.methodLink RL 96 yX4_leader ∈ zw := zw_5 (List.mem_of_getElem? (i := 25) (by decide +kernel)) rfl
theorem wi_X4_leader : Cond.instanceMethod yX4_leader ∈ zw := zw_5 (List.mem_of_getElem? (i := 26) (by decide +kernel)) rfl
theorem wv_X4_leader : Cond.selects RX4 yX4_leader yX4_leader ∈ zw := zw_5 (List.mem_of_getElem? (i := 27) (by decide +kernel)) rfl
theorem wc_X4_leader : Cond.code yX4_leader cX4_leader 5 (some .int) ∈ zw := zw_5 (List.mem_of_getElem? (i := 28) (by decide +kernel)) rfl
theorem wl_L_100 : Cond.methodLink RL 100 yX4_colourFor ∈ zw := zw_5 (List.mem_of_getElem? (i := 29) (by decide +kernel)) rfl
theorem wi_X4_colourFor : Cond.instanceMethod yX4_colourFor ∈ zw := zw_5 (List.mem_of_getElem? (i := 30) (by decide +kernel)) rfl
theorem wv_X4_colourFor : Cond.selects RX4 yX4_colourFor yX4_colourFor ∈ zw := zw_5 (List.mem_of_getElem? (i := 31) (by decide +kernel)) rfl
theorem wc_X4_colourFor : Cond.code yX4_colourFor cX4_colourFor 5 (some .int) ∈ zw := zw_5 (List.mem_of_getElem? (i := 32) (by decide +kernel)) rfl
theorem wl_X4_178 : Cond.methodLink RX4 178 yX4_ofThen ∈ zw := zw_5 (List.mem_of_getElem? (i := 33) (by decide +kernel)) rfl
theorem wi_X4_ofThen : Cond.instanceMethod yX4_ofThen ∈ zw := zw_5 (List.mem_of_getElem? (i := 35) (by decide +kernel)) rfl
theorem wc_X4_ofThen : Cond.code yX4_ofThen cX4_ofThen 7 (some .int) ∈ zw := zw_5 (List.mem_of_getElem? (i := 36) (by decide +kernel)) rfl
theorem wl_L_104 : Cond.methodLink RL 104 yX4_kindFor ∈ zw := zw_5 (List.mem_of_getElem? (i := 37) (by decide +kernel)) rfl
theorem wi_X4_kindFor : Cond.instanceMethod yX4_kindFor ∈ zw := zw_5 (List.mem_of_getElem? (i := 38) (by decide +kernel)) rfl
theorem wv_X4_kindFor : Cond.selects RX4 yX4_kindFor yX4_kindFor ∈ zw := zw_5 (List.mem_of_getElem? (i := 39) (by decide +kernel)) rfl
theorem wc_X4_kindFor : Cond.code yX4_kindFor cX4_kindFor 5 (some .int) ∈ zw := zw_5 (List.mem_of_getElem? (i := 40) (by decide +kernel)) rfl
theorem wl_L_108 : Cond.methodLink RL 108 yX4_stale ∈ zw := zw_5 (List.mem_of_getElem? (i := 41) (by decide +kernel)) rfl
theorem wi_X4_stale : Cond.instanceMethod yX4_stale ∈ zw := zw_5 (List.mem_of_getElem? (i := 42) (by decide +kernel)) rfl
theorem wv_X4_stale : Cond.selects RX4 yX4_stale yX4_stale ∈ zw := zw_5 (List.mem_of_getElem? (i := 43) (by decide +kernel)) rfl
theorem wc_X4_stale : Cond.code yX4_stale cX4_stale 3 (some .int) ∈ zw := zw_5 (List.mem_of_getElem? (i := 44) (by decide +kernel)) rfl
theorem wl_L_112 : Cond.methodLink RL 112 yX4_bound ∈ zw := zw_5 (List.mem_of_getElem? (i := 45) (by decide +kernel)) rfl
theorem wi_X4_bound : Cond.instanceMethod yX4_bound ∈ zw := zw_5 (List.mem_of_getElem? (i := 46) (by decide +kernel)) rfl
theorem wv_X4_bound : Cond.selects RX4 yX4_bound yX4_bound ∈ zw := zw_5 (List.mem_of_getElem? (i := 47) (by decide +kernel)) rfl
theorem wc_X4_bound : Cond.code yX4_bound cX4_bound 3 (some .int) ∈ zw := zw_5 (List.mem_of_getElem? (i := 48) (by decide +kernel)) rfl
theorem wl_L_116 : Cond.methodLink RL 116 yX4_law ∈ zw := zw_5 (List.mem_of_getElem? (i := 49) (by decide +kernel)) rfl
theorem wi_X4_law : Cond.instanceMethod yX4_law ∈ zw := zw_5 (List.mem_of_getElem? (i := 50) (by decide +kernel)) rfl
theorem wv_X4_law : Cond.selects RX4 yX4_law yX4_law ∈ zw := zw_5 (List.mem_of_getElem? (i := 51) (by decide +kernel)) rfl
theorem wc_X4_law : Cond.code yX4_law cX4_law 5 (some .int) ∈ zw := zw_5 (List.mem_of_getElem? (i := 52) (by decide +kernel)) rfl
theorem wl_L_121 : Cond.methodLink RL 121 yX4_ways ∈ zw := zw_5 (List.mem_of_getElem? (i := 53) (by decide +kernel)) rfl
theorem wi_X4_ways : Cond.instanceMethod yX4_ways ∈ zw := zw_5 (List.mem_of_getElem? (i := 54) (by decide +kernel)) rfl
theorem wv_X4_ways : Cond.selects RX4 yX4_ways yX4_ways ∈ zw := zw_5 (List.mem_of_getElem? (i := 55) (by decide +kernel)) rfl
theorem wc_X4_ways : Cond.code yX4_ways cX4_ways 4 (some .long) ∈ zw := zw_5 (List.mem_of_getElem? (i := 56) (by decide +kernel)) rfl
theorem wl_X4_181 : Cond.methodLink RX4 181 yX4_drawing ∈ zw := zw_5 (List.mem_of_getElem? (i := 57) (by decide +kernel)) rfl
theorem wi_X4_drawing : Cond.instanceMethod yX4_drawing ∈ zw := zw_5 (List.mem_of_getElem? (i := 59) (by decide +kernel)) rfl
theorem wc_X4_drawing : Cond.code yX4_drawing cX4_drawing 2 (some .int) ∈ zw := zw_5 (List.mem_of_getElem? (i := 60) (by decide +kernel)) rfl
theorem wl_X4_184 : Cond.methodLink RX4 184 yX4_isWay ∈ zw := zw_5 (List.mem_of_getElem? (i := 61) (by decide +kernel)) rfl
theorem wi_X4_isWay : Cond.instanceMethod yX4_isWay ∈ zw := zw_5 (List.mem_of_getElem? (i := 63) (by decide +kernel)) rfl
theorem wc_X4_isWay : Cond.code yX4_isWay cX4_isWay 3 (some .boolean) ∈ zw := zw_5 (List.mem_of_getElem? (i := 64) (by decide +kernel)) rfl
theorem wl_L_126 : Cond.methodLink RL 126 yX4_eats ∈ zw := zw_5 (List.mem_of_getElem? (i := 65) (by decide +kernel)) rfl
theorem wi_X4_eats : Cond.instanceMethod yX4_eats ∈ zw := zw_5 (List.mem_of_getElem? (i := 66) (by decide +kernel)) rfl
theorem wv_X4_eats : Cond.selects RX4 yX4_eats yX4_eats ∈ zw := zw_5 (List.mem_of_getElem? (i := 67) (by decide +kernel)) rfl
theorem wc_X4_eats : Cond.code yX4_eats cX4_eats 5 (some .long) ∈ zw := zw_5 (List.mem_of_getElem? (i := 68) (by decide +kernel)) rfl
theorem wl_X4_187 : Cond.methodLink RX4 187 yX4_lies ∈ zw := zw_5 (List.mem_of_getElem? (i := 69) (by decide +kernel)) rfl
theorem wi_X4_lies : Cond.instanceMethod yX4_lies ∈ zw := zw_5 (List.mem_of_getElem? (i := 71) (by decide +kernel)) rfl
theorem wc_X4_lies : Cond.code yX4_lies cX4_lies 3 (none : Option Jvm.ClassFile.FieldType) ∈ zw := zw_5 (List.mem_of_getElem? (i := 72) (by decide +kernel)) rfl
theorem wl_L_130 : Cond.methodLink RL 130 yX4_busy ∈ zw := zw_5 (List.mem_of_getElem? (i := 73) (by decide +kernel)) rfl
theorem wi_X4_busy : Cond.instanceMethod yX4_busy ∈ zw := zw_5 (List.mem_of_getElem? (i := 74) (by decide +kernel)) rfl
theorem wv_X4_busy : Cond.selects RX4 yX4_busy yX4_busy ∈ zw := zw_5 (List.mem_of_getElem? (i := 75) (by decide +kernel)) rfl
theorem wc_X4_busy : Cond.code yX4_busy cX4_busy 5 (some .long) ∈ zw := zw_5 (List.mem_of_getElem? (i := 76) (by decide +kernel)) rfl
theorem wl_X4_191 : Cond.constantLong RX4 191 (30) ∈ zw := zw_5 (List.mem_of_getElem? (i := 77) (by decide +kernel)) rfl
theorem wl_L_134 : Cond.methodLink RL 134 yX4_famine ∈ zw := zw_5 (List.mem_of_getElem? (i := 78) (by decide +kernel)) rfl
theorem wi_X4_famine : Cond.instanceMethod yX4_famine ∈ zw := zw_5 (List.mem_of_getElem? (i := 79) (by decide +kernel)) rfl
theorem wv_X4_famine : Cond.selects RX4 yX4_famine yX4_famine ∈ zw := zw_5 (List.mem_of_getElem? (i := 80) (by decide +kernel)) rfl
theorem wc_X4_famine : Cond.code yX4_famine cX4_famine 4 (some .int) ∈ zw := zw_5 (List.mem_of_getElem? (i := 81) (by decide +kernel)) rfl
theorem wl_X4_193 : Cond.constantLong RX4 193 (12) ∈ zw := zw_5 (List.mem_of_getElem? (i := 82) (by decide +kernel)) rfl
theorem wl_L_138 : Cond.methodLink RL 138 yX4_seed ∈ zw := zw_5 (List.mem_of_getElem? (i := 83) (by decide +kernel)) rfl
theorem wi_X4_seed : Cond.instanceMethod yX4_seed ∈ zw := zw_5 (List.mem_of_getElem? (i := 84) (by decide +kernel)) rfl
theorem wv_X4_seed : Cond.selects RX4 yX4_seed yX4_seed ∈ zw := zw_5 (List.mem_of_getElem? (i := 85) (by decide +kernel)) rfl
theorem wc_X4_seed : Cond.code yX4_seed cX4_seed 2 (some .int) ∈ zw := zw_5 (List.mem_of_getElem? (i := 86) (by decide +kernel)) rfl
theorem wl_L_142 : Cond.methodLink RL 142 yX4_feed ∈ zw := zw_5 (List.mem_of_getElem? (i := 87) (by decide +kernel)) rfl
theorem wi_X4_feed : Cond.instanceMethod yX4_feed ∈ zw := zw_5 (List.mem_of_getElem? (i := 88) (by decide +kernel)) rfl
theorem wv_X4_feed : Cond.selects RX4 yX4_feed yX4_feed ∈ zw := zw_5 (List.mem_of_getElem? (i := 89) (by decide +kernel)) rfl
theorem wc_X4_feed : Cond.code yX4_feed cX4_feed 4 (some .int) ∈ zw := zw_5 (List.mem_of_getElem? (i := 90) (by decide +kernel)) rfl
theorem wl_X4_195 : Cond.constantLong RX4 195 (4) ∈ zw := zw_5 (List.mem_of_getElem? (i := 91) (by decide +kernel)) rfl
theorem wl_L_146 : Cond.methodLink RL 146 yX4_wipe ∈ zw := zw_5 (List.mem_of_getElem? (i := 92) (by decide +kernel)) rfl
theorem wi_X4_wipe : Cond.instanceMethod yX4_wipe ∈ zw := zw_5 (List.mem_of_getElem? (i := 93) (by decide +kernel)) rfl
theorem wv_X4_wipe : Cond.selects RX4 yX4_wipe yX4_wipe ∈ zw := zw_5 (List.mem_of_getElem? (i := 94) (by decide +kernel)) rfl
theorem wc_X4_wipe : Cond.code yX4_wipe cX4_wipe 2 (some .int) ∈ zw := zw_5 (List.mem_of_getElem? (i := 95) (by decide +kernel)) rfl
theorem wl_L_150 : Cond.methodLink RL 150 yX4_text ∈ zw := zw_5 (List.mem_of_getElem? (i := 96) (by decide +kernel)) rfl
theorem wi_X4_text : Cond.instanceMethod yX4_text ∈ zw := zw_5 (List.mem_of_getElem? (i := 97) (by decide +kernel)) rfl
theorem wv_X4_text : Cond.selects RX4 yX4_text yX4_text ∈ zw := zw_5 (List.mem_of_getElem? (i := 98) (by decide +kernel)) rfl
theorem wc_X4_text : Cond.code yX4_text cX4_text 4 (some .int) ∈ zw := zw_5 (List.mem_of_getElem? (i := 99) (by decide +kernel)) rfl
theorem wl_X4_232 : Cond.methodLink RX4 232 yX4_token ∈ zw := zw_5 (List.mem_of_getElem? (i := 100) (by decide +kernel)) rfl
theorem wi_X4_token : Cond.instanceMethod yX4_token ∈ zw := zw_5 (List.mem_of_getElem? (i := 102) (by decide +kernel)) rfl
theorem wc_X4_token : Cond.code yX4_token cX4_token 1 (none : Option Jvm.ClassFile.FieldType) ∈ zw := zw_5 (List.mem_of_getElem? (i := 103) (by decide +kernel)) rfl
theorem wl_X4_206 : Cond.methodLink RX4 206 yX4_isByte ∈ zw := zw_5 (List.mem_of_getElem? (i := 104) (by decide +kernel)) rfl
theorem wi_X4_isByte : Cond.instanceMethod yX4_isByte ∈ zw := zw_5 (List.mem_of_getElem? (i := 106) (by decide +kernel)) rfl
theorem wc_X4_isByte : Cond.code yX4_isByte cX4_isByte 4 (some .boolean) ∈ zw := zw_5 (List.mem_of_getElem? (i := 107) (by decide +kernel)) rfl
theorem wl_X4_287 : Cond.methodLink RX4 287 yX4_item ∈ zw := zw_5 (List.mem_of_getElem? (i := 108) (by decide +kernel)) rfl
theorem wi_X4_item : Cond.instanceMethod yX4_item ∈ zw := zw_5 (List.mem_of_getElem? (i := 110) (by decide +kernel)) rfl
theorem wc_X4_item : Cond.code yX4_item cX4_item 2 (none : Option Jvm.ClassFile.FieldType) ∈ zw := zw_5 (List.mem_of_getElem? (i := 111) (by decide +kernel)) rfl
theorem wl_X4_271 : Cond.methodLink RX4 271 yX4_kindHere ∈ zw := zw_5 (List.mem_of_getElem? (i := 112) (by decide +kernel)) rfl
theorem wi_X4_kindHere : Cond.instanceMethod yX4_kindHere ∈ zw := zw_5 (List.mem_of_getElem? (i := 114) (by decide +kernel)) rfl
theorem wc_X4_kindHere : Cond.code yX4_kindHere cX4_kindHere 1 (some .int) ∈ zw := zw_5 (List.mem_of_getElem? (i := 115) (by decide +kernel)) rfl
theorem wl_X4_228 : Cond.methodLink RX4 228 yX4_isWord ∈ zw := zw_5 (List.mem_of_getElem? (i := 117) (by decide +kernel)) rfl
theorem wi_X4_isWord : Cond.instanceMethod yX4_isWord ∈ zw := zw_5 (List.mem_of_getElem? (i := 119) (by decide +kernel)) rfl
theorem wc_X4_isWord : Cond.code yX4_isWord cX4_isWord 4 (some .boolean) ∈ zw := zw_5 (List.mem_of_getElem? (i := 120) (by decide +kernel)) rfl
theorem wl_X4_219 : Cond.methodLink RX4 219 yJ0_length_8abf5 ∈ zw := zw_5 (List.mem_of_getElem? (i := 121) (by decide +kernel)) rfl
theorem wl_X4_224 : Cond.methodLink RX4 224 yJ0_charAt_5068e ∈ zw := zw_5 (List.mem_of_getElem? (i := 122) (by decide +kernel)) rfl
theorem wl_X4_274 : Cond.methodLink RX4 274 yX4_citizenItem ∈ zw := zw_5 (List.mem_of_getElem? (i := 129) (by decide +kernel)) rfl
theorem wi_X4_citizenItem : Cond.instanceMethod yX4_citizenItem ∈ zw := zw_5 (List.mem_of_getElem? (i := 131) (by decide +kernel)) rfl
theorem wc_X4_citizenItem : Cond.code yX4_citizenItem cX4_citizenItem 6 (none : Option Jvm.ClassFile.FieldType) ∈ zw := zw_5 (List.mem_of_getElem? (i := 132) (by decide +kernel)) rfl
theorem wl_X4_250 : Cond.methodLink RX4 250 yX4_takes ∈ zw := zw_5 (List.mem_of_getElem? (i := 134) (by decide +kernel)) rfl
theorem wi_X4_takes : Cond.instanceMethod yX4_takes ∈ zw := zw_5 (List.mem_of_getElem? (i := 136) (by decide +kernel)) rfl
theorem wc_X4_takes : Cond.code yX4_takes cX4_takes 2 (some .boolean) ∈ zw := zw_5 (List.mem_of_getElem? (i := 137) (by decide +kernel)) rfl
theorem wl_X4_253 : Cond.methodLink RX4 253 yX4_number ∈ zw := zw_5 (List.mem_of_getElem? (i := 138) (by decide +kernel)) rfl
theorem wi_X4_number : Cond.instanceMethod yX4_number ∈ zw := zw_5 (List.mem_of_getElem? (i := 140) (by decide +kernel)) rfl
theorem wc_X4_number : Cond.code yX4_number cX4_number 4 (some .int) ∈ zw := zw_5 (List.mem_of_getElem? (i := 141) (by decide +kernel)) rfl
theorem wl_X4_281 : Cond.methodLink RX4 281 yX4_ruleHere ∈ zw := zw_5 (List.mem_of_getElem? (i := 148) (by decide +kernel)) rfl
theorem wi_X4_ruleHere : Cond.instanceMethod yX4_ruleHere ∈ zw := zw_5 (List.mem_of_getElem? (i := 150) (by decide +kernel)) rfl
theorem wc_X4_ruleHere : Cond.code yX4_ruleHere cX4_ruleHere 1 (some .int) ∈ zw := zw_5 (List.mem_of_getElem? (i := 151) (by decide +kernel)) rfl
theorem wl_X4_284 : Cond.methodLink RX4 284 yX4_ruleItem ∈ zw := zw_5 (List.mem_of_getElem? (i := 156) (by decide +kernel)) rfl
theorem wi_X4_ruleItem : Cond.instanceMethod yX4_ruleItem ∈ zw := zw_5 (List.mem_of_getElem? (i := 158) (by decide +kernel)) rfl
theorem wc_X4_ruleItem : Cond.code yX4_ruleItem cX4_ruleItem 3 (none : Option Jvm.ClassFile.FieldType) ∈ zw := zw_5 (List.mem_of_getElem? (i := 159) (by decide +kernel)) rfl
theorem wl_X4_290 : Cond.methodLink RX4 290 yX4_isSign ∈ zw := zw_5 (List.mem_of_getElem? (i := 160) (by decide +kernel)) rfl
theorem wi_X4_isSign : Cond.instanceMethod yX4_isSign ∈ zw := zw_5 (List.mem_of_getElem? (i := 162) (by decide +kernel)) rfl
theorem wc_X4_isSign : Cond.code yX4_isSign cX4_isSign 2 (some .boolean) ∈ zw := zw_5 (List.mem_of_getElem? (i := 163) (by decide +kernel)) rfl
theorem wl_L_154 : Cond.methodLink RL 154 yX4_hold ∈ zw := zw_5 (List.mem_of_getElem? (i := 164) (by decide +kernel)) rfl
theorem wi_X4_hold : Cond.instanceMethod yX4_hold ∈ zw := zw_5 (List.mem_of_getElem? (i := 165) (by decide +kernel)) rfl
theorem wv_X4_hold : Cond.selects RX4 yX4_hold yX4_hold ∈ zw := zw_5 (List.mem_of_getElem? (i := 166) (by decide +kernel)) rfl
theorem wc_X4_hold : Cond.code yX4_hold cX4_hold 3 (some .int) ∈ zw := zw_5 (List.mem_of_getElem? (i := 167) (by decide +kernel)) rfl
theorem wl_L_158 : Cond.methodLink RL 158 yX4_as ∈ zw := zw_5 (List.mem_of_getElem? (i := 168) (by decide +kernel)) rfl
theorem wi_X4_as : Cond.instanceMethod yX4_as ∈ zw := zw_5 (List.mem_of_getElem? (i := 169) (by decide +kernel)) rfl
theorem wv_X4_as : Cond.selects RX4 yX4_as yX4_as ∈ zw := zw_5 (List.mem_of_getElem? (i := 170) (by decide +kernel)) rfl
theorem wc_X4_as : Cond.code yX4_as cX4_as 5 (some .int) ∈ zw := zw_5 (List.mem_of_getElem? (i := 171) (by decide +kernel)) rfl
theorem wl_X4_293 : Cond.constant RX4 293 (-1000006) ∈ zw := zw_5 (List.mem_of_getElem? (i := 172) (by decide +kernel)) rfl
theorem wl_X4_294 : Cond.methodLink RX4 294 yX4_above ∈ zw := zw_5 (List.mem_of_getElem? (i := 173) (by decide +kernel)) rfl
theorem wt_X4_above : Cond.static yX4_above ∈ zw := zw_5 (List.mem_of_getElem? (i := 174) (by decide +kernel)) rfl
theorem wc_X4_above : Cond.code yX4_above cX4_above 1 (some .int) ∈ zw := zw_5 (List.mem_of_getElem? (i := 175) (by decide +kernel)) rfl
theorem wl_X4_297 : Cond.constant RX4 297 (-1000003) ∈ zw := zw_5 (List.mem_of_getElem? (i := 176) (by decide +kernel)) rfl
theorem wl_L_162 : Cond.methodLink RL 162 yX4_sheet ∈ zw := zw_5 (List.mem_of_getElem? (i := 177) (by decide +kernel)) rfl
theorem wi_X4_sheet : Cond.instanceMethod yX4_sheet ∈ zw := zw_5 (List.mem_of_getElem? (i := 178) (by decide +kernel)) rfl
theorem wv_X4_sheet : Cond.selects RX4 yX4_sheet yX4_sheet ∈ zw := zw_5 (List.mem_of_getElem? (i := 179) (by decide +kernel)) rfl
theorem wc_X4_sheet : Cond.code yX4_sheet cX4_sheet 5 (some .int) ∈ zw := zw_5 (List.mem_of_getElem? (i := 180) (by decide +kernel)) rfl
theorem wl_X4_298 : Cond.methodLink RX4 298 yX4_isSheet ∈ zw := zw_5 (List.mem_of_getElem? (i := 181) (by decide +kernel)) rfl
theorem wt_X4_isSheet : Cond.static yX4_isSheet ∈ zw := zw_5 (List.mem_of_getElem? (i := 182) (by decide +kernel)) rfl
theorem wc_X4_isSheet : Cond.code yX4_isSheet cX4_isSheet 1 (some .boolean) ∈ zw := zw_5 (List.mem_of_getElem? (i := 183) (by decide +kernel)) rfl
theorem wl_X4_301 : Cond.constant RX4 301 (-1000007) ∈ zw := zw_5 (List.mem_of_getElem? (i := 184) (by decide +kernel)) rfl
theorem wl_L_166 : Cond.methodLink RL 166 yX4_write ∈ zw := zw_5 (List.mem_of_getElem? (i := 185) (by decide +kernel)) rfl
theorem wi_X4_write : Cond.instanceMethod yX4_write ∈ zw := zw_5 (List.mem_of_getElem? (i := 186) (by decide +kernel)) rfl
theorem wv_X4_write : Cond.selects RX4 yX4_write yX4_write ∈ zw := zw_5 (List.mem_of_getElem? (i := 187) (by decide +kernel)) rfl
theorem wc_X4_write : Cond.code yX4_write cX4_write 4 (some .int) ∈ zw := zw_5 (List.mem_of_getElem? (i := 188) (by decide +kernel)) rfl
theorem wl_L_171 : Cond.methodLink RL 171 yX4_copy ∈ zw := zw_5 (List.mem_of_getElem? (i := 189) (by decide +kernel)) rfl
theorem wi_X4_copy : Cond.instanceMethod yX4_copy ∈ zw := zw_5 (List.mem_of_getElem? (i := 190) (by decide +kernel)) rfl
theorem wv_X4_copy : Cond.selects RX4 yX4_copy yX4_copy ∈ zw := zw_5 (List.mem_of_getElem? (i := 191) (by decide +kernel)) rfl
theorem wc_X4_copy : Cond.code yX4_copy cX4_copy 9 (some .int) ∈ zw := zw_5 (List.mem_of_getElem? (i := 192) (by decide +kernel)) rfl
theorem wl_L_175 : Cond.methodLink RL 175 yX4_load ∈ zw := zw_5 (List.mem_of_getElem? (i := 193) (by decide +kernel)) rfl
theorem wi_X4_load : Cond.instanceMethod yX4_load ∈ zw := zw_5 (List.mem_of_getElem? (i := 194) (by decide +kernel)) rfl
theorem wv_X4_load : Cond.selects RX4 yX4_load yX4_load ∈ zw := zw_5 (List.mem_of_getElem? (i := 195) (by decide +kernel)) rfl
theorem wc_X4_load : Cond.code yX4_load cX4_load 3 (some .int) ∈ zw := zw_5 (List.mem_of_getElem? (i := 196) (by decide +kernel)) rfl
theorem wl_L_179 : Cond.methodLink RL 179 yX4_tally ∈ zw := zw_5 (List.mem_of_getElem? (i := 197) (by decide +kernel)) rfl
theorem wi_X4_tally : Cond.instanceMethod yX4_tally ∈ zw := zw_5 (List.mem_of_getElem? (i := 198) (by decide +kernel)) rfl
theorem wv_X4_tally : Cond.selects RX4 yX4_tally yX4_tally ∈ zw := zw_5 (List.mem_of_getElem? (i := 199) (by decide +kernel)) rfl
theorem wc_X4_tally : Cond.code yX4_tally cX4_tally 7 (some .long) ∈ zw := zw_5 (List.mem_of_getElem? (i := 200) (by decide +kernel)) rfl
theorem wl_L_183 : Cond.methodLink RL 183 yX4_judge ∈ zw := zw_5 (List.mem_of_getElem? (i := 201) (by decide +kernel)) rfl
theorem wi_X4_judge : Cond.instanceMethod yX4_judge ∈ zw := zw_5 (List.mem_of_getElem? (i := 202) (by decide +kernel)) rfl
theorem wv_X4_judge : Cond.selects RX4 yX4_judge yX4_judge ∈ zw := zw_5 (List.mem_of_getElem? (i := 203) (by decide +kernel)) rfl
theorem wc_X4_judge : Cond.code yX4_judge cX4_judge 4 (some .int) ∈ zw := zw_5 (List.mem_of_getElem? (i := 204) (by decide +kernel)) rfl
theorem wl_L_187 : Cond.methodLink RL 187 yX4_image ∈ zw := zw_5 (List.mem_of_getElem? (i := 205) (by decide +kernel)) rfl
theorem wi_X4_image : Cond.instanceMethod yX4_image ∈ zw := zw_5 (List.mem_of_getElem? (i := 206) (by decide +kernel)) rfl
theorem wv_X4_image : Cond.selects RX4 yX4_image yX4_image ∈ zw := zw_5 (List.mem_of_getElem? (i := 207) (by decide +kernel)) rfl
theorem wc_X4_image : Cond.code yX4_image cX4_image 1 (some .int) ∈ zw := zw_5 (List.mem_of_getElem? (i := 208) (by decide +kernel)) rfl
theorem wl_L_191 : Cond.methodLink RL 191 yX4_undo ∈ zw := zw_5 (List.mem_of_getElem? (i := 209) (by decide +kernel)) rfl
theorem wi_X4_undo : Cond.instanceMethod yX4_undo ∈ zw := zw_5 (List.mem_of_getElem? (i := 210) (by decide +kernel)) rfl
theorem wv_X4_undo : Cond.selects RX4 yX4_undo yX4_undo ∈ zw := zw_5 (List.mem_of_getElem? (i := 211) (by decide +kernel)) rfl
theorem wc_X4_undo : Cond.code yX4_undo cX4_undo 1 (some .int) ∈ zw := zw_5 (List.mem_of_getElem? (i := 212) (by decide +kernel)) rfl
theorem wl_L_195 : Cond.methodLink RL 195 yX4_tear ∈ zw := zw_5 (List.mem_of_getElem? (i := 213) (by decide +kernel)) rfl
theorem wi_X4_tear : Cond.instanceMethod yX4_tear ∈ zw := zw_5 (List.mem_of_getElem? (i := 214) (by decide +kernel)) rfl
theorem wv_X4_tear : Cond.selects RX4 yX4_tear yX4_tear ∈ zw := zw_5 (List.mem_of_getElem? (i := 215) (by decide +kernel)) rfl
theorem wc_X4_tear : Cond.code yX4_tear cX4_tear 2 (some .int) ∈ zw := zw_5 (List.mem_of_getElem? (i := 216) (by decide +kernel)) rfl
theorem wl_L_199 : Cond.methodLink RL 199 yX4_count ∈ zw := zw_5 (List.mem_of_getElem? (i := 217) (by decide +kernel)) rfl
theorem wi_X4_count : Cond.instanceMethod yX4_count ∈ zw := zw_5 (List.mem_of_getElem? (i := 218) (by decide +kernel)) rfl
theorem wv_X4_count : Cond.selects RX4 yX4_count yX4_count ∈ zw := zw_5 (List.mem_of_getElem? (i := 219) (by decide +kernel)) rfl
theorem wc_X4_count : Cond.code yX4_count cX4_count 2 (some .int) ∈ zw := zw_5 (List.mem_of_getElem? (i := 220) (by decide +kernel)) rfl
theorem wl_X4_305 : Cond.methodLink RX4 305 yX4_holding ∈ zw := zw_5 (List.mem_of_getElem? (i := 221) (by decide +kernel)) rfl
theorem wi_X4_holding : Cond.instanceMethod yX4_holding ∈ zw := zw_5 (List.mem_of_getElem? (i := 223) (by decide +kernel)) rfl
theorem wc_X4_holding : Cond.code yX4_holding cX4_holding 3 (some .int) ∈ zw := zw_5 (List.mem_of_getElem? (i := 224) (by decide +kernel)) rfl
theorem wl_L_203 : Cond.methodLink RL 203 yX4_status ∈ zw := zw_5 (List.mem_of_getElem? (i := 225) (by decide +kernel)) rfl
theorem wi_X4_status : Cond.instanceMethod yX4_status ∈ zw := zw_5 (List.mem_of_getElem? (i := 226) (by decide +kernel)) rfl
theorem wv_X4_status : Cond.selects RX4 yX4_status yX4_status ∈ zw := zw_5 (List.mem_of_getElem? (i := 227) (by decide +kernel)) rfl
theorem wc_X4_status : Cond.code yX4_status cX4_status 4 (some .int) ∈ zw := zw_5 (List.mem_of_getElem? (i := 228) (by decide +kernel)) rfl
theorem wl_X4_308 : Cond.constantLong RX4 308 (-1) ∈ zw := zw_5 (List.mem_of_getElem? (i := 229) (by decide +kernel)) rfl
theorem wl_J0_9 : Cond.fieldLink RJ0 9 "java/lang/String" "value" "[B" ∈ zw := zw_5 (List.mem_of_getElem? (i := 230) (by decide +kernel)) rfl
theorem wl_J0_15 : Cond.fieldLink RJ0 15 "java/lang/String" "coder" "B" ∈ zw := zw_5 (List.mem_of_getElem? (i := 231) (by decide +kernel)) rfl
theorem wv_X3_finding : Cond.selects RX3 yX3_finding yX3_finding ∈ zw := zw_s (List.mem_of_getElem? (i := 0) (by decide +kernel)) rfl
theorem wv_X3_hindrance : Cond.selects RX3 yX3_hindrance yX3_hindrance ∈ zw := zw_s (List.mem_of_getElem? (i := 1) (by decide +kernel)) rfl
theorem wv_X3_leastCalmRuling : Cond.selects RX3 yX3_leastCalmRuling yX3_leastCalmRuling ∈ zw := zw_s (List.mem_of_getElem? (i := 2) (by decide +kernel)) rfl
theorem wv_X3_isCalmWith : Cond.selects RX3 yX3_isCalmWith yX3_isCalmWith ∈ zw := zw_s (List.mem_of_getElem? (i := 3) (by decide +kernel)) rfl
theorem wv_X3_bestTrait : Cond.selects RX3 yX3_bestTrait yX3_bestTrait ∈ zw := zw_s (List.mem_of_getElem? (i := 4) (by decide +kernel)) rfl
theorem wv_X3_waysThat : Cond.selects RX3 yX3_waysThat yX3_waysThat ∈ zw := zw_s (List.mem_of_getElem? (i := 5) (by decide +kernel)) rfl
theorem wv_X3_isSo : Cond.selects RX3 yX3_isSo yX3_isSo ∈ zw := zw_s (List.mem_of_getElem? (i := 6) (by decide +kernel)) rfl
theorem wv_X3_readItem : Cond.selects RX3 yX3_readItem yX3_readItem ∈ zw := zw_s (List.mem_of_getElem? (i := 7) (by decide +kernel)) rfl
theorem wv_X3_readCitizen : Cond.selects RX3 yX3_readCitizen yX3_readCitizen ∈ zw := zw_s (List.mem_of_getElem? (i := 8) (by decide +kernel)) rfl
theorem wv_X3_readTrait : Cond.selects RX3 yX3_readTrait yX3_readTrait ∈ zw := zw_s (List.mem_of_getElem? (i := 9) (by decide +kernel)) rfl
theorem wv_X3_readRuling : Cond.selects RX3 yX3_readRuling yX3_readRuling ∈ zw := zw_s (List.mem_of_getElem? (i := 10) (by decide +kernel)) rfl
theorem wv_X3_sheetHindrance : Cond.selects RX3 yX3_sheetHindrance yX3_sheetHindrance ∈ zw := zw_s (List.mem_of_getElem? (i := 11) (by decide +kernel)) rfl
theorem wv_X4_finds : Cond.selects RX4 yX4_finds yX4_finds ∈ zw := zw_s (List.mem_of_getElem? (i := 12) (by decide +kernel)) rfl
theorem wv_X4_comes : Cond.selects RX4 yX4_comes yX4_comes ∈ zw := zw_s (List.mem_of_getElem? (i := 13) (by decide +kernel)) rfl
theorem wv_X4_makes : Cond.selects RX4 yX4_makes yX4_makes ∈ zw := zw_s (List.mem_of_getElem? (i := 14) (by decide +kernel)) rfl
theorem wv_X4_isOne : Cond.selects RX4 yX4_isOne yX4_isOne ∈ zw := zw_s (List.mem_of_getElem? (i := 15) (by decide +kernel)) rfl
theorem wv_X4_is : Cond.selects RX4 yX4_is yX4_is ∈ zw := zw_s (List.mem_of_getElem? (i := 16) (by decide +kernel)) rfl
theorem wv_X4_loafWorth : Cond.selects RX4 yX4_loafWorth yX4_loafWorth ∈ zw := zw_s (List.mem_of_getElem? (i := 17) (by decide +kernel)) rfl
theorem wv_X4_seatWorth : Cond.selects RX4 yX4_seatWorth yX4_seatWorth ∈ zw := zw_s (List.mem_of_getElem? (i := 18) (by decide +kernel)) rfl
theorem wv_X4_becomes : Cond.selects RX4 yX4_becomes yX4_becomes ∈ zw := zw_s (List.mem_of_getElem? (i := 19) (by decide +kernel)) rfl
theorem wv_X4_with : Cond.selects RX4 yX4_with yX4_with ∈ zw := zw_s (List.mem_of_getElem? (i := 20) (by decide +kernel)) rfl
theorem wv_X4_hungry : Cond.selects RX4 yX4_hungry yX4_hungry ∈ zw := zw_s (List.mem_of_getElem? (i := 21) (by decide +kernel)) rfl
theorem wv_X4_cost : Cond.selects RX4 yX4_cost yX4_cost ∈ zw := zw_s (List.mem_of_getElem? (i := 22) (by decide +kernel)) rfl
theorem wv_X4_wantsOther : Cond.selects RX4 yX4_wantsOther yX4_wantsOther ∈ zw := zw_s (List.mem_of_getElem? (i := 23) (by decide +kernel)) rfl
theorem wv_X4_changeTokens : Cond.selects RX4 yX4_changeTokens yX4_changeTokens ∈ zw := zw_s (List.mem_of_getElem? (i := 24) (by decide +kernel)) rfl
theorem wv_X4_opens : Cond.selects RX4 yX4_opens yX4_opens ∈ zw := zw_s (List.mem_of_getElem? (i := 25) (by decide +kernel)) rfl
theorem wv_X4_firstWanting : Cond.selects RX4 yX4_firstWanting yX4_firstWanting ∈ zw := zw_s (List.mem_of_getElem? (i := 26) (by decide +kernel)) rfl
theorem wv_X4_mayBuy : Cond.selects RX4 yX4_mayBuy yX4_mayBuy ∈ zw := zw_s (List.mem_of_getElem? (i := 27) (by decide +kernel)) rfl
theorem wv_X4_worth : Cond.selects RX4 yX4_worth yX4_worth ∈ zw := zw_s (List.mem_of_getElem? (i := 28) (by decide +kernel)) rfl
theorem wv_X4_isLate : Cond.selects RX4 yX4_isLate yX4_isLate ∈ zw := zw_s (List.mem_of_getElem? (i := 29) (by decide +kernel)) rfl
theorem wv_X4_goes : Cond.selects RX4 yX4_goes yX4_goes ∈ zw := zw_s (List.mem_of_getElem? (i := 30) (by decide +kernel)) rfl
theorem wv_X4_aWeek : Cond.selects RX4 yX4_aWeek yX4_aWeek ∈ zw := zw_s (List.mem_of_getElem? (i := 31) (by decide +kernel)) rfl
theorem wv_X4_drawsTokens : Cond.selects RX4 yX4_drawsTokens yX4_drawsTokens ∈ zw := zw_s (List.mem_of_getElem? (i := 32) (by decide +kernel)) rfl
theorem wv_X4_draw : Cond.selects RX4 yX4_draw yX4_draw ∈ zw := zw_s (List.mem_of_getElem? (i := 33) (by decide +kernel)) rfl
theorem wv_X4_eatAndSee : Cond.selects RX4 yX4_eatAndSee yX4_eatAndSee ∈ zw := zw_s (List.mem_of_getElem? (i := 34) (by decide +kernel)) rfl
theorem wv_X4_sum : Cond.selects RX4 yX4_sum yX4_sum ∈ zw := zw_s (List.mem_of_getElem? (i := 35) (by decide +kernel)) rfl
theorem wv_X4_orNone : Cond.selects RX4 yX4_orNone yX4_orNone ∈ zw := zw_s (List.mem_of_getElem? (i := 36) (by decide +kernel)) rfl
theorem wv_X4_tries : Cond.selects RX4 yX4_tries yX4_tries ∈ zw := zw_s (List.mem_of_getElem? (i := 37) (by decide +kernel)) rfl
theorem wv_X4_ofThen : Cond.selects RX4 yX4_ofThen yX4_ofThen ∈ zw := zw_s (List.mem_of_getElem? (i := 38) (by decide +kernel)) rfl
theorem wv_X4_drawing : Cond.selects RX4 yX4_drawing yX4_drawing ∈ zw := zw_s (List.mem_of_getElem? (i := 39) (by decide +kernel)) rfl
theorem wv_X4_isWay : Cond.selects RX4 yX4_isWay yX4_isWay ∈ zw := zw_s (List.mem_of_getElem? (i := 40) (by decide +kernel)) rfl
theorem wv_X4_lies : Cond.selects RX4 yX4_lies yX4_lies ∈ zw := zw_s (List.mem_of_getElem? (i := 41) (by decide +kernel)) rfl
theorem wv_X4_token : Cond.selects RX4 yX4_token yX4_token ∈ zw := zw_s (List.mem_of_getElem? (i := 42) (by decide +kernel)) rfl
theorem wv_X4_isByte : Cond.selects RX4 yX4_isByte yX4_isByte ∈ zw := zw_s (List.mem_of_getElem? (i := 43) (by decide +kernel)) rfl
theorem wv_X4_item : Cond.selects RX4 yX4_item yX4_item ∈ zw := zw_s (List.mem_of_getElem? (i := 44) (by decide +kernel)) rfl
theorem wv_X4_kindHere : Cond.selects RX4 yX4_kindHere yX4_kindHere ∈ zw := zw_s (List.mem_of_getElem? (i := 45) (by decide +kernel)) rfl
theorem wv_X4_isWord : Cond.selects RX4 yX4_isWord yX4_isWord ∈ zw := zw_s (List.mem_of_getElem? (i := 46) (by decide +kernel)) rfl
theorem wv_X4_citizenItem : Cond.selects RX4 yX4_citizenItem yX4_citizenItem ∈ zw := zw_s (List.mem_of_getElem? (i := 47) (by decide +kernel)) rfl
theorem wv_X4_takes : Cond.selects RX4 yX4_takes yX4_takes ∈ zw := zw_s (List.mem_of_getElem? (i := 48) (by decide +kernel)) rfl
theorem wv_X4_number : Cond.selects RX4 yX4_number yX4_number ∈ zw := zw_s (List.mem_of_getElem? (i := 49) (by decide +kernel)) rfl
theorem wv_X4_ruleHere : Cond.selects RX4 yX4_ruleHere yX4_ruleHere ∈ zw := zw_s (List.mem_of_getElem? (i := 50) (by decide +kernel)) rfl
theorem wv_X4_ruleItem : Cond.selects RX4 yX4_ruleItem yX4_ruleItem ∈ zw := zw_s (List.mem_of_getElem? (i := 51) (by decide +kernel)) rfl
theorem wv_X4_isSign : Cond.selects RX4 yX4_isSign yX4_isSign ∈ zw := zw_s (List.mem_of_getElem? (i := 52) (by decide +kernel)) rfl
theorem wv_X4_holding : Cond.selects RX4 yX4_holding yX4_holding ∈ zw := zw_s (List.mem_of_getElem? (i := 53) (by decide +kernel)) rfl
theorem wu_X0 : ∀ w ∈ u_ws RX0 TX0 16, w ∈ zw := zw_all [57, 59, 61, 63, 65, 67, 69, 71, 73, 75, 77, 79, 81, 83, 85, 87] (by decide +kernel) (by decide +kernel)
theorem wu_X2 : ∀ w ∈ u_ws RX2 TX2 6, w ∈ zw := zw_all [107, 109, 111, 113, 115, 117] (by decide +kernel) (by decide +kernel)
theorem wu_X1 : ∀ w ∈ u_ws RX1 TX1 3, w ∈ zw := zw_all [135, 137, 139] (by decide +kernel) (by decide +kernel)
theorem wu_X3 : ∀ w ∈ u_ws RX3 TX3 7, w ∈ zw := zw_all [149, 151, 153, 155, 157, 159, 161] (by decide +kernel) (by decide +kernel)
theorem wu_X4 : ∀ w ∈ u_ws RX4 TX4 17, w ∈ zw := zw_all [732, 734, 736, 738, 740, 742, 744, 746, 748, 750, 752, 754, 756, 758, 760, 762, 764] (by decide +kernel) (by decide +kernel)
