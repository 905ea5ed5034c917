/-! words of the tables, by their places -/
theorem px_c0 {w : Cond} (h : w ∈ k2_sels lw_privs) (g : goodWord w = true) : w ∈ px_tbl := px_in (List.mem_append_left _ h) g
theorem px_c1 {w : Cond} (h : w ∈ tables_1_1) (g : goodWord w = true) : w ∈ px_tbl := px_in (List.mem_append_right _ (List.mem_append_left _ h)) g
theorem px_c2 {w : Cond} (h : w ∈ tables_1_2) (g : goodWord w = true) : w ∈ px_tbl := px_in (List.mem_append_right _ (List.mem_append_right _ (List.mem_append_left _ h))) g
theorem px_c3 {w : Cond} (h : w ∈ tables_1_3) (g : goodWord w = true) : w ∈ px_tbl := px_in (List.mem_append_right _ (List.mem_append_right _ (List.mem_append_right _ (List.mem_append_left _ h)))) g
theorem px_c4 {w : Cond} (h : w ∈ tables_1_4) (g : goodWord w = true) : w ∈ px_tbl := px_in (List.mem_append_right _ (List.mem_append_right _ (List.mem_append_right _ (List.mem_append_right _ (List.mem_append_left _ h))))) g
theorem px_c5 {w : Cond} (h : w ∈ tables_1_5) (g : goodWord w = true) : w ∈ px_tbl := px_in (List.mem_append_right _ (List.mem_append_right _ (List.mem_append_right _ (List.mem_append_right _ (List.mem_append_right _ (List.mem_append_left _ h)))))) g
theorem px_c6 {w : Cond} (h : w ∈ tables_1_6) (g : goodWord w = true) : w ∈ px_tbl := px_in (List.mem_append_right _ (List.mem_append_right _ (List.mem_append_right _ (List.mem_append_right _ (List.mem_append_right _ (List.mem_append_right _ (List.mem_append_left _ h))))))) g
theorem px_c7 {w : Cond} (h : w ∈ tables_1_7) (g : goodWord w = true) : w ∈ px_tbl := px_in (List.mem_append_right _ (List.mem_append_right _ (List.mem_append_right _ (List.mem_append_right _ (List.mem_append_right _ (List.mem_append_right _ (List.mem_append_right _ (List.mem_append_left _ h)))))))) g
theorem px_c8 {w : Cond} (h : w ∈ tables_1_8) (g : goodWord w = true) : w ∈ px_tbl := px_in (List.mem_append_right _ (List.mem_append_right _ (List.mem_append_right _ (List.mem_append_right _ (List.mem_append_right _ (List.mem_append_right _ (List.mem_append_right _ (List.mem_append_right _ h)))))))) g
set_option maxRecDepth 100000 in
theorem inX0 : ∀ w ∈ u_ws RX0 TX0 5, w ∈ px_tbl := by decide +kernel
set_option maxRecDepth 100000 in
theorem inX1 : ∀ w ∈ u_ws RX1 TX1 7, w ∈ px_tbl := by decide +kernel
set_option maxRecDepth 100000 in
theorem inX2 : ∀ w ∈ u_ws RX2 TX2 7, w ∈ px_tbl := by decide +kernel
set_option maxRecDepth 100000 in
theorem inX3 : ∀ w ∈ u_ws RX3 TX3 5, w ∈ px_tbl := by decide +kernel
set_option maxRecDepth 100000 in
theorem inX4 : ∀ w ∈ u_ws RX4 TX4 2, w ∈ px_tbl := by decide +kernel
set_option maxRecDepth 100000 in
theorem inX5 : ∀ w ∈ u_ws RX5 TX5 3, w ∈ px_tbl := by decide +kernel
set_option maxRecDepth 100000 in
theorem inX6 : ∀ w ∈ u_ws RX6 TX6 4, w ∈ px_tbl := by decide +kernel
set_option maxRecDepth 100000 in
theorem inX7 : ∀ w ∈ u_ws RX7 TX7 10, w ∈ px_tbl := by decide +kernel
set_option maxRecDepth 100000 in
theorem inX8 : ∀ w ∈ u_ws RX8 TX8 5, w ∈ px_tbl := by decide +kernel
set_option maxRecDepth 100000 in
theorem inX9 : ∀ w ∈ u_ws RX9 TX9 6, w ∈ px_tbl := by decide +kernel
set_option maxRecDepth 100000 in
theorem inX10 : ∀ w ∈ u_ws RX10 TX10 6, w ∈ px_tbl := by decide +kernel
set_option maxRecDepth 100000 in
theorem inX11 : ∀ w ∈ u_ws RX11 TX11 15, w ∈ px_tbl := by decide +kernel
set_option maxRecDepth 100000 in
theorem inX12 : ∀ w ∈ u_ws RX12 TX12 59, w ∈ px_tbl := by decide +kernel
def mX0_init : px_M := (yX0_init, cX0_init, 1, none)
theorem okX0_init : px_okI mX0_init 0 := ⟨⟨px_c2 (List.mem_of_getElem? (i := 84) (by decide +kernel)) rfl, px_c1 (List.mem_of_getElem? (i := 12) (by decide +kernel)) rfl, by decide +kernel, by decide +kernel, by decide +kernel⟩, px_c2 (List.mem_of_getElem? (i := 83) (by decide +kernel)) rfl, rfl, rfl⟩
theorem plX0_init : plainFor mX0_init.1 = true := by decide +kernel
def mX0_isBody : px_M := (yX0_isBody, cX0_isBody, 2, (some .boolean))
theorem okX0_isBody : px_okV mX0_isBody 1 := ⟨⟨px_c4 (List.mem_of_getElem? (i := 219) (by decide +kernel)) rfl, px_c1 (List.mem_of_getElem? (i := 12) (by decide +kernel)) rfl, by decide +kernel, by decide +kernel, by decide +kernel⟩, px_c4 (List.mem_of_getElem? (i := 217) (by decide +kernel)) rfl, px_c4 (List.mem_of_getElem? (i := 218) (by decide +kernel)) rfl⟩
theorem plX0_isBody : plainFor mX0_isBody.1 = true := by decide +kernel
def mX0_add : px_M := (yX0_add, cX0_add, 2, (some .int))
theorem okX0_add : px_okV mX0_add 1 := ⟨⟨px_c4 (List.mem_of_getElem? (i := 207) (by decide +kernel)) rfl, px_c1 (List.mem_of_getElem? (i := 12) (by decide +kernel)) rfl, by decide +kernel, by decide +kernel, by decide +kernel⟩, px_c4 (List.mem_of_getElem? (i := 205) (by decide +kernel)) rfl, px_c4 (List.mem_of_getElem? (i := 206) (by decide +kernel)) rfl⟩
theorem plX0_add : plainFor mX0_add.1 = true := by decide +kernel
def mX0_traced : px_M := (yX0_traced, cX0_traced, 1, (some .int))
theorem okX0_traced : px_okV mX0_traced 0 := ⟨⟨px_c5 (List.mem_of_getElem? (i := 6) (by decide +kernel)) rfl, px_c1 (List.mem_of_getElem? (i := 12) (by decide +kernel)) rfl, by decide +kernel, by decide +kernel, by decide +kernel⟩, px_c5 (List.mem_of_getElem? (i := 4) (by decide +kernel)) rfl, px_c5 (List.mem_of_getElem? (i := 5) (by decide +kernel)) rfl⟩
theorem plX0_traced : plainFor mX0_traced.1 = true := by decide +kernel
def mX0_isUnder : px_M := (yX0_isUnder, cX0_isUnder, 4, (some .boolean))
theorem okX0_isUnder : px_okS mX0_isUnder 2 := ⟨⟨px_c5 (List.mem_of_getElem? (i := 75) (by decide +kernel)) rfl, px_c1 (List.mem_of_getElem? (i := 12) (by decide +kernel)) rfl, by decide +kernel, by decide +kernel, by decide +kernel⟩, px_c5 (List.mem_of_getElem? (i := 74) (by decide +kernel)) rfl⟩
theorem plX0_isUnder : plainFor mX0_isUnder.1 = true := by decide +kernel
def mX0_perform : px_M := (yX0_perform, cX0_perform, 4, (some .int))
theorem okX0_perform : px_okV mX0_perform 3 := ⟨⟨px_c4 (List.mem_of_getElem? (i := 215) (by decide +kernel)) rfl, px_c1 (List.mem_of_getElem? (i := 12) (by decide +kernel)) rfl, by decide +kernel, by decide +kernel, by decide +kernel⟩, px_c4 (List.mem_of_getElem? (i := 213) (by decide +kernel)) rfl, px_c4 (List.mem_of_getElem? (i := 214) (by decide +kernel)) rfl⟩
theorem plX0_perform : plainFor mX0_perform.1 = true := by decide +kernel
def mX0_ask : px_M := (yX0_ask, cX0_ask, 4, (some .int))
theorem okX0_ask : px_okV mX0_ask 3 := ⟨⟨px_c4 (List.mem_of_getElem? (i := 223) (by decide +kernel)) rfl, px_c1 (List.mem_of_getElem? (i := 12) (by decide +kernel)) rfl, by decide +kernel, by decide +kernel, by decide +kernel⟩, px_c4 (List.mem_of_getElem? (i := 222) (by decide +kernel)) rfl, px_c0 (List.mem_of_getElem? (i := 29) (by decide +kernel)) rfl⟩
theorem plX0_ask : plainFor mX0_ask.1 = true := by decide +kernel
def mX0_holderFrom : px_M := (yX0_holderFrom, cX0_holderFrom, 4, (some .int))
theorem okX0_holderFrom : px_okS mX0_holderFrom 2 := ⟨⟨px_c4 (List.mem_of_getElem? (i := 230) (by decide +kernel)) rfl, px_c1 (List.mem_of_getElem? (i := 12) (by decide +kernel)) rfl, by decide +kernel, by decide +kernel, by decide +kernel⟩, px_c4 (List.mem_of_getElem? (i := 229) (by decide +kernel)) rfl⟩
theorem plX0_holderFrom : plainFor mX0_holderFrom.1 = true := by decide +kernel
def mX0_note : px_M := (yX0_note, cX0_note, 2, none)
theorem okX0_note : px_okV mX0_note 1 := ⟨⟨px_c4 (List.mem_of_getElem? (i := 238) (by decide +kernel)) rfl, px_c1 (List.mem_of_getElem? (i := 12) (by decide +kernel)) rfl, by decide +kernel, by decide +kernel, by decide +kernel⟩, px_c4 (List.mem_of_getElem? (i := 237) (by decide +kernel)) rfl, px_c0 (List.mem_of_getElem? (i := 31) (by decide +kernel)) rfl⟩
theorem plX0_note : plainFor mX0_note.1 = true := by decide +kernel
def mX0_run : px_M := (yX0_run, cX0_run, 8, (some .int))
theorem okX0_run : px_okV mX0_run 4 := ⟨⟨px_c4 (List.mem_of_getElem? (i := 227) (by decide +kernel)) rfl, px_c1 (List.mem_of_getElem? (i := 12) (by decide +kernel)) rfl, by decide +kernel, by decide +kernel, by decide +kernel⟩, px_c4 (List.mem_of_getElem? (i := 226) (by decide +kernel)) rfl, px_c0 (List.mem_of_getElem? (i := 30) (by decide +kernel)) rfl⟩
theorem plX0_run : plainFor mX0_run.1 = true := by decide +kernel
def mX1_init : px_M := (yX1_init, cX1_init, 2, none)
theorem okX1_init : px_okI mX1_init 1 := ⟨⟨px_c1 (List.mem_of_getElem? (i := 192) (by decide +kernel)) rfl, px_c1 (List.mem_of_getElem? (i := 7) (by decide +kernel)) rfl, by decide +kernel, by decide +kernel, by decide +kernel⟩, px_c1 (List.mem_of_getElem? (i := 191) (by decide +kernel)) rfl, rfl, rfl⟩
theorem plX1_init : plainFor mX1_init.1 = true := by decide +kernel
def mX1_add : px_M := (yX1_add, cX1_add, 5, none)
theorem okX1_add : px_okV mX1_add 4 := ⟨⟨px_c3 (List.mem_of_getElem? (i := 5) (by decide +kernel)) rfl, px_c1 (List.mem_of_getElem? (i := 7) (by decide +kernel)) rfl, by decide +kernel, by decide +kernel, by decide +kernel⟩, px_c3 (List.mem_of_getElem? (i := 3) (by decide +kernel)) rfl, px_c3 (List.mem_of_getElem? (i := 4) (by decide +kernel)) rfl⟩
theorem plX1_add : plainFor mX1_add.1 = true := by decide +kernel
def mX1_forgetOldest : px_M := (yX1_forgetOldest, cX1_forgetOldest, 1, none)
theorem okX1_forgetOldest : px_okV mX1_forgetOldest 0 := ⟨⟨px_c3 (List.mem_of_getElem? (i := 9) (by decide +kernel)) rfl, px_c1 (List.mem_of_getElem? (i := 7) (by decide +kernel)) rfl, by decide +kernel, by decide +kernel, by decide +kernel⟩, px_c3 (List.mem_of_getElem? (i := 8) (by decide +kernel)) rfl, px_c0 (List.mem_of_getElem? (i := 4) (by decide +kernel)) rfl⟩
theorem plX1_forgetOldest : plainFor mX1_forgetOldest.1 = true := by decide +kernel
def mX1_takeBack : px_M := (yX1_takeBack, cX1_takeBack, 1, (some .boolean))
theorem okX1_takeBack : px_okV mX1_takeBack 0 := ⟨⟨px_c4 (List.mem_of_getElem? (i := 190) (by decide +kernel)) rfl, px_c1 (List.mem_of_getElem? (i := 7) (by decide +kernel)) rfl, by decide +kernel, by decide +kernel, by decide +kernel⟩, px_c4 (List.mem_of_getElem? (i := 188) (by decide +kernel)) rfl, px_c4 (List.mem_of_getElem? (i := 189) (by decide +kernel)) rfl⟩
theorem plX1_takeBack : plainFor mX1_takeBack.1 = true := by decide +kernel
def mX1_doAgain : px_M := (yX1_doAgain, cX1_doAgain, 1, (some .boolean))
theorem okX1_doAgain : px_okV mX1_doAgain 0 := ⟨⟨px_c4 (List.mem_of_getElem? (i := 199) (by decide +kernel)) rfl, px_c1 (List.mem_of_getElem? (i := 7) (by decide +kernel)) rfl, by decide +kernel, by decide +kernel, by decide +kernel⟩, px_c4 (List.mem_of_getElem? (i := 197) (by decide +kernel)) rfl, px_c4 (List.mem_of_getElem? (i := 198) (by decide +kernel)) rfl⟩
theorem plX1_doAgain : plainFor mX1_doAgain.1 = true := by decide +kernel
def mX2_init : px_M := (yX2_init, cX2_init, 2, none)
theorem okX2_init : px_okI mX2_init 1 := ⟨⟨px_c1 (List.mem_of_getElem? (i := 98) (by decide +kernel)) rfl, px_c1 (List.mem_of_getElem? (i := 3) (by decide +kernel)) rfl, by decide +kernel, by decide +kernel, by decide +kernel⟩, px_c1 (List.mem_of_getElem? (i := 97) (by decide +kernel)) rfl, rfl, rfl⟩
theorem plX2_init : plainFor mX2_init.1 = true := by decide +kernel
def mX2_take : px_M := (yX2_take, cX2_take, 4, none)
theorem okX2_take : px_okV mX2_take 3 := ⟨⟨px_c3 (List.mem_of_getElem? (i := 202) (by decide +kernel)) rfl, px_c1 (List.mem_of_getElem? (i := 3) (by decide +kernel)) rfl, by decide +kernel, by decide +kernel, by decide +kernel⟩, px_c3 (List.mem_of_getElem? (i := 200) (by decide +kernel)) rfl, px_c3 (List.mem_of_getElem? (i := 201) (by decide +kernel)) rfl⟩
theorem plX2_take : plainFor mX2_take.1 = true := by decide +kernel
def mX2_houseOfJoy : px_M := (yX2_houseOfJoy, cX2_houseOfJoy, 3, (some .int))
theorem okX2_houseOfJoy : px_okV mX2_houseOfJoy 1 := ⟨⟨px_c3 (List.mem_of_getElem? (i := 111) (by decide +kernel)) rfl, px_c1 (List.mem_of_getElem? (i := 3) (by decide +kernel)) rfl, by decide +kernel, by decide +kernel, by decide +kernel⟩, px_c3 (List.mem_of_getElem? (i := 109) (by decide +kernel)) rfl, px_c3 (List.mem_of_getElem? (i := 110) (by decide +kernel)) rfl⟩
theorem plX2_houseOfJoy : plainFor mX2_houseOfJoy.1 = true := by decide +kernel
def mX2_sideOfJoy : px_M := (yX2_sideOfJoy, cX2_sideOfJoy, 2, (some .int))
theorem okX2_sideOfJoy : px_okV mX2_sideOfJoy 1 := ⟨⟨px_c3 (List.mem_of_getElem? (i := 107) (by decide +kernel)) rfl, px_c1 (List.mem_of_getElem? (i := 3) (by decide +kernel)) rfl, by decide +kernel, by decide +kernel, by decide +kernel⟩, px_c3 (List.mem_of_getElem? (i := 105) (by decide +kernel)) rfl, px_c3 (List.mem_of_getElem? (i := 106) (by decide +kernel)) rfl⟩
theorem plX2_sideOfJoy : plainFor mX2_sideOfJoy.1 = true := by decide +kernel
def mX2_runs : px_M := (yX2_runs, cX2_runs, 2, (some .boolean))
theorem okX2_runs : px_okV mX2_runs 1 := ⟨⟨px_c3 (List.mem_of_getElem? (i := 130) (by decide +kernel)) rfl, px_c1 (List.mem_of_getElem? (i := 3) (by decide +kernel)) rfl, by decide +kernel, by decide +kernel, by decide +kernel⟩, px_c3 (List.mem_of_getElem? (i := 128) (by decide +kernel)) rfl, px_c3 (List.mem_of_getElem? (i := 129) (by decide +kernel)) rfl⟩
theorem plX2_runs : plainFor mX2_runs.1 = true := by decide +kernel
def mX2_waits : px_M := (yX2_waits, cX2_waits, 2, (some .boolean))
theorem okX2_waits : px_okV mX2_waits 1 := ⟨⟨px_c3 (List.mem_of_getElem? (i := 235) (by decide +kernel)) rfl, px_c1 (List.mem_of_getElem? (i := 3) (by decide +kernel)) rfl, by decide +kernel, by decide +kernel, by decide +kernel⟩, px_c3 (List.mem_of_getElem? (i := 233) (by decide +kernel)) rfl, px_c3 (List.mem_of_getElem? (i := 234) (by decide +kernel)) rfl⟩
theorem plX2_waits : plainFor mX2_waits.1 = true := by decide +kernel
def mX2_had : px_M := (yX2_had, cX2_had, 2, (some .boolean))
theorem okX2_had : px_okV mX2_had 1 := ⟨⟨px_c3 (List.mem_of_getElem? (i := 231) (by decide +kernel)) rfl, px_c1 (List.mem_of_getElem? (i := 3) (by decide +kernel)) rfl, by decide +kernel, by decide +kernel, by decide +kernel⟩, px_c3 (List.mem_of_getElem? (i := 229) (by decide +kernel)) rfl, px_c3 (List.mem_of_getElem? (i := 230) (by decide +kernel)) rfl⟩
theorem plX2_had : plainFor mX2_had.1 = true := by decide +kernel
def mX2_isIn : px_M := (yX2_isIn, cX2_isIn, 3, (some .boolean))
theorem okX2_isIn : px_okV mX2_isIn 2 := ⟨⟨px_c4 (List.mem_of_getElem? (i := 19) (by decide +kernel)) rfl, px_c1 (List.mem_of_getElem? (i := 3) (by decide +kernel)) rfl, by decide +kernel, by decide +kernel, by decide +kernel⟩, px_c4 (List.mem_of_getElem? (i := 17) (by decide +kernel)) rfl, px_c4 (List.mem_of_getElem? (i := 18) (by decide +kernel)) rfl⟩
theorem plX2_isIn : plainFor mX2_isIn.1 = true := by decide +kernel
def mX2_joysThat : px_M := (yX2_joysThat, cX2_joysThat, 4, (some .int))
theorem okX2_joysThat : px_okV mX2_joysThat 1 := ⟨⟨px_c4 (List.mem_of_getElem? (i := 15) (by decide +kernel)) rfl, px_c1 (List.mem_of_getElem? (i := 3) (by decide +kernel)) rfl, by decide +kernel, by decide +kernel, by decide +kernel⟩, px_c4 (List.mem_of_getElem? (i := 13) (by decide +kernel)) rfl, px_c4 (List.mem_of_getElem? (i := 14) (by decide +kernel)) rfl⟩
theorem plX2_joysThat : plainFor mX2_joysThat.1 = true := by decide +kernel
def mX2_isGlad : px_M := (yX2_isGlad, cX2_isGlad, 3, (some .boolean))
theorem okX2_isGlad : px_okV mX2_isGlad 1 := ⟨⟨px_c4 (List.mem_of_getElem? (i := 3) (by decide +kernel)) rfl, px_c1 (List.mem_of_getElem? (i := 3) (by decide +kernel)) rfl, by decide +kernel, by decide +kernel, by decide +kernel⟩, px_c4 (List.mem_of_getElem? (i := 1) (by decide +kernel)) rfl, px_c4 (List.mem_of_getElem? (i := 2) (by decide +kernel)) rfl⟩
theorem plX2_isGlad : plainFor mX2_isGlad.1 = true := by decide +kernel
def mX2_gladPeople : px_M := (yX2_gladPeople, cX2_gladPeople, 3, (some .int))
theorem okX2_gladPeople : px_okV mX2_gladPeople 0 := ⟨⟨px_c3 (List.mem_of_getElem? (i := 239) (by decide +kernel)) rfl, px_c1 (List.mem_of_getElem? (i := 3) (by decide +kernel)) rfl, by decide +kernel, by decide +kernel, by decide +kernel⟩, px_c3 (List.mem_of_getElem? (i := 237) (by decide +kernel)) rfl, px_c3 (List.mem_of_getElem? (i := 238) (by decide +kernel)) rfl⟩
theorem plX2_gladPeople : plainFor mX2_gladPeople.1 = true := by decide +kernel
def mX2_worthOfHad : px_M := (yX2_worthOfHad, cX2_worthOfHad, 3, (some .int))
theorem okX2_worthOfHad : px_okV mX2_worthOfHad 0 := ⟨⟨px_c4 (List.mem_of_getElem? (i := 7) (by decide +kernel)) rfl, px_c1 (List.mem_of_getElem? (i := 3) (by decide +kernel)) rfl, by decide +kernel, by decide +kernel, by decide +kernel⟩, px_c4 (List.mem_of_getElem? (i := 5) (by decide +kernel)) rfl, px_c4 (List.mem_of_getElem? (i := 6) (by decide +kernel)) rfl⟩
theorem plX2_worthOfHad : plainFor mX2_worthOfHad.1 = true := by decide +kernel
def mX2_worthOfHadBy : px_M := (yX2_worthOfHadBy, cX2_worthOfHadBy, 4, (some .int))
theorem okX2_worthOfHadBy : px_okV mX2_worthOfHadBy 1 := ⟨⟨px_c4 (List.mem_of_getElem? (i := 93) (by decide +kernel)) rfl, px_c1 (List.mem_of_getElem? (i := 3) (by decide +kernel)) rfl, by decide +kernel, by decide +kernel, by decide +kernel⟩, px_c4 (List.mem_of_getElem? (i := 91) (by decide +kernel)) rfl, px_c4 (List.mem_of_getElem? (i := 92) (by decide +kernel)) rfl⟩
theorem plX2_worthOfHadBy : plainFor mX2_worthOfHadBy.1 = true := by decide +kernel
def mX2_worthOfLost : px_M := (yX2_worthOfLost, cX2_worthOfLost, 3, (some .int))
theorem okX2_worthOfLost : px_okV mX2_worthOfLost 0 := ⟨⟨px_c4 (List.mem_of_getElem? (i := 11) (by decide +kernel)) rfl, px_c1 (List.mem_of_getElem? (i := 3) (by decide +kernel)) rfl, by decide +kernel, by decide +kernel, by decide +kernel⟩, px_c4 (List.mem_of_getElem? (i := 9) (by decide +kernel)) rfl, px_c4 (List.mem_of_getElem? (i := 10) (by decide +kernel)) rfl⟩
theorem plX2_worthOfLost : plainFor mX2_worthOfLost.1 = true := by decide +kernel
def mX2_leadOfSide0 : px_M := (yX2_leadOfSide0, cX2_leadOfSide0, 3, (some .int))
theorem okX2_leadOfSide0 : px_okV mX2_leadOfSide0 0 := ⟨⟨px_c3 (List.mem_of_getElem? (i := 217) (by decide +kernel)) rfl, px_c1 (List.mem_of_getElem? (i := 3) (by decide +kernel)) rfl, by decide +kernel, by decide +kernel, by decide +kernel⟩, px_c3 (List.mem_of_getElem? (i := 215) (by decide +kernel)) rfl, px_c3 (List.mem_of_getElem? (i := 216) (by decide +kernel)) rfl⟩
theorem plX2_leadOfSide0 : plainFor mX2_leadOfSide0.1 = true := by decide +kernel
def mX2_pass : px_M := (yX2_pass, cX2_pass, 2, none)
theorem okX2_pass : px_okV mX2_pass 0 := ⟨⟨px_c3 (List.mem_of_getElem? (i := 209) (by decide +kernel)) rfl, px_c1 (List.mem_of_getElem? (i := 3) (by decide +kernel)) rfl, by decide +kernel, by decide +kernel, by decide +kernel⟩, px_c3 (List.mem_of_getElem? (i := 207) (by decide +kernel)) rfl, px_c3 (List.mem_of_getElem? (i := 208) (by decide +kernel)) rfl⟩
theorem plX2_pass : plainFor mX2_pass.1 = true := by decide +kernel
def mX2_holdVote : px_M := (yX2_holdVote, cX2_holdVote, 3, none)
theorem okX2_holdVote : px_okV mX2_holdVote 0 := ⟨⟨px_c3 (List.mem_of_getElem? (i := 213) (by decide +kernel)) rfl, px_c1 (List.mem_of_getElem? (i := 3) (by decide +kernel)) rfl, by decide +kernel, by decide +kernel, by decide +kernel⟩, px_c3 (List.mem_of_getElem? (i := 212) (by decide +kernel)) rfl, px_c0 (List.mem_of_getElem? (i := 20) (by decide +kernel)) rfl⟩
theorem plX2_holdVote : plainFor mX2_holdVote.1 = true := by decide +kernel
def mX2_passFor : px_M := (yX2_passFor, cX2_passFor, 3, none)
theorem okX2_passFor : px_okV mX2_passFor 1 := ⟨⟨px_c3 (List.mem_of_getElem? (i := 221) (by decide +kernel)) rfl, px_c1 (List.mem_of_getElem? (i := 3) (by decide +kernel)) rfl, by decide +kernel, by decide +kernel, by decide +kernel⟩, px_c3 (List.mem_of_getElem? (i := 220) (by decide +kernel)) rfl, px_c0 (List.mem_of_getElem? (i := 21) (by decide +kernel)) rfl⟩
theorem plX2_passFor : plainFor mX2_passFor.1 = true := by decide +kernel
def mX2_runOn : px_M := (yX2_runOn, cX2_runOn, 2, none)
theorem okX2_runOn : px_okV mX2_runOn 1 := ⟨⟨px_c3 (List.mem_of_getElem? (i := 227) (by decide +kernel)) rfl, px_c1 (List.mem_of_getElem? (i := 3) (by decide +kernel)) rfl, by decide +kernel, by decide +kernel, by decide +kernel⟩, px_c3 (List.mem_of_getElem? (i := 226) (by decide +kernel)) rfl, px_c0 (List.mem_of_getElem? (i := 22) (by decide +kernel)) rfl⟩
theorem plX2_runOn : plainFor mX2_runOn.1 = true := by decide +kernel
def mX3_init : px_M := (yX3_init, cX3_init, 1, none)
theorem okX3_init : px_okI mX3_init 0 := ⟨⟨px_c1 (List.mem_of_getElem? (i := 152) (by decide +kernel)) rfl, px_c1 (List.mem_of_getElem? (i := 5) (by decide +kernel)) rfl, by decide +kernel, by decide +kernel, by decide +kernel⟩, px_c1 (List.mem_of_getElem? (i := 151) (by decide +kernel)) rfl, rfl, rfl⟩
theorem plX3_init : plainFor mX3_init.1 = true := by decide +kernel
def mX3_clear : px_M := (yX3_clear, cX3_clear, 1, none)
theorem okX3_clear : px_okV mX3_clear 0 := ⟨⟨px_c3 (List.mem_of_getElem? (i := 40) (by decide +kernel)) rfl, px_c1 (List.mem_of_getElem? (i := 5) (by decide +kernel)) rfl, by decide +kernel, by decide +kernel, by decide +kernel⟩, px_c3 (List.mem_of_getElem? (i := 38) (by decide +kernel)) rfl, px_c3 (List.mem_of_getElem? (i := 39) (by decide +kernel)) rfl⟩
theorem plX3_clear : plainFor mX3_clear.1 = true := by decide +kernel
def mX3_isTold : px_M := (yX3_isTold, cX3_isTold, 1, (some .boolean))
theorem okX3_isTold : px_okV mX3_isTold 0 := ⟨⟨px_c3 (List.mem_of_getElem? (i := 134) (by decide +kernel)) rfl, px_c1 (List.mem_of_getElem? (i := 5) (by decide +kernel)) rfl, by decide +kernel, by decide +kernel, by decide +kernel⟩, px_c3 (List.mem_of_getElem? (i := 132) (by decide +kernel)) rfl, px_c3 (List.mem_of_getElem? (i := 133) (by decide +kernel)) rfl⟩
theorem plX3_isTold : plainFor mX3_isTold.1 = true := by decide +kernel
def mX3_take : px_M := (yX3_take, cX3_take, 2, none)
theorem okX3_take : px_okV mX3_take 1 := ⟨⟨px_c3 (List.mem_of_getElem? (i := 98) (by decide +kernel)) rfl, px_c1 (List.mem_of_getElem? (i := 5) (by decide +kernel)) rfl, by decide +kernel, by decide +kernel, by decide +kernel⟩, px_c3 (List.mem_of_getElem? (i := 96) (by decide +kernel)) rfl, px_c3 (List.mem_of_getElem? (i := 97) (by decide +kernel)) rfl⟩
theorem plX3_take : plainFor mX3_take.1 = true := by decide +kernel
def mX3_add : px_M := (yX3_add, cX3_add, 3, (some .int))
theorem okX3_add : px_okV mX3_add 2 := ⟨⟨px_c3 (List.mem_of_getElem? (i := 86) (by decide +kernel)) rfl, px_c1 (List.mem_of_getElem? (i := 5) (by decide +kernel)) rfl, by decide +kernel, by decide +kernel, by decide +kernel⟩, px_c3 (List.mem_of_getElem? (i := 84) (by decide +kernel)) rfl, px_c3 (List.mem_of_getElem? (i := 85) (by decide +kernel)) rfl⟩
theorem plX3_add : plainFor mX3_add.1 = true := by decide +kernel
def mX3_aimTest : px_M := (yX3_aimTest, cX3_aimTest, 2, none)
theorem okX3_aimTest : px_okV mX3_aimTest 1 := ⟨⟨px_c3 (List.mem_of_getElem? (i := 94) (by decide +kernel)) rfl, px_c1 (List.mem_of_getElem? (i := 5) (by decide +kernel)) rfl, by decide +kernel, by decide +kernel, by decide +kernel⟩, px_c3 (List.mem_of_getElem? (i := 92) (by decide +kernel)) rfl, px_c3 (List.mem_of_getElem? (i := 93) (by decide +kernel)) rfl⟩
theorem plX3_aimTest : plainFor mX3_aimTest.1 = true := by decide +kernel
def mX3_workOut : px_M := (yX3_workOut, cX3_workOut, 4, (some .int))
theorem okX3_workOut : px_okV mX3_workOut 0 := ⟨⟨px_c3 (List.mem_of_getElem? (i := 142) (by decide +kernel)) rfl, px_c1 (List.mem_of_getElem? (i := 5) (by decide +kernel)) rfl, by decide +kernel, by decide +kernel, by decide +kernel⟩, px_c3 (List.mem_of_getElem? (i := 140) (by decide +kernel)) rfl, px_c3 (List.mem_of_getElem? (i := 141) (by decide +kernel)) rfl⟩
theorem plX3_workOut : plainFor mX3_workOut.1 = true := by decide +kernel
def mX3_valueOf : px_M := (yX3_valueOf, cX3_valueOf, 2, (some .int))
theorem okX3_valueOf : px_okV mX3_valueOf 1 := ⟨⟨px_c3 (List.mem_of_getElem? (i := 146) (by decide +kernel)) rfl, px_c1 (List.mem_of_getElem? (i := 5) (by decide +kernel)) rfl, by decide +kernel, by decide +kernel, by decide +kernel⟩, px_c3 (List.mem_of_getElem? (i := 145) (by decide +kernel)) rfl, px_c0 (List.mem_of_getElem? (i := 17) (by decide +kernel)) rfl⟩
theorem plX3_valueOf : plainFor mX3_valueOf.1 = true := by decide +kernel
def mX3_join : px_M := (yX3_join, cX3_join, 3, (some .int))
theorem okX3_join : px_okS mX3_join 3 := ⟨⟨px_c3 (List.mem_of_getElem? (i := 152) (by decide +kernel)) rfl, px_c1 (List.mem_of_getElem? (i := 5) (by decide +kernel)) rfl, by decide +kernel, by decide +kernel, by decide +kernel⟩, px_c3 (List.mem_of_getElem? (i := 151) (by decide +kernel)) rfl⟩
theorem plX3_join : plainFor mX3_join.1 = true := by decide +kernel
def mX4_init : px_M := (yX4_init, cX4_init, 3, none)
theorem okX4_init : px_okI mX4_init 2 := ⟨⟨px_c1 (List.mem_of_getElem? (i := 139) (by decide +kernel)) rfl, px_c1 (List.mem_of_getElem? (i := 4) (by decide +kernel)) rfl, by decide +kernel, by decide +kernel, by decide +kernel⟩, px_c1 (List.mem_of_getElem? (i := 138) (by decide +kernel)) rfl, rfl, rfl⟩
theorem plX4_init : plainFor mX4_init.1 = true := by decide +kernel
def mX4_mayBe : px_M := (yX4_mayBe, cX4_mayBe, 2, (some .boolean))
theorem okX4_mayBe : px_okS mX4_mayBe 2 := ⟨⟨px_c2 (List.mem_of_getElem? (i := 213) (by decide +kernel)) rfl, px_c1 (List.mem_of_getElem? (i := 4) (by decide +kernel)) rfl, by decide +kernel, by decide +kernel, by decide +kernel⟩, px_c2 (List.mem_of_getElem? (i := 212) (by decide +kernel)) rfl⟩
theorem plX4_mayBe : plainFor mX4_mayBe.1 = true := by decide +kernel
def mX4_isThere : px_M := (yX4_isThere, cX4_isThere, 3, (some .boolean))
theorem okX4_isThere : px_okV mX4_isThere 2 := ⟨⟨px_c2 (List.mem_of_getElem? (i := 230) (by decide +kernel)) rfl, px_c1 (List.mem_of_getElem? (i := 4) (by decide +kernel)) rfl, by decide +kernel, by decide +kernel, by decide +kernel⟩, px_c2 (List.mem_of_getElem? (i := 228) (by decide +kernel)) rfl, px_c2 (List.mem_of_getElem? (i := 229) (by decide +kernel)) rfl⟩
theorem plX4_isThere : plainFor mX4_isThere.1 = true := by decide +kernel
def mX4_read : px_M := (yX4_read, cX4_read, 3, (some .int))
theorem okX4_read : px_okV mX4_read 2 := ⟨⟨px_c2 (List.mem_of_getElem? (i := 236) (by decide +kernel)) rfl, px_c1 (List.mem_of_getElem? (i := 4) (by decide +kernel)) rfl, by decide +kernel, by decide +kernel, by decide +kernel⟩, px_c2 (List.mem_of_getElem? (i := 234) (by decide +kernel)) rfl, px_c2 (List.mem_of_getElem? (i := 235) (by decide +kernel)) rfl⟩
theorem plX4_read : plainFor mX4_read.1 = true := by decide +kernel
def mX4_write : px_M := (yX4_write, cX4_write, 4, none)
theorem okX4_write : px_okV mX4_write 3 := ⟨⟨px_c3 (List.mem_of_getElem? (i := 16) (by decide +kernel)) rfl, px_c1 (List.mem_of_getElem? (i := 4) (by decide +kernel)) rfl, by decide +kernel, by decide +kernel, by decide +kernel⟩, px_c3 (List.mem_of_getElem? (i := 14) (by decide +kernel)) rfl, px_c3 (List.mem_of_getElem? (i := 15) (by decide +kernel)) rfl⟩
theorem plX4_write : plainFor mX4_write.1 = true := by decide +kernel
def mX4_listOf : px_M := (yX4_listOf, cX4_listOf, 2, (some (.array .int)))
theorem okX4_listOf : px_okV mX4_listOf 1 := ⟨⟨px_c3 (List.mem_of_getElem? (i := 1) (by decide +kernel)) rfl, px_c1 (List.mem_of_getElem? (i := 4) (by decide +kernel)) rfl, by decide +kernel, by decide +kernel, by decide +kernel⟩, px_c3 (List.mem_of_getElem? (i := 0) (by decide +kernel)) rfl, px_c0 (List.mem_of_getElem? (i := 3) (by decide +kernel)) rfl⟩
theorem plX4_listOf : plainFor mX4_listOf.1 = true := by decide +kernel
def mX5_init : px_M := (yX5_init, cX5_init, 2, none)
theorem okX5_init : px_okI mX5_init 0 := ⟨⟨px_c1 (List.mem_of_getElem? (i := 175) (by decide +kernel)) rfl, px_c1 (List.mem_of_getElem? (i := 6) (by decide +kernel)) rfl, by decide +kernel, by decide +kernel, by decide +kernel⟩, px_c1 (List.mem_of_getElem? (i := 174) (by decide +kernel)) rfl, rfl, rfl⟩
theorem plX5_init : plainFor mX5_init.1 = true := by decide +kernel
def mX5_isShelf : px_M := (yX5_isShelf, cX5_isShelf, 1, (some .boolean))
theorem okX5_isShelf : px_okS mX5_isShelf 1 := ⟨⟨px_c2 (List.mem_of_getElem? (i := 185) (by decide +kernel)) rfl, px_c1 (List.mem_of_getElem? (i := 6) (by decide +kernel)) rfl, by decide +kernel, by decide +kernel, by decide +kernel⟩, px_c2 (List.mem_of_getElem? (i := 184) (by decide +kernel)) rfl⟩
theorem plX5_isShelf : plainFor mX5_isShelf.1 = true := by decide +kernel
def mX5_isEmpty : px_M := (yX5_isEmpty, cX5_isEmpty, 2, (some .boolean))
theorem okX5_isEmpty : px_okV mX5_isEmpty 1 := ⟨⟨px_c2 (List.mem_of_getElem? (i := 189) (by decide +kernel)) rfl, px_c1 (List.mem_of_getElem? (i := 6) (by decide +kernel)) rfl, by decide +kernel, by decide +kernel, by decide +kernel⟩, px_c2 (List.mem_of_getElem? (i := 187) (by decide +kernel)) rfl, px_c2 (List.mem_of_getElem? (i := 188) (by decide +kernel)) rfl⟩
theorem plX5_isEmpty : plainFor mX5_isEmpty.1 = true := by decide +kernel
def mX5_isRow : px_M := (yX5_isRow, cX5_isRow, 2, (some .boolean))
theorem okX5_isRow : px_okV mX5_isRow 1 := ⟨⟨px_c2 (List.mem_of_getElem? (i := 193) (by decide +kernel)) rfl, px_c1 (List.mem_of_getElem? (i := 6) (by decide +kernel)) rfl, by decide +kernel, by decide +kernel, by decide +kernel⟩, px_c2 (List.mem_of_getElem? (i := 192) (by decide +kernel)) rfl, px_c0 (List.mem_of_getElem? (i := 1) (by decide +kernel)) rfl⟩
theorem plX5_isRow : plainFor mX5_isRow.1 = true := by decide +kernel
def mX5_bodyOn : px_M := (yX5_bodyOn, cX5_bodyOn, 2, (some .int))
theorem okX5_bodyOn : px_okV mX5_bodyOn 1 := ⟨⟨px_c5 (List.mem_of_getElem? (i := 72) (by decide +kernel)) rfl, px_c1 (List.mem_of_getElem? (i := 6) (by decide +kernel)) rfl, by decide +kernel, by decide +kernel, by decide +kernel⟩, px_c5 (List.mem_of_getElem? (i := 70) (by decide +kernel)) rfl, px_c5 (List.mem_of_getElem? (i := 71) (by decide +kernel)) rfl⟩
theorem plX5_bodyOn : plainFor mX5_bodyOn.1 = true := by decide +kernel
def mX5_lengthOf : px_M := (yX5_lengthOf, cX5_lengthOf, 2, (some .int))
theorem okX5_lengthOf : px_okV mX5_lengthOf 1 := ⟨⟨px_c2 (List.mem_of_getElem? (i := 201) (by decide +kernel)) rfl, px_c1 (List.mem_of_getElem? (i := 6) (by decide +kernel)) rfl, by decide +kernel, by decide +kernel, by decide +kernel⟩, px_c2 (List.mem_of_getElem? (i := 199) (by decide +kernel)) rfl, px_c2 (List.mem_of_getElem? (i := 200) (by decide +kernel)) rfl⟩
theorem plX5_lengthOf : plainFor mX5_lengthOf.1 = true := by decide +kernel
def mX5_empty : px_M := (yX5_empty, cX5_empty, 2, none)
theorem okX5_empty : px_okV mX5_empty 1 := ⟨⟨px_c5 (List.mem_of_getElem? (i := 16) (by decide +kernel)) rfl, px_c1 (List.mem_of_getElem? (i := 6) (by decide +kernel)) rfl, by decide +kernel, by decide +kernel, by decide +kernel⟩, px_c5 (List.mem_of_getElem? (i := 14) (by decide +kernel)) rfl, px_c5 (List.mem_of_getElem? (i := 15) (by decide +kernel)) rfl⟩
theorem plX5_empty : plainFor mX5_empty.1 = true := by decide +kernel
def mX5_layBody : px_M := (yX5_layBody, cX5_layBody, 3, none)
theorem okX5_layBody : px_okV mX5_layBody 2 := ⟨⟨px_c5 (List.mem_of_getElem? (i := 21) (by decide +kernel)) rfl, px_c1 (List.mem_of_getElem? (i := 6) (by decide +kernel)) rfl, by decide +kernel, by decide +kernel, by decide +kernel⟩, px_c5 (List.mem_of_getElem? (i := 19) (by decide +kernel)) rfl, px_c5 (List.mem_of_getElem? (i := 20) (by decide +kernel)) rfl⟩
theorem plX5_layBody : plainFor mX5_layBody.1 = true := by decide +kernel
def mX5_layRow : px_M := (yX5_layRow, cX5_layRow, 5, none)
theorem okX5_layRow : px_okV mX5_layRow 3 := ⟨⟨px_c5 (List.mem_of_getElem? (i := 29) (by decide +kernel)) rfl, px_c1 (List.mem_of_getElem? (i := 6) (by decide +kernel)) rfl, by decide +kernel, by decide +kernel, by decide +kernel⟩, px_c5 (List.mem_of_getElem? (i := 27) (by decide +kernel)) rfl, px_c5 (List.mem_of_getElem? (i := 28) (by decide +kernel)) rfl⟩
theorem plX5_layRow : plainFor mX5_layRow.1 = true := by decide +kernel
def mX5_refuseRow : px_M := (yX5_refuseRow, cX5_refuseRow, 2, (some .int))
theorem okX5_refuseRow : px_okV mX5_refuseRow 1 := ⟨⟨px_c2 (List.mem_of_getElem? (i := 182) (by decide +kernel)) rfl, px_c1 (List.mem_of_getElem? (i := 6) (by decide +kernel)) rfl, by decide +kernel, by decide +kernel, by decide +kernel⟩, px_c2 (List.mem_of_getElem? (i := 181) (by decide +kernel)) rfl, px_c0 (List.mem_of_getElem? (i := 0) (by decide +kernel)) rfl⟩
theorem plX5_refuseRow : plainFor mX5_refuseRow.1 = true := by decide +kernel
def mX5_refuseBytes : px_M := (yX5_refuseBytes, cX5_refuseBytes, 3, (some .int))
theorem okX5_refuseBytes : px_okV mX5_refuseBytes 1 := ⟨⟨px_c2 (List.mem_of_getElem? (i := 178) (by decide +kernel)) rfl, px_c1 (List.mem_of_getElem? (i := 6) (by decide +kernel)) rfl, by decide +kernel, by decide +kernel, by decide +kernel⟩, px_c2 (List.mem_of_getElem? (i := 176) (by decide +kernel)) rfl, px_c2 (List.mem_of_getElem? (i := 177) (by decide +kernel)) rfl⟩
theorem plX5_refuseBytes : plainFor mX5_refuseBytes.1 = true := by decide +kernel
def mX5_refusePlace : px_M := (yX5_refusePlace, cX5_refusePlace, 4, (some .int))
theorem okX5_refusePlace : px_okV mX5_refusePlace 2 := ⟨⟨px_c5 (List.mem_of_getElem? (i := 37) (by decide +kernel)) rfl, px_c1 (List.mem_of_getElem? (i := 6) (by decide +kernel)) rfl, by decide +kernel, by decide +kernel, by decide +kernel⟩, px_c5 (List.mem_of_getElem? (i := 35) (by decide +kernel)) rfl, px_c5 (List.mem_of_getElem? (i := 36) (by decide +kernel)) rfl⟩
theorem plX5_refusePlace : plainFor mX5_refusePlace.1 = true := by decide +kernel
def mX5_refusePair : px_M := (yX5_refusePair, cX5_refusePair, 3, (some .int))
theorem okX5_refusePair : px_okV mX5_refusePair 2 := ⟨⟨px_c5 (List.mem_of_getElem? (i := 57) (by decide +kernel)) rfl, px_c1 (List.mem_of_getElem? (i := 6) (by decide +kernel)) rfl, by decide +kernel, by decide +kernel, by decide +kernel⟩, px_c5 (List.mem_of_getElem? (i := 55) (by decide +kernel)) rfl, px_c5 (List.mem_of_getElem? (i := 56) (by decide +kernel)) rfl⟩
theorem plX5_refusePair : plainFor mX5_refusePair.1 = true := by decide +kernel
def mX5_hasRun : px_M := (yX5_hasRun, cX5_hasRun, 4, (some .boolean))
theorem okX5_hasRun : px_okV mX5_hasRun 3 := ⟨⟨px_c2 (List.mem_of_getElem? (i := 209) (by decide +kernel)) rfl, px_c1 (List.mem_of_getElem? (i := 6) (by decide +kernel)) rfl, by decide +kernel, by decide +kernel, by decide +kernel⟩, px_c2 (List.mem_of_getElem? (i := 207) (by decide +kernel)) rfl, px_c2 (List.mem_of_getElem? (i := 208) (by decide +kernel)) rfl⟩
theorem plX5_hasRun : plainFor mX5_hasRun.1 = true := by decide +kernel
def mX5_cell : px_M := (yX5_cell, cX5_cell, 3, (some .long))
theorem okX5_cell : px_okV mX5_cell 2 := ⟨⟨px_c2 (List.mem_of_getElem? (i := 205) (by decide +kernel)) rfl, px_c1 (List.mem_of_getElem? (i := 6) (by decide +kernel)) rfl, by decide +kernel, by decide +kernel, by decide +kernel⟩, px_c2 (List.mem_of_getElem? (i := 203) (by decide +kernel)) rfl, px_c2 (List.mem_of_getElem? (i := 204) (by decide +kernel)) rfl⟩
theorem plX5_cell : plainFor mX5_cell.1 = true := by decide +kernel
def mX5_setCell : px_M := (yX5_setCell, cX5_setCell, 5, none)
theorem okX5_setCell : px_okV mX5_setCell 3 := ⟨⟨px_c5 (List.mem_of_getElem? (i := 41) (by decide +kernel)) rfl, px_c1 (List.mem_of_getElem? (i := 6) (by decide +kernel)) rfl, by decide +kernel, by decide +kernel, by decide +kernel⟩, px_c5 (List.mem_of_getElem? (i := 39) (by decide +kernel)) rfl, px_c5 (List.mem_of_getElem? (i := 40) (by decide +kernel)) rfl⟩
theorem plX5_setCell : plainFor mX5_setCell.1 = true := by decide +kernel
def mX5_copyRun : px_M := (yX5_copyRun, cX5_copyRun, 6, none)
theorem okX5_copyRun : px_okV mX5_copyRun 5 := ⟨⟨px_c5 (List.mem_of_getElem? (i := 62) (by decide +kernel)) rfl, px_c1 (List.mem_of_getElem? (i := 6) (by decide +kernel)) rfl, by decide +kernel, by decide +kernel, by decide +kernel⟩, px_c5 (List.mem_of_getElem? (i := 60) (by decide +kernel)) rfl, px_c5 (List.mem_of_getElem? (i := 61) (by decide +kernel)) rfl⟩
theorem plX5_copyRun : plainFor mX5_copyRun.1 = true := by decide +kernel
def mX5_cut : px_M := (yX5_cut, cX5_cut, 3, (some .long))
theorem okX5_cut : px_okS mX5_cut 2 := ⟨⟨px_c5 (List.mem_of_getElem? (i := 44) (by decide +kernel)) rfl, px_c1 (List.mem_of_getElem? (i := 6) (by decide +kernel)) rfl, by decide +kernel, by decide +kernel, by decide +kernel⟩, px_c5 (List.mem_of_getElem? (i := 43) (by decide +kernel)) rfl⟩
theorem plX5_cut : plainFor mX5_cut.1 = true := by decide +kernel
def mX6_init : px_M := (yX6_init, cX6_init, 4, none)
theorem okX6_init : px_okI mX6_init 3 := ⟨⟨px_c2 (List.mem_of_getElem? (i := 8) (by decide +kernel)) rfl, px_c1 (List.mem_of_getElem? (i := 9) (by decide +kernel)) rfl, by decide +kernel, by decide +kernel, by decide +kernel⟩, px_c2 (List.mem_of_getElem? (i := 7) (by decide +kernel)) rfl, rfl, rfl⟩
theorem plX6_init : plainFor mX6_init.1 = true := by decide +kernel
def mX6_howMuch : px_M := (yX6_howMuch, cX6_howMuch, 6, (some .int))
theorem okX6_howMuch : px_okV mX6_howMuch 2 := ⟨⟨px_c3 (List.mem_of_getElem? (i := 115) (by decide +kernel)) rfl, px_c1 (List.mem_of_getElem? (i := 9) (by decide +kernel)) rfl, by decide +kernel, by decide +kernel, by decide +kernel⟩, px_c3 (List.mem_of_getElem? (i := 113) (by decide +kernel)) rfl, px_c3 (List.mem_of_getElem? (i := 114) (by decide +kernel)) rfl⟩
theorem plX6_howMuch : plainFor mX6_howMuch.1 = true := by decide +kernel
def mX6_byText : px_M := (yX6_byText, cX6_byText, 5, (some .int))
theorem okX6_byText : px_okV mX6_byText 3 := ⟨⟨px_c3 (List.mem_of_getElem? (i := 138) (by decide +kernel)) rfl, px_c1 (List.mem_of_getElem? (i := 9) (by decide +kernel)) rfl, by decide +kernel, by decide +kernel, by decide +kernel⟩, px_c3 (List.mem_of_getElem? (i := 137) (by decide +kernel)) rfl, px_c0 (List.mem_of_getElem? (i := 16) (by decide +kernel)) rfl⟩
theorem plX6_byText : plainFor mX6_byText.1 = true := by decide +kernel
def mX6_othersRunning : px_M := (yX6_othersRunning, cX6_othersRunning, 4, (some .int))
theorem okX6_othersRunning : px_okV mX6_othersRunning 1 := ⟨⟨px_c3 (List.mem_of_getElem? (i := 126) (by decide +kernel)) rfl, px_c1 (List.mem_of_getElem? (i := 9) (by decide +kernel)) rfl, by decide +kernel, by decide +kernel, by decide +kernel⟩, px_c3 (List.mem_of_getElem? (i := 125) (by decide +kernel)) rfl, px_c0 (List.mem_of_getElem? (i := 15) (by decide +kernel)) rfl⟩
theorem plX6_othersRunning : plainFor mX6_othersRunning.1 = true := by decide +kernel
def mX6_housesSmelling : px_M := (yX6_housesSmelling, cX6_housesSmelling, 4, (some .int))
theorem okX6_housesSmelling : px_okV mX6_housesSmelling 1 := ⟨⟨px_c3 (List.mem_of_getElem? (i := 164) (by decide +kernel)) rfl, px_c1 (List.mem_of_getElem? (i := 9) (by decide +kernel)) rfl, by decide +kernel, by decide +kernel, by decide +kernel⟩, px_c3 (List.mem_of_getElem? (i := 162) (by decide +kernel)) rfl, px_c3 (List.mem_of_getElem? (i := 163) (by decide +kernel)) rfl⟩
theorem plX6_housesSmelling : plainFor mX6_housesSmelling.1 = true := by decide +kernel
def mX6_fewestShut : px_M := (yX6_fewestShut, cX6_fewestShut, 3, (some .int))
theorem okX6_fewestShut : px_okV mX6_fewestShut 0 := ⟨⟨px_c3 (List.mem_of_getElem? (i := 174) (by decide +kernel)) rfl, px_c1 (List.mem_of_getElem? (i := 9) (by decide +kernel)) rfl, by decide +kernel, by decide +kernel, by decide +kernel⟩, px_c3 (List.mem_of_getElem? (i := 172) (by decide +kernel)) rfl, px_c3 (List.mem_of_getElem? (i := 173) (by decide +kernel)) rfl⟩
theorem plX6_fewestShut : plainFor mX6_fewestShut.1 = true := by decide +kernel
def mX6_holdsIn : px_M := (yX6_holdsIn, cX6_holdsIn, 4, (some .boolean))
theorem okX6_holdsIn : px_okV mX6_holdsIn 1 := ⟨⟨px_c3 (List.mem_of_getElem? (i := 185) (by decide +kernel)) rfl, px_c1 (List.mem_of_getElem? (i := 9) (by decide +kernel)) rfl, by decide +kernel, by decide +kernel, by decide +kernel⟩, px_c3 (List.mem_of_getElem? (i := 184) (by decide +kernel)) rfl, px_c0 (List.mem_of_getElem? (i := 18) (by decide +kernel)) rfl⟩
theorem plX6_holdsIn : plainFor mX6_holdsIn.1 = true := by decide +kernel
def mX6_smeltWhereLived : px_M := (yX6_smeltWhereLived, cX6_smeltWhereLived, 4, (some .int))
theorem okX6_smeltWhereLived : px_okV mX6_smeltWhereLived 0 := ⟨⟨px_c4 (List.mem_of_getElem? (i := 169) (by decide +kernel)) rfl, px_c1 (List.mem_of_getElem? (i := 9) (by decide +kernel)) rfl, by decide +kernel, by decide +kernel, by decide +kernel⟩, px_c4 (List.mem_of_getElem? (i := 167) (by decide +kernel)) rfl, px_c4 (List.mem_of_getElem? (i := 168) (by decide +kernel)) rfl⟩
theorem plX6_smeltWhereLived : plainFor mX6_smeltWhereLived.1 = true := by decide +kernel
def mX7_init : px_M := (yX7_init, cX7_init, 1, none)
theorem okX7_init : px_okI mX7_init 0 := ⟨⟨px_c1 (List.mem_of_getElem? (i := 29) (by decide +kernel)) rfl, px_c1 (List.mem_of_getElem? (i := 2) (by decide +kernel)) rfl, by decide +kernel, by decide +kernel, by decide +kernel⟩, px_c1 (List.mem_of_getElem? (i := 28) (by decide +kernel)) rfl, rfl, rfl⟩
theorem plX7_init : plainFor mX7_init.1 = true := by decide +kernel
def mX7_isPerson : px_M := (yX7_isPerson, cX7_isPerson, 2, (some .boolean))
theorem okX7_isPerson : px_okV mX7_isPerson 1 := ⟨⟨px_c2 (List.mem_of_getElem? (i := 166) (by decide +kernel)) rfl, px_c1 (List.mem_of_getElem? (i := 2) (by decide +kernel)) rfl, by decide +kernel, by decide +kernel, by decide +kernel⟩, px_c2 (List.mem_of_getElem? (i := 164) (by decide +kernel)) rfl, px_c2 (List.mem_of_getElem? (i := 165) (by decide +kernel)) rfl⟩
theorem plX7_isPerson : plainFor mX7_isPerson.1 = true := by decide +kernel
def mX7_isJoy : px_M := (yX7_isJoy, cX7_isJoy, 2, (some .boolean))
theorem okX7_isJoy : px_okV mX7_isJoy 1 := ⟨⟨px_c2 (List.mem_of_getElem? (i := 222) (by decide +kernel)) rfl, px_c1 (List.mem_of_getElem? (i := 2) (by decide +kernel)) rfl, by decide +kernel, by decide +kernel, by decide +kernel⟩, px_c2 (List.mem_of_getElem? (i := 220) (by decide +kernel)) rfl, px_c2 (List.mem_of_getElem? (i := 221) (by decide +kernel)) rfl⟩
theorem plX7_isJoy : plainFor mX7_isJoy.1 = true := by decide +kernel
def mX7_addJoy : px_M := (yX7_addJoy, cX7_addJoy, 3, (some .int))
theorem okX7_addJoy : px_okV mX7_addJoy 2 := ⟨⟨px_c2 (List.mem_of_getElem? (i := 170) (by decide +kernel)) rfl, px_c1 (List.mem_of_getElem? (i := 2) (by decide +kernel)) rfl, by decide +kernel, by decide +kernel, by decide +kernel⟩, px_c2 (List.mem_of_getElem? (i := 168) (by decide +kernel)) rfl, px_c2 (List.mem_of_getElem? (i := 169) (by decide +kernel)) rfl⟩
theorem plX7_addJoy : plainFor mX7_addJoy.1 = true := by decide +kernel
def mX8_init : px_M := (yX8_init, cX8_init, 1, none)
theorem okX8_init : px_okI mX8_init 0 := ⟨⟨px_c1 (List.mem_of_getElem? (i := 222) (by decide +kernel)) rfl, px_c1 (List.mem_of_getElem? (i := 8) (by decide +kernel)) rfl, by decide +kernel, by decide +kernel, by decide +kernel⟩, px_c1 (List.mem_of_getElem? (i := 221) (by decide +kernel)) rfl, rfl, rfl⟩
theorem plX8_init : plainFor mX8_init.1 = true := by decide +kernel
def mX8_append : px_M := (yX8_append, cX8_append, 2, (some .boolean))
theorem okX8_append : px_okV mX8_append 1 := ⟨⟨px_c3 (List.mem_of_getElem? (i := 28) (by decide +kernel)) rfl, px_c1 (List.mem_of_getElem? (i := 8) (by decide +kernel)) rfl, by decide +kernel, by decide +kernel, by decide +kernel⟩, px_c3 (List.mem_of_getElem? (i := 26) (by decide +kernel)) rfl, px_c3 (List.mem_of_getElem? (i := 27) (by decide +kernel)) rfl⟩
theorem plX8_append : plainFor mX8_append.1 = true := by decide +kernel
def mX8_readLaw : px_M := (yX8_readLaw, cX8_readLaw, 2, (some .int))
theorem okX8_readLaw : px_okV mX8_readLaw 0 := ⟨⟨px_c3 (List.mem_of_getElem? (i := 36) (by decide +kernel)) rfl, px_c1 (List.mem_of_getElem? (i := 8) (by decide +kernel)) rfl, by decide +kernel, by decide +kernel, by decide +kernel⟩, px_c3 (List.mem_of_getElem? (i := 34) (by decide +kernel)) rfl, px_c3 (List.mem_of_getElem? (i := 35) (by decide +kernel)) rfl⟩
theorem plX8_readLaw : plainFor mX8_readLaw.1 = true := by decide +kernel
def mX8_next : px_M := (yX8_next, cX8_next, 1, (some .int))
theorem okX8_next : px_okV mX8_next 0 := ⟨⟨px_c3 (List.mem_of_getElem? (i := 72) (by decide +kernel)) rfl, px_c1 (List.mem_of_getElem? (i := 8) (by decide +kernel)) rfl, by decide +kernel, by decide +kernel, by decide +kernel⟩, px_c3 (List.mem_of_getElem? (i := 71) (by decide +kernel)) rfl, px_c0 (List.mem_of_getElem? (i := 12) (by decide +kernel)) rfl⟩
theorem plX8_next : plainFor mX8_next.1 = true := by decide +kernel
def mX8_takes : px_M := (yX8_takes, cX8_takes, 2, (some .boolean))
theorem okX8_takes : px_okV mX8_takes 1 := ⟨⟨px_c3 (List.mem_of_getElem? (i := 90) (by decide +kernel)) rfl, px_c1 (List.mem_of_getElem? (i := 8) (by decide +kernel)) rfl, by decide +kernel, by decide +kernel, by decide +kernel⟩, px_c3 (List.mem_of_getElem? (i := 89) (by decide +kernel)) rfl, px_c0 (List.mem_of_getElem? (i := 14) (by decide +kernel)) rfl⟩
theorem plX8_takes : plainFor mX8_takes.1 = true := by decide +kernel
def mX8_readLine : px_M := (yX8_readLine, cX8_readLine, 2, none)
theorem okX8_readLine : px_okV mX8_readLine 0 := ⟨⟨px_c3 (List.mem_of_getElem? (i := 44) (by decide +kernel)) rfl, px_c1 (List.mem_of_getElem? (i := 8) (by decide +kernel)) rfl, by decide +kernel, by decide +kernel, by decide +kernel⟩, px_c3 (List.mem_of_getElem? (i := 43) (by decide +kernel)) rfl, px_c0 (List.mem_of_getElem? (i := 5) (by decide +kernel)) rfl⟩
theorem plX8_readLine : plainFor mX8_readLine.1 = true := by decide +kernel
def mX8_readEither : px_M := (yX8_readEither, cX8_readEither, 3, none)
theorem okX8_readEither : px_okV mX8_readEither 1 := ⟨⟨px_c3 (List.mem_of_getElem? (i := 48) (by decide +kernel)) rfl, px_c1 (List.mem_of_getElem? (i := 8) (by decide +kernel)) rfl, by decide +kernel, by decide +kernel, by decide +kernel⟩, px_c3 (List.mem_of_getElem? (i := 47) (by decide +kernel)) rfl, px_c0 (List.mem_of_getElem? (i := 6) (by decide +kernel)) rfl⟩
theorem plX8_readEither : plainFor mX8_readEither.1 = true := by decide +kernel
def mX8_readBoth : px_M := (yX8_readBoth, cX8_readBoth, 3, none)
theorem okX8_readBoth : px_okV mX8_readBoth 1 := ⟨⟨px_c3 (List.mem_of_getElem? (i := 52) (by decide +kernel)) rfl, px_c1 (List.mem_of_getElem? (i := 8) (by decide +kernel)) rfl, by decide +kernel, by decide +kernel, by decide +kernel⟩, px_c3 (List.mem_of_getElem? (i := 51) (by decide +kernel)) rfl, px_c0 (List.mem_of_getElem? (i := 7) (by decide +kernel)) rfl⟩
theorem plX8_readBoth : plainFor mX8_readBoth.1 = true := by decide +kernel
def mX8_readCompared : px_M := (yX8_readCompared, cX8_readCompared, 3, none)
theorem okX8_readCompared : px_okV mX8_readCompared 1 := ⟨⟨px_c3 (List.mem_of_getElem? (i := 56) (by decide +kernel)) rfl, px_c1 (List.mem_of_getElem? (i := 8) (by decide +kernel)) rfl, by decide +kernel, by decide +kernel, by decide +kernel⟩, px_c3 (List.mem_of_getElem? (i := 55) (by decide +kernel)) rfl, px_c0 (List.mem_of_getElem? (i := 8) (by decide +kernel)) rfl⟩
theorem plX8_readCompared : plainFor mX8_readCompared.1 = true := by decide +kernel
def mX8_readSum : px_M := (yX8_readSum, cX8_readSum, 4, none)
theorem okX8_readSum : px_okV mX8_readSum 1 := ⟨⟨px_c3 (List.mem_of_getElem? (i := 60) (by decide +kernel)) rfl, px_c1 (List.mem_of_getElem? (i := 8) (by decide +kernel)) rfl, by decide +kernel, by decide +kernel, by decide +kernel⟩, px_c3 (List.mem_of_getElem? (i := 59) (by decide +kernel)) rfl, px_c0 (List.mem_of_getElem? (i := 9) (by decide +kernel)) rfl⟩
theorem plX8_readSum : plainFor mX8_readSum.1 = true := by decide +kernel
def mX8_readProduct : px_M := (yX8_readProduct, cX8_readProduct, 4, none)
theorem okX8_readProduct : px_okV mX8_readProduct 1 := ⟨⟨px_c3 (List.mem_of_getElem? (i := 64) (by decide +kernel)) rfl, px_c1 (List.mem_of_getElem? (i := 8) (by decide +kernel)) rfl, by decide +kernel, by decide +kernel, by decide +kernel⟩, px_c3 (List.mem_of_getElem? (i := 63) (by decide +kernel)) rfl, px_c0 (List.mem_of_getElem? (i := 10) (by decide +kernel)) rfl⟩
theorem plX8_readProduct : plainFor mX8_readProduct.1 = true := by decide +kernel
def mX8_readOperand : px_M := (yX8_readOperand, cX8_readOperand, 3, none)
theorem okX8_readOperand : px_okV mX8_readOperand 1 := ⟨⟨px_c3 (List.mem_of_getElem? (i := 68) (by decide +kernel)) rfl, px_c1 (List.mem_of_getElem? (i := 8) (by decide +kernel)) rfl, by decide +kernel, by decide +kernel, by decide +kernel⟩, px_c3 (List.mem_of_getElem? (i := 67) (by decide +kernel)) rfl, px_c0 (List.mem_of_getElem? (i := 11) (by decide +kernel)) rfl⟩
theorem plX8_readOperand : plainFor mX8_readOperand.1 = true := by decide +kernel
def mX8_readNumber : px_M := (yX8_readNumber, cX8_readNumber, 3, none)
theorem okX8_readNumber : px_okV mX8_readNumber 0 := ⟨⟨px_c3 (List.mem_of_getElem? (i := 82) (by decide +kernel)) rfl, px_c1 (List.mem_of_getElem? (i := 8) (by decide +kernel)) rfl, by decide +kernel, by decide +kernel, by decide +kernel⟩, px_c3 (List.mem_of_getElem? (i := 81) (by decide +kernel)) rfl, px_c0 (List.mem_of_getElem? (i := 13) (by decide +kernel)) rfl⟩
theorem plX8_readNumber : plainFor mX8_readNumber.1 = true := by decide +kernel
def mX8_isDigit : px_M := (yX8_isDigit, cX8_isDigit, 1, (some .boolean))
theorem okX8_isDigit : px_okS mX8_isDigit 1 := ⟨⟨px_c3 (List.mem_of_getElem? (i := 78) (by decide +kernel)) rfl, px_c1 (List.mem_of_getElem? (i := 8) (by decide +kernel)) rfl, by decide +kernel, by decide +kernel, by decide +kernel⟩, px_c3 (List.mem_of_getElem? (i := 77) (by decide +kernel)) rfl⟩
theorem plX8_isDigit : plainFor mX8_isDigit.1 = true := by decide +kernel
def mX8_nameOf : px_M := (yX8_nameOf, cX8_nameOf, 1, (some .int))
theorem okX8_nameOf : px_okS mX8_nameOf 1 := ⟨⟨px_c3 (List.mem_of_getElem? (i := 75) (by decide +kernel)) rfl, px_c1 (List.mem_of_getElem? (i := 8) (by decide +kernel)) rfl, by decide +kernel, by decide +kernel, by decide +kernel⟩, px_c3 (List.mem_of_getElem? (i := 74) (by decide +kernel)) rfl⟩
theorem plX8_nameOf : plainFor mX8_nameOf.1 = true := by decide +kernel
def mX9_init : px_M := (yX9_init, cX9_init, 4, none)
theorem okX9_init : px_okI mX9_init 3 := ⟨⟨px_c2 (List.mem_of_getElem? (i := 27) (by decide +kernel)) rfl, px_c1 (List.mem_of_getElem? (i := 10) (by decide +kernel)) rfl, by decide +kernel, by decide +kernel, by decide +kernel⟩, px_c2 (List.mem_of_getElem? (i := 26) (by decide +kernel)) rfl, rfl, rfl⟩
theorem plX9_init : plainFor mX9_init.1 = true := by decide +kernel
def mX9_startNow : px_M := (yX9_startNow, cX9_startNow, 1, none)
theorem okX9_startNow : px_okV mX9_startNow 0 := ⟨⟨px_c3 (List.mem_of_getElem? (i := 198) (by decide +kernel)) rfl, px_c1 (List.mem_of_getElem? (i := 10) (by decide +kernel)) rfl, by decide +kernel, by decide +kernel, by decide +kernel⟩, px_c3 (List.mem_of_getElem? (i := 197) (by decide +kernel)) rfl, px_c0 (List.mem_of_getElem? (i := 19) (by decide +kernel)) rfl⟩
theorem plX9_startNow : plainFor mX9_startNow.1 = true := by decide +kernel
def mX9_behind : px_M := (yX9_behind, cX9_behind, 3, (some (.object "GladSide$Course")))
theorem okX9_behind : px_okV mX9_behind 1 := ⟨⟨px_c3 (List.mem_of_getElem? (i := 194) (by decide +kernel)) rfl, px_c1 (List.mem_of_getElem? (i := 10) (by decide +kernel)) rfl, by decide +kernel, by decide +kernel, by decide +kernel⟩, px_c3 (List.mem_of_getElem? (i := 192) (by decide +kernel)) rfl, px_c3 (List.mem_of_getElem? (i := 193) (by decide +kernel)) rfl⟩
theorem plX9_behind : plainFor mX9_behind.1 = true := by decide +kernel
def mX9_worthBehind : px_M := (yX9_worthBehind, cX9_worthBehind, 5, (some .int))
theorem okX9_worthBehind : px_okV mX9_worthBehind 3 := ⟨⟨px_c4 (List.mem_of_getElem? (i := 40) (by decide +kernel)) rfl, px_c1 (List.mem_of_getElem? (i := 10) (by decide +kernel)) rfl, by decide +kernel, by decide +kernel, by decide +kernel⟩, px_c4 (List.mem_of_getElem? (i := 39) (by decide +kernel)) rfl, px_c0 (List.mem_of_getElem? (i := 23) (by decide +kernel)) rfl⟩
theorem plX9_worthBehind : plainFor mX9_worthBehind.1 = true := by decide +kernel
def mX9_firstDayOf : px_M := (yX9_firstDayOf, cX9_firstDayOf, 4, (some .int))
theorem okX9_firstDayOf : px_okV mX9_firstDayOf 2 := ⟨⟨px_c4 (List.mem_of_getElem? (i := 27) (by decide +kernel)) rfl, px_c1 (List.mem_of_getElem? (i := 10) (by decide +kernel)) rfl, by decide +kernel, by decide +kernel, by decide +kernel⟩, px_c4 (List.mem_of_getElem? (i := 25) (by decide +kernel)) rfl, px_c4 (List.mem_of_getElem? (i := 26) (by decide +kernel)) rfl⟩
theorem plX9_firstDayOf : plainFor mX9_firstDayOf.1 = true := by decide +kernel
def mX9_seekMove : px_M := (yX9_seekMove, cX9_seekMove, 4, none)
theorem okX9_seekMove : px_okV mX9_seekMove 1 := ⟨⟨px_c4 (List.mem_of_getElem? (i := 36) (by decide +kernel)) rfl, px_c1 (List.mem_of_getElem? (i := 10) (by decide +kernel)) rfl, by decide +kernel, by decide +kernel, by decide +kernel⟩, px_c4 (List.mem_of_getElem? (i := 34) (by decide +kernel)) rfl, px_c4 (List.mem_of_getElem? (i := 35) (by decide +kernel)) rfl⟩
theorem plX9_seekMove : plainFor mX9_seekMove.1 = true := by decide +kernel
def mX9_seekDue : px_M := (yX9_seekDue, cX9_seekDue, 6, none)
theorem okX9_seekDue : px_okV mX9_seekDue 2 := ⟨⟨px_c4 (List.mem_of_getElem? (i := 59) (by decide +kernel)) rfl, px_c1 (List.mem_of_getElem? (i := 10) (by decide +kernel)) rfl, by decide +kernel, by decide +kernel, by decide +kernel⟩, px_c4 (List.mem_of_getElem? (i := 57) (by decide +kernel)) rfl, px_c4 (List.mem_of_getElem? (i := 58) (by decide +kernel)) rfl⟩
theorem plX9_seekDue : plainFor mX9_seekDue.1 = true := by decide +kernel
def mX9_firstUnlike : px_M := (yX9_firstUnlike, cX9_firstUnlike, 7, (some .int))
theorem okX9_firstUnlike : px_okV mX9_firstUnlike 2 := ⟨⟨px_c4 (List.mem_of_getElem? (i := 67) (by decide +kernel)) rfl, px_c1 (List.mem_of_getElem? (i := 10) (by decide +kernel)) rfl, by decide +kernel, by decide +kernel, by decide +kernel⟩, px_c4 (List.mem_of_getElem? (i := 65) (by decide +kernel)) rfl, px_c4 (List.mem_of_getElem? (i := 66) (by decide +kernel)) rfl⟩
theorem plX9_firstUnlike : plainFor mX9_firstUnlike.1 = true := by decide +kernel
def mX9_seekFits : px_M := (yX9_seekFits, cX9_seekFits, 8, none)
theorem okX9_seekFits : px_okV mX9_seekFits 5 := ⟨⟨px_c4 (List.mem_of_getElem? (i := 80) (by decide +kernel)) rfl, px_c1 (List.mem_of_getElem? (i := 10) (by decide +kernel)) rfl, by decide +kernel, by decide +kernel, by decide +kernel⟩, px_c4 (List.mem_of_getElem? (i := 78) (by decide +kernel)) rfl, px_c4 (List.mem_of_getElem? (i := 79) (by decide +kernel)) rfl⟩
theorem plX9_seekFits : plainFor mX9_seekFits.1 = true := by decide +kernel
def mX9_drawLanes : px_M := (yX9_drawLanes, cX9_drawLanes, 10, (some .int))
theorem okX9_drawLanes : px_okV mX9_drawLanes 5 := ⟨⟨px_c4 (List.mem_of_getElem? (i := 146) (by decide +kernel)) rfl, px_c1 (List.mem_of_getElem? (i := 10) (by decide +kernel)) rfl, by decide +kernel, by decide +kernel, by decide +kernel⟩, px_c4 (List.mem_of_getElem? (i := 144) (by decide +kernel)) rfl, px_c4 (List.mem_of_getElem? (i := 145) (by decide +kernel)) rfl⟩
theorem plX9_drawLanes : plainFor mX9_drawLanes.1 = true := by decide +kernel
def mX9_moveByDraw : px_M := (yX9_moveByDraw, cX9_moveByDraw, 4, none)
theorem okX9_moveByDraw : px_okV mX9_moveByDraw 2 := ⟨⟨px_c4 (List.mem_of_getElem? (i := 151) (by decide +kernel)) rfl, px_c1 (List.mem_of_getElem? (i := 10) (by decide +kernel)) rfl, by decide +kernel, by decide +kernel, by decide +kernel⟩, px_c4 (List.mem_of_getElem? (i := 150) (by decide +kernel)) rfl, px_c0 (List.mem_of_getElem? (i := 28) (by decide +kernel)) rfl⟩
theorem plX9_moveByDraw : plainFor mX9_moveByDraw.1 = true := by decide +kernel
def mX10_init : px_M := (yX10_init, cX10_init, 3, none)
theorem okX10_init : px_okI mX10_init 2 := ⟨⟨px_c2 (List.mem_of_getElem? (i := 56) (by decide +kernel)) rfl, px_c1 (List.mem_of_getElem? (i := 11) (by decide +kernel)) rfl, by decide +kernel, by decide +kernel, by decide +kernel⟩, px_c2 (List.mem_of_getElem? (i := 55) (by decide +kernel)) rfl, rfl, rfl⟩
theorem plX10_init : plainFor mX10_init.1 = true := by decide +kernel
def mX10_fewestToTurn : px_M := (yX10_fewestToTurn, cX10_fewestToTurn, 6, (some .int))
theorem okX10_fewestToTurn : px_okV mX10_fewestToTurn 1 := ⟨⟨px_c4 (List.mem_of_getElem? (i := 50) (by decide +kernel)) rfl, px_c1 (List.mem_of_getElem? (i := 11) (by decide +kernel)) rfl, by decide +kernel, by decide +kernel, by decide +kernel⟩, px_c4 (List.mem_of_getElem? (i := 48) (by decide +kernel)) rfl, px_c4 (List.mem_of_getElem? (i := 49) (by decide +kernel)) rfl⟩
theorem plX10_fewestToTurn : plainFor mX10_fewestToTurn.1 = true := by decide +kernel
def mX10_areAcross : px_M := (yX10_areAcross, cX10_areAcross, 3, (some .boolean))
theorem okX10_areAcross : px_okV mX10_areAcross 2 := ⟨⟨px_c4 (List.mem_of_getElem? (i := 105) (by decide +kernel)) rfl, px_c1 (List.mem_of_getElem? (i := 11) (by decide +kernel)) rfl, by decide +kernel, by decide +kernel, by decide +kernel⟩, px_c4 (List.mem_of_getElem? (i := 104) (by decide +kernel)) rfl, px_c0 (List.mem_of_getElem? (i := 24) (by decide +kernel)) rfl⟩
theorem plX10_areAcross : plainFor mX10_areAcross.1 = true := by decide +kernel
def mX10_nearestAcross : px_M := (yX10_nearestAcross, cX10_nearestAcross, 4, (some .int))
theorem okX10_nearestAcross : px_okV mX10_nearestAcross 1 := ⟨⟨px_c4 (List.mem_of_getElem? (i := 101) (by decide +kernel)) rfl, px_c1 (List.mem_of_getElem? (i := 11) (by decide +kernel)) rfl, by decide +kernel, by decide +kernel, by decide +kernel⟩, px_c4 (List.mem_of_getElem? (i := 99) (by decide +kernel)) rfl, px_c4 (List.mem_of_getElem? (i := 100) (by decide +kernel)) rfl⟩
theorem plX10_nearestAcross : plainFor mX10_nearestAcross.1 = true := by decide +kernel
def mX10_mostPairs : px_M := (yX10_mostPairs, cX10_mostPairs, 4, (some .int))
theorem okX10_mostPairs : px_okV mX10_mostPairs 1 := ⟨⟨px_c4 (List.mem_of_getElem? (i := 115) (by decide +kernel)) rfl, px_c1 (List.mem_of_getElem? (i := 11) (by decide +kernel)) rfl, by decide +kernel, by decide +kernel, by decide +kernel⟩, px_c4 (List.mem_of_getElem? (i := 113) (by decide +kernel)) rfl, px_c4 (List.mem_of_getElem? (i := 114) (by decide +kernel)) rfl⟩
theorem plX10_mostPairs : plainFor mX10_mostPairs.1 = true := by decide +kernel
def mX10_pairOff : px_M := (yX10_pairOff, cX10_pairOff, 7, none)
theorem okX10_pairOff : px_okV mX10_pairOff 2 := ⟨⟨px_c4 (List.mem_of_getElem? (i := 119) (by decide +kernel)) rfl, px_c1 (List.mem_of_getElem? (i := 11) (by decide +kernel)) rfl, by decide +kernel, by decide +kernel, by decide +kernel⟩, px_c4 (List.mem_of_getElem? (i := 118) (by decide +kernel)) rfl, px_c0 (List.mem_of_getElem? (i := 25) (by decide +kernel)) rfl⟩
theorem plX10_pairOff : plainFor mX10_pairOff.1 = true := by decide +kernel
def mX10_playTurns : px_M := (yX10_playTurns, cX10_playTurns, 5, none)
theorem okX10_playTurns : px_okV mX10_playTurns 1 := ⟨⟨px_c4 (List.mem_of_getElem? (i := 130) (by decide +kernel)) rfl, px_c1 (List.mem_of_getElem? (i := 11) (by decide +kernel)) rfl, by decide +kernel, by decide +kernel, by decide +kernel⟩, px_c4 (List.mem_of_getElem? (i := 128) (by decide +kernel)) rfl, px_c4 (List.mem_of_getElem? (i := 129) (by decide +kernel)) rfl⟩
theorem plX10_playTurns : plainFor mX10_playTurns.1 = true := by decide +kernel
def mX10_bestLead : px_M := (yX10_bestLead, cX10_bestLead, 7, (some .int))
theorem okX10_bestLead : px_okV mX10_bestLead 3 := ⟨⟨px_c4 (List.mem_of_getElem? (i := 134) (by decide +kernel)) rfl, px_c1 (List.mem_of_getElem? (i := 11) (by decide +kernel)) rfl, by decide +kernel, by decide +kernel, by decide +kernel⟩, px_c4 (List.mem_of_getElem? (i := 133) (by decide +kernel)) rfl, px_c0 (List.mem_of_getElem? (i := 26) (by decide +kernel)) rfl⟩
theorem plX10_bestLead : plainFor mX10_bestLead.1 = true := by decide +kernel
def mX10_leadIfMoved : px_M := (yX10_leadIfMoved, cX10_leadIfMoved, 7, (some .int))
theorem okX10_leadIfMoved : px_okV mX10_leadIfMoved 4 := ⟨⟨px_c4 (List.mem_of_getElem? (i := 138) (by decide +kernel)) rfl, px_c1 (List.mem_of_getElem? (i := 11) (by decide +kernel)) rfl, by decide +kernel, by decide +kernel, by decide +kernel⟩, px_c4 (List.mem_of_getElem? (i := 137) (by decide +kernel)) rfl, px_c0 (List.mem_of_getElem? (i := 27) (by decide +kernel)) rfl⟩
theorem plX10_leadIfMoved : plainFor mX10_leadIfMoved.1 = true := by decide +kernel
def mX11_init : px_M := (yX11_init, cX11_init, 6, none)
theorem okX11_init : px_okI mX11_init 0 := ⟨⟨px_c1 (List.mem_of_getElem? (i := 21) (by decide +kernel)) rfl, px_c1 (List.mem_of_getElem? (i := 1) (by decide +kernel)) rfl, by decide +kernel, by decide +kernel, by decide +kernel⟩, px_c1 (List.mem_of_getElem? (i := 20) (by decide +kernel)) rfl, rfl, rfl⟩
theorem plX11_init : plainFor mX11_init.1 = true := by decide +kernel
def mX11_person : px_M := (yX11_person, cX11_person, 2, (some .int))
theorem okX11_person : px_okV mX11_person 1 := ⟨⟨px_c2 (List.mem_of_getElem? (i := 155) (by decide +kernel)) rfl, px_c1 (List.mem_of_getElem? (i := 1) (by decide +kernel)) rfl, by decide +kernel, by decide +kernel, by decide +kernel⟩, px_c2 (List.mem_of_getElem? (i := 153) (by decide +kernel)) rfl, px_c2 (List.mem_of_getElem? (i := 154) (by decide +kernel)) rfl⟩
theorem plX11_person : plainFor mX11_person.1 = true := by decide +kernel
def mX11_joy : px_M := (yX11_joy, cX11_joy, 3, (some .int))
theorem okX11_joy : px_okV mX11_joy 2 := ⟨⟨px_c2 (List.mem_of_getElem? (i := 162) (by decide +kernel)) rfl, px_c1 (List.mem_of_getElem? (i := 1) (by decide +kernel)) rfl, by decide +kernel, by decide +kernel, by decide +kernel⟩, px_c2 (List.mem_of_getElem? (i := 160) (by decide +kernel)) rfl, px_c2 (List.mem_of_getElem? (i := 161) (by decide +kernel)) rfl⟩
theorem plX11_joy : plainFor mX11_joy.1 = true := by decide +kernel
def mX11_joys : px_M := (yX11_joys, cX11_joys, 7, (some .int))
theorem okX11_joys : px_okV mX11_joys 3 := ⟨⟨px_c2 (List.mem_of_getElem? (i := 174) (by decide +kernel)) rfl, px_c1 (List.mem_of_getElem? (i := 1) (by decide +kernel)) rfl, by decide +kernel, by decide +kernel, by decide +kernel⟩, px_c2 (List.mem_of_getElem? (i := 172) (by decide +kernel)) rfl, px_c2 (List.mem_of_getElem? (i := 173) (by decide +kernel)) rfl⟩
theorem plX11_joys : plainFor mX11_joys.1 = true := by decide +kernel
def mX11_joyFromRow : px_M := (yX11_joyFromRow, cX11_joyFromRow, 7, (some .boolean))
theorem okX11_joyFromRow : px_okV mX11_joyFromRow 2 := ⟨⟨px_c2 (List.mem_of_getElem? (i := 197) (by decide +kernel)) rfl, px_c1 (List.mem_of_getElem? (i := 1) (by decide +kernel)) rfl, by decide +kernel, by decide +kernel, by decide +kernel⟩, px_c2 (List.mem_of_getElem? (i := 196) (by decide +kernel)) rfl, px_c0 (List.mem_of_getElem? (i := 2) (by decide +kernel)) rfl⟩
theorem plX11_joyFromRow : plainFor mX11_joyFromRow.1 = true := by decide +kernel
def mX11_mend : px_M := (yX11_mend, cX11_mend, 5, (some .int))
theorem okX11_mend : px_okV mX11_mend 3 := ⟨⟨px_c2 (List.mem_of_getElem? (i := 226) (by decide +kernel)) rfl, px_c1 (List.mem_of_getElem? (i := 1) (by decide +kernel)) rfl, by decide +kernel, by decide +kernel, by decide +kernel⟩, px_c2 (List.mem_of_getElem? (i := 224) (by decide +kernel)) rfl, px_c2 (List.mem_of_getElem? (i := 225) (by decide +kernel)) rfl⟩
theorem plX11_mend : plainFor mX11_mend.1 = true := by decide +kernel
def mX11_of : px_M := (yX11_of, cX11_of, 3, (some .int))
theorem okX11_of : px_okV mX11_of 2 := ⟨⟨px_c3 (List.mem_of_getElem? (i := 20) (by decide +kernel)) rfl, px_c1 (List.mem_of_getElem? (i := 1) (by decide +kernel)) rfl, by decide +kernel, by decide +kernel, by decide +kernel⟩, px_c3 (List.mem_of_getElem? (i := 18) (by decide +kernel)) rfl, px_c3 (List.mem_of_getElem? (i := 19) (by decide +kernel)) rfl⟩
theorem plX11_of : plainFor mX11_of.1 = true := by decide +kernel
def mX11_feed : px_M := (yX11_feed, cX11_feed, 2, (some .int))
theorem okX11_feed : px_okV mX11_feed 1 := ⟨⟨px_c3 (List.mem_of_getElem? (i := 24) (by decide +kernel)) rfl, px_c1 (List.mem_of_getElem? (i := 1) (by decide +kernel)) rfl, by decide +kernel, by decide +kernel, by decide +kernel⟩, px_c3 (List.mem_of_getElem? (i := 22) (by decide +kernel)) rfl, px_c3 (List.mem_of_getElem? (i := 23) (by decide +kernel)) rfl⟩
theorem plX11_feed : plainFor mX11_feed.1 = true := by decide +kernel
def mX11_law : px_M := (yX11_law, cX11_law, 2, (some .int))
theorem okX11_law : px_okV mX11_law 0 := ⟨⟨px_c3 (List.mem_of_getElem? (i := 32) (by decide +kernel)) rfl, px_c1 (List.mem_of_getElem? (i := 1) (by decide +kernel)) rfl, by decide +kernel, by decide +kernel, by decide +kernel⟩, px_c3 (List.mem_of_getElem? (i := 30) (by decide +kernel)) rfl, px_c3 (List.mem_of_getElem? (i := 31) (by decide +kernel)) rfl⟩
theorem plX11_law : plainFor mX11_law.1 = true := by decide +kernel
def mX11_smell : px_M := (yX11_smell, cX11_smell, 3, (some .int))
theorem okX11_smell : px_okV mX11_smell 2 := ⟨⟨px_c3 (List.mem_of_getElem? (i := 103) (by decide +kernel)) rfl, px_c1 (List.mem_of_getElem? (i := 1) (by decide +kernel)) rfl, by decide +kernel, by decide +kernel, by decide +kernel⟩, px_c3 (List.mem_of_getElem? (i := 101) (by decide +kernel)) rfl, px_c3 (List.mem_of_getElem? (i := 102) (by decide +kernel)) rfl⟩
theorem plX11_smell : plainFor mX11_smell.1 = true := by decide +kernel
def mX11_smelt : px_M := (yX11_smelt, cX11_smelt, 2, (some .int))
theorem okX11_smelt : px_okV mX11_smelt 1 := ⟨⟨px_c3 (List.mem_of_getElem? (i := 160) (by decide +kernel)) rfl, px_c1 (List.mem_of_getElem? (i := 1) (by decide +kernel)) rfl, by decide +kernel, by decide +kernel, by decide +kernel⟩, px_c3 (List.mem_of_getElem? (i := 158) (by decide +kernel)) rfl, px_c3 (List.mem_of_getElem? (i := 159) (by decide +kernel)) rfl⟩
theorem plX11_smelt : plainFor mX11_smelt.1 = true := by decide +kernel
def mX11_shut : px_M := (yX11_shut, cX11_shut, 3, (some .int))
theorem okX11_shut : px_okV mX11_shut 1 := ⟨⟨px_c3 (List.mem_of_getElem? (i := 170) (by decide +kernel)) rfl, px_c1 (List.mem_of_getElem? (i := 1) (by decide +kernel)) rfl, by decide +kernel, by decide +kernel, by decide +kernel⟩, px_c3 (List.mem_of_getElem? (i := 168) (by decide +kernel)) rfl, px_c3 (List.mem_of_getElem? (i := 169) (by decide +kernel)) rfl⟩
theorem plX11_shut : plainFor mX11_shut.1 = true := by decide +kernel
def mX11_lane : px_M := (yX11_lane, cX11_lane, 4, (some .int))
theorem okX11_lane : px_okV mX11_lane 2 := ⟨⟨px_c3 (List.mem_of_getElem? (i := 190) (by decide +kernel)) rfl, px_c1 (List.mem_of_getElem? (i := 1) (by decide +kernel)) rfl, by decide +kernel, by decide +kernel, by decide +kernel⟩, px_c3 (List.mem_of_getElem? (i := 188) (by decide +kernel)) rfl, px_c3 (List.mem_of_getElem? (i := 189) (by decide +kernel)) rfl⟩
theorem plX11_lane : plainFor mX11_lane.1 = true := by decide +kernel
def mX11_when : px_M := (yX11_when, cX11_when, 3, (some .int))
theorem okX11_when : px_okV mX11_when 2 := ⟨⟨px_c4 (List.mem_of_getElem? (i := 23) (by decide +kernel)) rfl, px_c1 (List.mem_of_getElem? (i := 1) (by decide +kernel)) rfl, by decide +kernel, by decide +kernel, by decide +kernel⟩, px_c4 (List.mem_of_getElem? (i := 21) (by decide +kernel)) rfl, px_c4 (List.mem_of_getElem? (i := 22) (by decide +kernel)) rfl⟩
theorem plX11_when : plainFor mX11_when.1 = true := by decide +kernel
def mX11_move : px_M := (yX11_move, cX11_move, 3, (some .int))
theorem okX11_move : px_okV mX11_move 2 := ⟨⟨px_c4 (List.mem_of_getElem? (i := 32) (by decide +kernel)) rfl, px_c1 (List.mem_of_getElem? (i := 1) (by decide +kernel)) rfl, by decide +kernel, by decide +kernel, by decide +kernel⟩, px_c4 (List.mem_of_getElem? (i := 30) (by decide +kernel)) rfl, px_c4 (List.mem_of_getElem? (i := 31) (by decide +kernel)) rfl⟩
theorem plX11_move : plainFor mX11_move.1 = true := by decide +kernel
def mX11_over : px_M := (yX11_over, cX11_over, 2, (some .int))
theorem okX11_over : px_okV mX11_over 1 := ⟨⟨px_c4 (List.mem_of_getElem? (i := 46) (by decide +kernel)) rfl, px_c1 (List.mem_of_getElem? (i := 1) (by decide +kernel)) rfl, by decide +kernel, by decide +kernel, by decide +kernel⟩, px_c4 (List.mem_of_getElem? (i := 44) (by decide +kernel)) rfl, px_c4 (List.mem_of_getElem? (i := 45) (by decide +kernel)) rfl⟩
theorem plX11_over : plainFor mX11_over.1 = true := by decide +kernel
def mX11_date : px_M := (yX11_date, cX11_date, 4, (some .int))
theorem okX11_date : px_okV mX11_date 3 := ⟨⟨px_c4 (List.mem_of_getElem? (i := 55) (by decide +kernel)) rfl, px_c1 (List.mem_of_getElem? (i := 1) (by decide +kernel)) rfl, by decide +kernel, by decide +kernel, by decide +kernel⟩, px_c4 (List.mem_of_getElem? (i := 53) (by decide +kernel)) rfl, px_c4 (List.mem_of_getElem? (i := 54) (by decide +kernel)) rfl⟩
theorem plX11_date : plainFor mX11_date.1 = true := by decide +kernel
def mX11_judge : px_M := (yX11_judge, cX11_judge, 4, (some .int))
theorem okX11_judge : px_okV mX11_judge 2 := ⟨⟨px_c4 (List.mem_of_getElem? (i := 63) (by decide +kernel)) rfl, px_c1 (List.mem_of_getElem? (i := 1) (by decide +kernel)) rfl, by decide +kernel, by decide +kernel, by decide +kernel⟩, px_c4 (List.mem_of_getElem? (i := 61) (by decide +kernel)) rfl, px_c4 (List.mem_of_getElem? (i := 62) (by decide +kernel)) rfl⟩
theorem plX11_judge : plainFor mX11_judge.1 = true := by decide +kernel
def mX11_fits : px_M := (yX11_fits, cX11_fits, 7, (some .int))
theorem okX11_fits : px_okV mX11_fits 3 := ⟨⟨px_c4 (List.mem_of_getElem? (i := 76) (by decide +kernel)) rfl, px_c1 (List.mem_of_getElem? (i := 1) (by decide +kernel)) rfl, by decide +kernel, by decide +kernel, by decide +kernel⟩, px_c4 (List.mem_of_getElem? (i := 74) (by decide +kernel)) rfl, px_c4 (List.mem_of_getElem? (i := 75) (by decide +kernel)) rfl⟩
theorem plX11_fits : plainFor mX11_fits.1 = true := by decide +kernel
def mX11_who : px_M := (yX11_who, cX11_who, 5, (some .int))
theorem okX11_who : px_okV mX11_who 1 := ⟨⟨px_c4 (List.mem_of_getElem? (i := 85) (by decide +kernel)) rfl, px_c1 (List.mem_of_getElem? (i := 1) (by decide +kernel)) rfl, by decide +kernel, by decide +kernel, by decide +kernel⟩, px_c4 (List.mem_of_getElem? (i := 83) (by decide +kernel)) rfl, px_c4 (List.mem_of_getElem? (i := 84) (by decide +kernel)) rfl⟩
theorem plX11_who : plainFor mX11_who.1 = true := by decide +kernel
def mX11_share : px_M := (yX11_share, cX11_share, 4, (some .int))
theorem okX11_share : px_okV mX11_share 2 := ⟨⟨px_c4 (List.mem_of_getElem? (i := 89) (by decide +kernel)) rfl, px_c1 (List.mem_of_getElem? (i := 1) (by decide +kernel)) rfl, by decide +kernel, by decide +kernel, by decide +kernel⟩, px_c4 (List.mem_of_getElem? (i := 87) (by decide +kernel)) rfl, px_c4 (List.mem_of_getElem? (i := 88) (by decide +kernel)) rfl⟩
theorem plX11_share : plainFor mX11_share.1 = true := by decide +kernel
def mX11_near : px_M := (yX11_near, cX11_near, 2, (some .int))
theorem okX11_near : px_okV mX11_near 1 := ⟨⟨px_c4 (List.mem_of_getElem? (i := 97) (by decide +kernel)) rfl, px_c1 (List.mem_of_getElem? (i := 1) (by decide +kernel)) rfl, by decide +kernel, by decide +kernel, by decide +kernel⟩, px_c4 (List.mem_of_getElem? (i := 95) (by decide +kernel)) rfl, px_c4 (List.mem_of_getElem? (i := 96) (by decide +kernel)) rfl⟩
theorem plX11_near : plainFor mX11_near.1 = true := by decide +kernel
def mX11_mates : px_M := (yX11_mates, cX11_mates, 2, (some .int))
theorem okX11_mates : px_okV mX11_mates 1 := ⟨⟨px_c4 (List.mem_of_getElem? (i := 111) (by decide +kernel)) rfl, px_c1 (List.mem_of_getElem? (i := 1) (by decide +kernel)) rfl, by decide +kernel, by decide +kernel, by decide +kernel⟩, px_c4 (List.mem_of_getElem? (i := 109) (by decide +kernel)) rfl, px_c4 (List.mem_of_getElem? (i := 110) (by decide +kernel)) rfl⟩
theorem plX11_mates : plainFor mX11_mates.1 = true := by decide +kernel
def mX11_byTurns : px_M := (yX11_byTurns, cX11_byTurns, 3, (some .int))
theorem okX11_byTurns : px_okV mX11_byTurns 2 := ⟨⟨px_c4 (List.mem_of_getElem? (i := 125) (by decide +kernel)) rfl, px_c1 (List.mem_of_getElem? (i := 1) (by decide +kernel)) rfl, by decide +kernel, by decide +kernel, by decide +kernel⟩, px_c4 (List.mem_of_getElem? (i := 123) (by decide +kernel)) rfl, px_c4 (List.mem_of_getElem? (i := 124) (by decide +kernel)) rfl⟩
theorem plX11_byTurns : plainFor mX11_byTurns.1 = true := by decide +kernel
def mX11_drawn : px_M := (yX11_drawn, cX11_drawn, 7, (some .int))
theorem okX11_drawn : px_okV mX11_drawn 3 := ⟨⟨px_c4 (List.mem_of_getElem? (i := 142) (by decide +kernel)) rfl, px_c1 (List.mem_of_getElem? (i := 1) (by decide +kernel)) rfl, by decide +kernel, by decide +kernel, by decide +kernel⟩, px_c4 (List.mem_of_getElem? (i := 140) (by decide +kernel)) rfl, px_c4 (List.mem_of_getElem? (i := 141) (by decide +kernel)) rfl⟩
theorem plX11_drawn : plainFor mX11_drawn.1 = true := by decide +kernel
def mX11_moves : px_M := (yX11_moves, cX11_moves, 4, (some .int))
theorem okX11_moves : px_okV mX11_moves 2 := ⟨⟨px_c4 (List.mem_of_getElem? (i := 156) (by decide +kernel)) rfl, px_c1 (List.mem_of_getElem? (i := 1) (by decide +kernel)) rfl, by decide +kernel, by decide +kernel, by decide +kernel⟩, px_c4 (List.mem_of_getElem? (i := 154) (by decide +kernel)) rfl, px_c4 (List.mem_of_getElem? (i := 155) (by decide +kernel)) rfl⟩
theorem plX11_moves : plainFor mX11_moves.1 = true := by decide +kernel
def mX11_day : px_M := (yX11_day, cX11_day, 1, (some .int))
theorem okX11_day : px_okV mX11_day 0 := ⟨⟨px_c4 (List.mem_of_getElem? (i := 160) (by decide +kernel)) rfl, px_c1 (List.mem_of_getElem? (i := 1) (by decide +kernel)) rfl, by decide +kernel, by decide +kernel, by decide +kernel⟩, px_c4 (List.mem_of_getElem? (i := 158) (by decide +kernel)) rfl, px_c4 (List.mem_of_getElem? (i := 159) (by decide +kernel)) rfl⟩
theorem plX11_day : plainFor mX11_day.1 = true := by decide +kernel
def mX11_inspect : px_M := (yX11_inspect, cX11_inspect, 2, (some .int))
theorem okX11_inspect : px_okV mX11_inspect 0 := ⟨⟨px_c4 (List.mem_of_getElem? (i := 165) (by decide +kernel)) rfl, px_c1 (List.mem_of_getElem? (i := 1) (by decide +kernel)) rfl, by decide +kernel, by decide +kernel, by decide +kernel⟩, px_c4 (List.mem_of_getElem? (i := 163) (by decide +kernel)) rfl, px_c4 (List.mem_of_getElem? (i := 164) (by decide +kernel)) rfl⟩
theorem plX11_inspect : plainFor mX11_inspect.1 = true := by decide +kernel
def mX11_led : px_M := (yX11_led, cX11_led, 2, (some .int))
theorem okX11_led : px_okV mX11_led 1 := ⟨⟨px_c4 (List.mem_of_getElem? (i := 173) (by decide +kernel)) rfl, px_c1 (List.mem_of_getElem? (i := 1) (by decide +kernel)) rfl, by decide +kernel, by decide +kernel, by decide +kernel⟩, px_c4 (List.mem_of_getElem? (i := 171) (by decide +kernel)) rfl, px_c4 (List.mem_of_getElem? (i := 172) (by decide +kernel)) rfl⟩
theorem plX11_led : plainFor mX11_led.1 = true := by decide +kernel
def mX11_image : px_M := (yX11_image, cX11_image, 1, (some .int))
theorem okX11_image : px_okV mX11_image 0 := ⟨⟨px_c4 (List.mem_of_getElem? (i := 177) (by decide +kernel)) rfl, px_c1 (List.mem_of_getElem? (i := 1) (by decide +kernel)) rfl, by decide +kernel, by decide +kernel, by decide +kernel⟩, px_c4 (List.mem_of_getElem? (i := 175) (by decide +kernel)) rfl, px_c4 (List.mem_of_getElem? (i := 176) (by decide +kernel)) rfl⟩
theorem plX11_image : plainFor mX11_image.1 = true := by decide +kernel
def mX11_back : px_M := (yX11_back, cX11_back, 1, (some .int))
theorem okX11_back : px_okV mX11_back 0 := ⟨⟨px_c4 (List.mem_of_getElem? (i := 182) (by decide +kernel)) rfl, px_c1 (List.mem_of_getElem? (i := 1) (by decide +kernel)) rfl, by decide +kernel, by decide +kernel, by decide +kernel⟩, px_c4 (List.mem_of_getElem? (i := 180) (by decide +kernel)) rfl, px_c4 (List.mem_of_getElem? (i := 181) (by decide +kernel)) rfl⟩
theorem plX11_back : plainFor mX11_back.1 = true := by decide +kernel
def mX11_undo : px_M := (yX11_undo, cX11_undo, 1, (some .int))
theorem okX11_undo : px_okV mX11_undo 0 := ⟨⟨px_c4 (List.mem_of_getElem? (i := 186) (by decide +kernel)) rfl, px_c1 (List.mem_of_getElem? (i := 1) (by decide +kernel)) rfl, by decide +kernel, by decide +kernel, by decide +kernel⟩, px_c4 (List.mem_of_getElem? (i := 184) (by decide +kernel)) rfl, px_c4 (List.mem_of_getElem? (i := 185) (by decide +kernel)) rfl⟩
theorem plX11_undo : plainFor mX11_undo.1 = true := by decide +kernel
def mX11_redo : px_M := (yX11_redo, cX11_redo, 1, (some .int))
theorem okX11_redo : px_okV mX11_redo 0 := ⟨⟨px_c4 (List.mem_of_getElem? (i := 195) (by decide +kernel)) rfl, px_c1 (List.mem_of_getElem? (i := 1) (by decide +kernel)) rfl, by decide +kernel, by decide +kernel, by decide +kernel⟩, px_c4 (List.mem_of_getElem? (i := 193) (by decide +kernel)) rfl, px_c4 (List.mem_of_getElem? (i := 194) (by decide +kernel)) rfl⟩
theorem plX11_redo : plainFor mX11_redo.1 = true := by decide +kernel
def mX11_body : px_M := (yX11_body, cX11_body, 2, (some .int))
theorem okX11_body : px_okV mX11_body 1 := ⟨⟨px_c4 (List.mem_of_getElem? (i := 203) (by decide +kernel)) rfl, px_c1 (List.mem_of_getElem? (i := 1) (by decide +kernel)) rfl, by decide +kernel, by decide +kernel, by decide +kernel⟩, px_c4 (List.mem_of_getElem? (i := 201) (by decide +kernel)) rfl, px_c4 (List.mem_of_getElem? (i := 202) (by decide +kernel)) rfl⟩
theorem plX11_body : plainFor mX11_body.1 = true := by decide +kernel
def mX11_act : px_M := (yX11_act, cX11_act, 4, (some .int))
theorem okX11_act : px_okV mX11_act 3 := ⟨⟨px_c4 (List.mem_of_getElem? (i := 211) (by decide +kernel)) rfl, px_c1 (List.mem_of_getElem? (i := 1) (by decide +kernel)) rfl, by decide +kernel, by decide +kernel, by decide +kernel⟩, px_c4 (List.mem_of_getElem? (i := 209) (by decide +kernel)) rfl, px_c4 (List.mem_of_getElem? (i := 210) (by decide +kernel)) rfl⟩
theorem plX11_act : plainFor mX11_act.1 = true := by decide +kernel
def mX11_trace : px_M := (yX11_trace, cX11_trace, 2, (some .int))
theorem okX11_trace : px_okV mX11_trace 1 := ⟨⟨px_c5 (List.mem_of_getElem? (i := 2) (by decide +kernel)) rfl, px_c1 (List.mem_of_getElem? (i := 1) (by decide +kernel)) rfl, by decide +kernel, by decide +kernel, by decide +kernel⟩, px_c5 (List.mem_of_getElem? (i := 0) (by decide +kernel)) rfl, px_c5 (List.mem_of_getElem? (i := 1) (by decide +kernel)) rfl⟩
theorem plX11_trace : plainFor mX11_trace.1 = true := by decide +kernel
def mX11_keep : px_M := (yX11_keep, cX11_keep, 3, (some .int))
theorem okX11_keep : px_okV mX11_keep 2 := ⟨⟨px_c5 (List.mem_of_getElem? (i := 11) (by decide +kernel)) rfl, px_c1 (List.mem_of_getElem? (i := 1) (by decide +kernel)) rfl, by decide +kernel, by decide +kernel, by decide +kernel⟩, px_c5 (List.mem_of_getElem? (i := 9) (by decide +kernel)) rfl, px_c5 (List.mem_of_getElem? (i := 10) (by decide +kernel)) rfl⟩
theorem plX11_keep : plainFor mX11_keep.1 = true := by decide +kernel
def mX11_row : px_M := (yX11_row, cX11_row, 4, (some .int))
theorem okX11_row : px_okV mX11_row 3 := ⟨⟨px_c5 (List.mem_of_getElem? (i := 25) (by decide +kernel)) rfl, px_c1 (List.mem_of_getElem? (i := 1) (by decide +kernel)) rfl, by decide +kernel, by decide +kernel, by decide +kernel⟩, px_c5 (List.mem_of_getElem? (i := 23) (by decide +kernel)) rfl, px_c5 (List.mem_of_getElem? (i := 24) (by decide +kernel)) rfl⟩
theorem plX11_row : plainFor mX11_row.1 = true := by decide +kernel
def mX11_put : px_M := (yX11_put, cX11_put, 6, (some .int))
theorem okX11_put : px_okV mX11_put 3 := ⟨⟨px_c5 (List.mem_of_getElem? (i := 33) (by decide +kernel)) rfl, px_c1 (List.mem_of_getElem? (i := 1) (by decide +kernel)) rfl, by decide +kernel, by decide +kernel, by decide +kernel⟩, px_c5 (List.mem_of_getElem? (i := 31) (by decide +kernel)) rfl, px_c5 (List.mem_of_getElem? (i := 32) (by decide +kernel)) rfl⟩
theorem plX11_put : plainFor mX11_put.1 = true := by decide +kernel
def mX11_element : px_M := (yX11_element, cX11_element, 3, (some .long))
theorem okX11_element : px_okV mX11_element 2 := ⟨⟨px_c5 (List.mem_of_getElem? (i := 48) (by decide +kernel)) rfl, px_c1 (List.mem_of_getElem? (i := 1) (by decide +kernel)) rfl, by decide +kernel, by decide +kernel, by decide +kernel⟩, px_c5 (List.mem_of_getElem? (i := 46) (by decide +kernel)) rfl, px_c5 (List.mem_of_getElem? (i := 47) (by decide +kernel)) rfl⟩
theorem plX11_element : plainFor mX11_element.1 = true := by decide +kernel
def mX11_shift : px_M := (yX11_shift, cX11_shift, 7, (some .int))
theorem okX11_shift : px_okV mX11_shift 5 := ⟨⟨px_c5 (List.mem_of_getElem? (i := 53) (by decide +kernel)) rfl, px_c1 (List.mem_of_getElem? (i := 1) (by decide +kernel)) rfl, by decide +kernel, by decide +kernel, by decide +kernel⟩, px_c5 (List.mem_of_getElem? (i := 51) (by decide +kernel)) rfl, px_c5 (List.mem_of_getElem? (i := 52) (by decide +kernel)) rfl⟩
theorem plX11_shift : plainFor mX11_shift.1 = true := by decide +kernel
def mX11_taken : px_M := (yX11_taken, cX11_taken, 4, (some .int))
theorem okX11_taken : px_okV mX11_taken 2 := ⟨⟨px_c5 (List.mem_of_getElem? (i := 67) (by decide +kernel)) rfl, px_c1 (List.mem_of_getElem? (i := 1) (by decide +kernel)) rfl, by decide +kernel, by decide +kernel, by decide +kernel⟩, px_c5 (List.mem_of_getElem? (i := 65) (by decide +kernel)) rfl, px_c5 (List.mem_of_getElem? (i := 66) (by decide +kernel)) rfl⟩
theorem plX11_taken : plainFor mX11_taken.1 = true := by decide +kernel
def mX11_count : px_M := (yX11_count, cX11_count, 2, (some .int))
theorem okX11_count : px_okV mX11_count 1 := ⟨⟨px_c5 (List.mem_of_getElem? (i := 79) (by decide +kernel)) rfl, px_c1 (List.mem_of_getElem? (i := 1) (by decide +kernel)) rfl, by decide +kernel, by decide +kernel, by decide +kernel⟩, px_c5 (List.mem_of_getElem? (i := 77) (by decide +kernel)) rfl, px_c5 (List.mem_of_getElem? (i := 78) (by decide +kernel)) rfl⟩
theorem plX11_count : plainFor mX11_count.1 = true := by decide +kernel
def mX11_isWithin : px_M := (yX11_isWithin, cX11_isWithin, 3, (some .boolean))
theorem okX11_isWithin : px_okS mX11_isWithin 3 := ⟨⟨px_c2 (List.mem_of_getElem? (i := 158) (by decide +kernel)) rfl, px_c1 (List.mem_of_getElem? (i := 1) (by decide +kernel)) rfl, by decide +kernel, by decide +kernel, by decide +kernel⟩, px_c2 (List.mem_of_getElem? (i := 157) (by decide +kernel)) rfl⟩
theorem plX11_isWithin : plainFor mX11_isWithin.1 = true := by decide +kernel
def mX11_placesApart : px_M := (yX11_placesApart, cX11_placesApart, 2, (some .int))
theorem okX11_placesApart : px_okS mX11_placesApart 2 := ⟨⟨px_c3 (List.mem_of_getElem? (i := 119) (by decide +kernel)) rfl, px_c1 (List.mem_of_getElem? (i := 1) (by decide +kernel)) rfl, by decide +kernel, by decide +kernel, by decide +kernel⟩, px_c3 (List.mem_of_getElem? (i := 118) (by decide +kernel)) rfl⟩
theorem plX11_placesApart : plainFor mX11_placesApart.1 = true := by decide +kernel
def mX12_init : px_M := (yX12_init, cX12_init, 1, none)
theorem okX12_init : px_okI mX12_init 0 := ⟨⟨px_c5 (List.mem_of_getElem? (i := 84) (by decide +kernel)) rfl, px_c1 (List.mem_of_getElem? (i := 13) (by decide +kernel)) rfl, by decide +kernel, by decide +kernel, by decide +kernel⟩, px_c5 (List.mem_of_getElem? (i := 83) (by decide +kernel)) rfl, rfl, rfl⟩
theorem plX12_init : plainFor mX12_init.1 = true := by decide +kernel
def mX12_in : px_M := (yX12_in, cX12_in, 3, (some .boolean))
theorem okX12_in : px_okS mX12_in 3 := ⟨⟨px_c6 (List.mem_of_getElem? (i := 34) (by decide +kernel)) rfl, px_c1 (List.mem_of_getElem? (i := 13) (by decide +kernel)) rfl, by decide +kernel, by decide +kernel, by decide +kernel⟩, px_c6 (List.mem_of_getElem? (i := 33) (by decide +kernel)) rfl⟩
theorem plX12_in : plainFor mX12_in.1 = true := by decide +kernel
def mX12_has : px_M := (yX12_has, cX12_has, 2, (some .boolean))
theorem okX12_has : px_okS mX12_has 2 := ⟨⟨px_c6 (List.mem_of_getElem? (i := 219) (by decide +kernel)) rfl, px_c1 (List.mem_of_getElem? (i := 13) (by decide +kernel)) rfl, by decide +kernel, by decide +kernel, by decide +kernel⟩, px_c6 (List.mem_of_getElem? (i := 218) (by decide +kernel)) rfl⟩
theorem plX12_has : plainFor mX12_has.1 = true := by decide +kernel
def mX12_bitsOf : px_M := (yX12_bitsOf, cX12_bitsOf, 3, (some .int))
theorem okX12_bitsOf : px_okS mX12_bitsOf 1 := ⟨⟨px_c6 (List.mem_of_getElem? (i := 212) (by decide +kernel)) rfl, px_c1 (List.mem_of_getElem? (i := 13) (by decide +kernel)) rfl, by decide +kernel, by decide +kernel, by decide +kernel⟩, px_c6 (List.mem_of_getElem? (i := 211) (by decide +kernel)) rfl⟩
theorem plX12_bitsOf : plainFor mX12_bitsOf.1 = true := by decide +kernel
def mX12_isOne : px_M := (yX12_isOne, cX12_isOne, 2, (some .boolean))
theorem okX12_isOne : px_okV mX12_isOne 1 := ⟨⟨px_c6 (List.mem_of_getElem? (i := 42) (by decide +kernel)) rfl, px_c1 (List.mem_of_getElem? (i := 13) (by decide +kernel)) rfl, by decide +kernel, by decide +kernel, by decide +kernel⟩, px_c6 (List.mem_of_getElem? (i := 41) (by decide +kernel)) rfl, px_c0 (List.mem_of_getElem? (i := 32) (by decide +kernel)) rfl⟩
theorem plX12_isOne : plainFor mX12_isOne.1 = true := by decide +kernel
def mX12_isJoy : px_M := (yX12_isJoy, cX12_isJoy, 2, (some .boolean))
theorem okX12_isJoy : px_okV mX12_isJoy 1 := ⟨⟨px_c6 (List.mem_of_getElem? (i := 78) (by decide +kernel)) rfl, px_c1 (List.mem_of_getElem? (i := 13) (by decide +kernel)) rfl, by decide +kernel, by decide +kernel, by decide +kernel⟩, px_c6 (List.mem_of_getElem? (i := 77) (by decide +kernel)) rfl, px_c0 (List.mem_of_getElem? (i := 36) (by decide +kernel)) rfl⟩
theorem plX12_isJoy : plainFor mX12_isJoy.1 = true := by decide +kernel
def mX12_isHouse : px_M := (yX12_isHouse, cX12_isHouse, 1, (some .boolean))
theorem okX12_isHouse : px_okS mX12_isHouse 1 := ⟨⟨px_c6 (List.mem_of_getElem? (i := 31) (by decide +kernel)) rfl, px_c1 (List.mem_of_getElem? (i := 13) (by decide +kernel)) rfl, by decide +kernel, by decide +kernel, by decide +kernel⟩, px_c6 (List.mem_of_getElem? (i := 30) (by decide +kernel)) rfl⟩
theorem plX12_isHouse : plainFor mX12_isHouse.1 = true := by decide +kernel
def mX12_isSide : px_M := (yX12_isSide, cX12_isSide, 1, (some .boolean))
theorem okX12_isSide : px_okS mX12_isSide 1 := ⟨⟨px_c6 (List.mem_of_getElem? (i := 84) (by decide +kernel)) rfl, px_c1 (List.mem_of_getElem? (i := 13) (by decide +kernel)) rfl, by decide +kernel, by decide +kernel, by decide +kernel⟩, px_c6 (List.mem_of_getElem? (i := 83) (by decide +kernel)) rfl⟩
theorem plX12_isSide : plainFor mX12_isSide.1 = true := by decide +kernel
def mX12_person : px_M := (yX12_person, cX12_person, 2, (some .int))
theorem okX12_person : px_okV mX12_person 1 := ⟨⟨px_c6 (List.mem_of_getElem? (i := 28) (by decide +kernel)) rfl, px_c1 (List.mem_of_getElem? (i := 13) (by decide +kernel)) rfl, by decide +kernel, by decide +kernel, by decide +kernel⟩, px_c6 (List.mem_of_getElem? (i := 26) (by decide +kernel)) rfl, px_c6 (List.mem_of_getElem? (i := 27) (by decide +kernel)) rfl⟩
theorem plX12_person : plainFor mX12_person.1 = true := by decide +kernel
def mX12_addJoy : px_M := (yX12_addJoy, cX12_addJoy, 4, (some .int))
theorem okX12_addJoy : px_okV mX12_addJoy 3 := ⟨⟨px_c6 (List.mem_of_getElem? (i := 46) (by decide +kernel)) rfl, px_c1 (List.mem_of_getElem? (i := 13) (by decide +kernel)) rfl, by decide +kernel, by decide +kernel, by decide +kernel⟩, px_c6 (List.mem_of_getElem? (i := 45) (by decide +kernel)) rfl, px_c0 (List.mem_of_getElem? (i := 33) (by decide +kernel)) rfl⟩
theorem plX12_addJoy : plainFor mX12_addJoy.1 = true := by decide +kernel
def mX12_joy : px_M := (yX12_joy, cX12_joy, 3, (some .int))
theorem okX12_joy : px_okV mX12_joy 2 := ⟨⟨px_c6 (List.mem_of_getElem? (i := 38) (by decide +kernel)) rfl, px_c1 (List.mem_of_getElem? (i := 13) (by decide +kernel)) rfl, by decide +kernel, by decide +kernel, by decide +kernel⟩, px_c6 (List.mem_of_getElem? (i := 36) (by decide +kernel)) rfl, px_c6 (List.mem_of_getElem? (i := 37) (by decide +kernel)) rfl⟩
theorem plX12_joy : plainFor mX12_joy.1 = true := by decide +kernel
def mX12_joys : px_M := (yX12_joys, cX12_joys, 8, (some .int))
theorem okX12_joys : px_okV mX12_joys 3 := ⟨⟨px_c6 (List.mem_of_getElem? (i := 50) (by decide +kernel)) rfl, px_c1 (List.mem_of_getElem? (i := 13) (by decide +kernel)) rfl, by decide +kernel, by decide +kernel, by decide +kernel⟩, px_c6 (List.mem_of_getElem? (i := 48) (by decide +kernel)) rfl, px_c6 (List.mem_of_getElem? (i := 49) (by decide +kernel)) rfl⟩
theorem plX12_joys : plainFor mX12_joys.1 = true := by decide +kernel
def mX12_valueAt : px_M := (yX12_valueAt, cX12_valueAt, 3, (some .int))
theorem okX12_valueAt : px_okV mX12_valueAt 2 := ⟨⟨px_c6 (List.mem_of_getElem? (i := 92) (by decide +kernel)) rfl, px_c1 (List.mem_of_getElem? (i := 13) (by decide +kernel)) rfl, by decide +kernel, by decide +kernel, by decide +kernel⟩, px_c6 (List.mem_of_getElem? (i := 91) (by decide +kernel)) rfl, px_c0 (List.mem_of_getElem? (i := 38) (by decide +kernel)) rfl⟩
theorem plX12_valueAt : plainFor mX12_valueAt.1 = true := by decide +kernel
def mX12_lays : px_M := (yX12_lays, cX12_lays, 4, none)
theorem okX12_lays : px_okV mX12_lays 3 := ⟨⟨px_c6 (List.mem_of_getElem? (i := 62) (by decide +kernel)) rfl, px_c1 (List.mem_of_getElem? (i := 13) (by decide +kernel)) rfl, by decide +kernel, by decide +kernel, by decide +kernel⟩, px_c6 (List.mem_of_getElem? (i := 61) (by decide +kernel)) rfl, px_c0 (List.mem_of_getElem? (i := 34) (by decide +kernel)) rfl⟩
theorem plX12_lays : plainFor mX12_lays.1 = true := by decide +kernel
def mX12_changes : px_M := (yX12_changes, cX12_changes, 6, (some .int))
theorem okX12_changes : px_okV mX12_changes 3 := ⟨⟨px_c6 (List.mem_of_getElem? (i := 88) (by decide +kernel)) rfl, px_c1 (List.mem_of_getElem? (i := 13) (by decide +kernel)) rfl, by decide +kernel, by decide +kernel, by decide +kernel⟩, px_c6 (List.mem_of_getElem? (i := 87) (by decide +kernel)) rfl, px_c0 (List.mem_of_getElem? (i := 37) (by decide +kernel)) rfl⟩
theorem plX12_changes : plainFor mX12_changes.1 = true := by decide +kernel
def mX12_undo : px_M := (yX12_undo, cX12_undo, 1, (some .int))
theorem okX12_undo : px_okV mX12_undo 0 := ⟨⟨px_c6 (List.mem_of_getElem? (i := 58) (by decide +kernel)) rfl, px_c1 (List.mem_of_getElem? (i := 13) (by decide +kernel)) rfl, by decide +kernel, by decide +kernel, by decide +kernel⟩, px_c6 (List.mem_of_getElem? (i := 56) (by decide +kernel)) rfl, px_c6 (List.mem_of_getElem? (i := 57) (by decide +kernel)) rfl⟩
theorem plX12_undo : plainFor mX12_undo.1 = true := by decide +kernel
def mX12_redo : px_M := (yX12_redo, cX12_redo, 1, (some .int))
theorem okX12_redo : px_okV mX12_redo 0 := ⟨⟨px_c6 (List.mem_of_getElem? (i := 66) (by decide +kernel)) rfl, px_c1 (List.mem_of_getElem? (i := 13) (by decide +kernel)) rfl, by decide +kernel, by decide +kernel, by decide +kernel⟩, px_c6 (List.mem_of_getElem? (i := 64) (by decide +kernel)) rfl, px_c6 (List.mem_of_getElem? (i := 65) (by decide +kernel)) rfl⟩
theorem plX12_redo : plainFor mX12_redo.1 = true := by decide +kernel
def mX12_isPlace : px_M := (yX12_isPlace, cX12_isPlace, 3, (some .boolean))
theorem okX12_isPlace : px_okV mX12_isPlace 2 := ⟨⟨px_c6 (List.mem_of_getElem? (i := 74) (by decide +kernel)) rfl, px_c1 (List.mem_of_getElem? (i := 13) (by decide +kernel)) rfl, by decide +kernel, by decide +kernel, by decide +kernel⟩, px_c6 (List.mem_of_getElem? (i := 73) (by decide +kernel)) rfl, px_c0 (List.mem_of_getElem? (i := 35) (by decide +kernel)) rfl⟩
theorem plX12_isPlace : plainFor mX12_isPlace.1 = true := by decide +kernel
def mX12_mayHave : px_M := (yX12_mayHave, cX12_mayHave, 2, (some .boolean))
theorem okX12_mayHave : px_okS mX12_mayHave 2 := ⟨⟨px_c6 (List.mem_of_getElem? (i := 81) (by decide +kernel)) rfl, px_c1 (List.mem_of_getElem? (i := 13) (by decide +kernel)) rfl, by decide +kernel, by decide +kernel, by decide +kernel⟩, px_c6 (List.mem_of_getElem? (i := 80) (by decide +kernel)) rfl⟩
theorem plX12_mayHave : plainFor mX12_mayHave.1 = true := by decide +kernel
def mX12_mend : px_M := (yX12_mend, cX12_mend, 4, (some .int))
theorem okX12_mend : px_okV mX12_mend 3 := ⟨⟨px_c6 (List.mem_of_getElem? (i := 70) (by decide +kernel)) rfl, px_c1 (List.mem_of_getElem? (i := 13) (by decide +kernel)) rfl, by decide +kernel, by decide +kernel, by decide +kernel⟩, px_c6 (List.mem_of_getElem? (i := 68) (by decide +kernel)) rfl, px_c6 (List.mem_of_getElem? (i := 69) (by decide +kernel)) rfl⟩
theorem plX12_mend : plainFor mX12_mend.1 = true := by decide +kernel
def mX12_of : px_M := (yX12_of, cX12_of, 3, (some .int))
theorem okX12_of : px_okV mX12_of 2 := ⟨⟨px_c6 (List.mem_of_getElem? (i := 96) (by decide +kernel)) rfl, px_c1 (List.mem_of_getElem? (i := 13) (by decide +kernel)) rfl, by decide +kernel, by decide +kernel, by decide +kernel⟩, px_c6 (List.mem_of_getElem? (i := 94) (by decide +kernel)) rfl, px_c6 (List.mem_of_getElem? (i := 95) (by decide +kernel)) rfl⟩
theorem plX12_of : plainFor mX12_of.1 = true := by decide +kernel
def mX12_feed : px_M := (yX12_feed, cX12_feed, 2, (some .int))
theorem okX12_feed : px_okV mX12_feed 1 := ⟨⟨px_c6 (List.mem_of_getElem? (i := 100) (by decide +kernel)) rfl, px_c1 (List.mem_of_getElem? (i := 13) (by decide +kernel)) rfl, by decide +kernel, by decide +kernel, by decide +kernel⟩, px_c6 (List.mem_of_getElem? (i := 98) (by decide +kernel)) rfl, px_c6 (List.mem_of_getElem? (i := 99) (by decide +kernel)) rfl⟩
theorem plX12_feed : plainFor mX12_feed.1 = true := by decide +kernel
def mX12_look : px_M := (yX12_look, cX12_look, 1, (some .int))
theorem okX12_look : px_okV mX12_look 0 := ⟨⟨px_c6 (List.mem_of_getElem? (i := 140) (by decide +kernel)) rfl, px_c1 (List.mem_of_getElem? (i := 13) (by decide +kernel)) rfl, by decide +kernel, by decide +kernel, by decide +kernel⟩, px_c6 (List.mem_of_getElem? (i := 139) (by decide +kernel)) rfl, px_c0 (List.mem_of_getElem? (i := 47) (by decide +kernel)) rfl⟩
theorem plX12_look : plainFor mX12_look.1 = true := by decide +kernel
def mX12_wrong : px_M := (yX12_wrong, cX12_wrong, 1, none)
theorem okX12_wrong : px_okV mX12_wrong 0 := ⟨⟨px_c6 (List.mem_of_getElem? (i := 155) (by decide +kernel)) rfl, px_c1 (List.mem_of_getElem? (i := 13) (by decide +kernel)) rfl, by decide +kernel, by decide +kernel, by decide +kernel⟩, px_c6 (List.mem_of_getElem? (i := 154) (by decide +kernel)) rfl, px_c0 (List.mem_of_getElem? (i := 50) (by decide +kernel)) rfl⟩
theorem plX12_wrong : plainFor mX12_wrong.1 = true := by decide +kernel
def mX12_addStep : px_M := (yX12_addStep, cX12_addStep, 3, none)
theorem okX12_addStep : px_okV mX12_addStep 2 := ⟨⟨px_c6 (List.mem_of_getElem? (i := 147) (by decide +kernel)) rfl, px_c1 (List.mem_of_getElem? (i := 13) (by decide +kernel)) rfl, by decide +kernel, by decide +kernel, by decide +kernel⟩, px_c6 (List.mem_of_getElem? (i := 146) (by decide +kernel)) rfl, px_c0 (List.mem_of_getElem? (i := 48) (by decide +kernel)) rfl⟩
theorem plX12_addStep : plainFor mX12_addStep.1 = true := by decide +kernel
def mX12_nameOf : px_M := (yX12_nameOf, cX12_nameOf, 1, (some .int))
theorem okX12_nameOf : px_okS mX12_nameOf 1 := ⟨⟨px_c6 (List.mem_of_getElem? (i := 143) (by decide +kernel)) rfl, px_c1 (List.mem_of_getElem? (i := 13) (by decide +kernel)) rfl, by decide +kernel, by decide +kernel, by decide +kernel⟩, px_c6 (List.mem_of_getElem? (i := 142) (by decide +kernel)) rfl⟩
theorem plX12_nameOf : plainFor mX12_nameOf.1 = true := by decide +kernel
def mX12_opens : px_M := (yX12_opens, cX12_opens, 1, (some .boolean))
theorem okX12_opens : px_okV mX12_opens 0 := ⟨⟨px_c6 (List.mem_of_getElem? (i := 151) (by decide +kernel)) rfl, px_c1 (List.mem_of_getElem? (i := 13) (by decide +kernel)) rfl, by decide +kernel, by decide +kernel, by decide +kernel⟩, px_c6 (List.mem_of_getElem? (i := 150) (by decide +kernel)) rfl, px_c0 (List.mem_of_getElem? (i := 49) (by decide +kernel)) rfl⟩
theorem plX12_opens : plainFor mX12_opens.1 = true := by decide +kernel
def mX12_figure : px_M := (yX12_figure, cX12_figure, 3, none)
theorem okX12_figure : px_okV mX12_figure 0 := ⟨⟨px_c6 (List.mem_of_getElem? (i := 159) (by decide +kernel)) rfl, px_c1 (List.mem_of_getElem? (i := 13) (by decide +kernel)) rfl, by decide +kernel, by decide +kernel, by decide +kernel⟩, px_c6 (List.mem_of_getElem? (i := 158) (by decide +kernel)) rfl, px_c0 (List.mem_of_getElem? (i := 51) (by decide +kernel)) rfl⟩
theorem plX12_figure : plainFor mX12_figure.1 = true := by decide +kernel
def mX12_operand : px_M := (yX12_operand, cX12_operand, 2, none)
theorem okX12_operand : px_okV mX12_operand 0 := ⟨⟨px_c6 (List.mem_of_getElem? (i := 136) (by decide +kernel)) rfl, px_c1 (List.mem_of_getElem? (i := 13) (by decide +kernel)) rfl, by decide +kernel, by decide +kernel, by decide +kernel⟩, px_c6 (List.mem_of_getElem? (i := 135) (by decide +kernel)) rfl, px_c0 (List.mem_of_getElem? (i := 46) (by decide +kernel)) rfl⟩
theorem plX12_operand : plainFor mX12_operand.1 = true := by decide +kernel
def mX12_product : px_M := (yX12_product, cX12_product, 2, none)
theorem okX12_product : px_okV mX12_product 0 := ⟨⟨px_c6 (List.mem_of_getElem? (i := 132) (by decide +kernel)) rfl, px_c1 (List.mem_of_getElem? (i := 13) (by decide +kernel)) rfl, by decide +kernel, by decide +kernel, by decide +kernel⟩, px_c6 (List.mem_of_getElem? (i := 131) (by decide +kernel)) rfl, px_c0 (List.mem_of_getElem? (i := 45) (by decide +kernel)) rfl⟩
theorem plX12_product : plainFor mX12_product.1 = true := by decide +kernel
def mX12_sum : px_M := (yX12_sum, cX12_sum, 2, none)
theorem okX12_sum : px_okV mX12_sum 0 := ⟨⟨px_c6 (List.mem_of_getElem? (i := 128) (by decide +kernel)) rfl, px_c1 (List.mem_of_getElem? (i := 13) (by decide +kernel)) rfl, by decide +kernel, by decide +kernel, by decide +kernel⟩, px_c6 (List.mem_of_getElem? (i := 127) (by decide +kernel)) rfl, px_c0 (List.mem_of_getElem? (i := 44) (by decide +kernel)) rfl⟩
theorem plX12_sum : plainFor mX12_sum.1 = true := by decide +kernel
def mX12_compared : px_M := (yX12_compared, cX12_compared, 2, none)
theorem okX12_compared : px_okV mX12_compared 0 := ⟨⟨px_c6 (List.mem_of_getElem? (i := 124) (by decide +kernel)) rfl, px_c1 (List.mem_of_getElem? (i := 13) (by decide +kernel)) rfl, by decide +kernel, by decide +kernel, by decide +kernel⟩, px_c6 (List.mem_of_getElem? (i := 123) (by decide +kernel)) rfl, px_c0 (List.mem_of_getElem? (i := 43) (by decide +kernel)) rfl⟩
theorem plX12_compared : plainFor mX12_compared.1 = true := by decide +kernel
def mX12_both : px_M := (yX12_both, cX12_both, 1, none)
theorem okX12_both : px_okV mX12_both 0 := ⟨⟨px_c6 (List.mem_of_getElem? (i := 120) (by decide +kernel)) rfl, px_c1 (List.mem_of_getElem? (i := 13) (by decide +kernel)) rfl, by decide +kernel, by decide +kernel, by decide +kernel⟩, px_c6 (List.mem_of_getElem? (i := 119) (by decide +kernel)) rfl, px_c0 (List.mem_of_getElem? (i := 42) (by decide +kernel)) rfl⟩
theorem plX12_both : plainFor mX12_both.1 = true := by decide +kernel
def mX12_either : px_M := (yX12_either, cX12_either, 1, none)
theorem okX12_either : px_okV mX12_either 0 := ⟨⟨px_c6 (List.mem_of_getElem? (i := 116) (by decide +kernel)) rfl, px_c1 (List.mem_of_getElem? (i := 13) (by decide +kernel)) rfl, by decide +kernel, by decide +kernel, by decide +kernel⟩, px_c6 (List.mem_of_getElem? (i := 115) (by decide +kernel)) rfl, px_c0 (List.mem_of_getElem? (i := 41) (by decide +kernel)) rfl⟩
theorem plX12_either : plainFor mX12_either.1 = true := by decide +kernel
def mX12_line : px_M := (yX12_line, cX12_line, 2, none)
theorem okX12_line : px_okV mX12_line 0 := ⟨⟨px_c6 (List.mem_of_getElem? (i := 112) (by decide +kernel)) rfl, px_c1 (List.mem_of_getElem? (i := 13) (by decide +kernel)) rfl, by decide +kernel, by decide +kernel, by decide +kernel⟩, px_c6 (List.mem_of_getElem? (i := 111) (by decide +kernel)) rfl, px_c0 (List.mem_of_getElem? (i := 40) (by decide +kernel)) rfl⟩
theorem plX12_line : plainFor mX12_line.1 = true := by decide +kernel
def mX12_readText : px_M := (yX12_readText, cX12_readText, 3, (some .int))
theorem okX12_readText : px_okV mX12_readText 1 := ⟨⟨px_c6 (List.mem_of_getElem? (i := 108) (by decide +kernel)) rfl, px_c1 (List.mem_of_getElem? (i := 13) (by decide +kernel)) rfl, by decide +kernel, by decide +kernel, by decide +kernel⟩, px_c6 (List.mem_of_getElem? (i := 107) (by decide +kernel)) rfl, px_c0 (List.mem_of_getElem? (i := 39) (by decide +kernel)) rfl⟩
theorem plX12_readText : plainFor mX12_readText.1 = true := by decide +kernel
def mX12_twoOf : px_M := (yX12_twoOf, cX12_twoOf, 3, (some .int))
theorem okX12_twoOf : px_okS mX12_twoOf 3 := ⟨⟨px_c6 (List.mem_of_getElem? (i := 197) (by decide +kernel)) rfl, px_c1 (List.mem_of_getElem? (i := 13) (by decide +kernel)) rfl, by decide +kernel, by decide +kernel, by decide +kernel⟩, px_c6 (List.mem_of_getElem? (i := 196) (by decide +kernel)) rfl⟩
theorem plX12_twoOf : plainFor mX12_twoOf.1 = true := by decide +kernel
def mX12_worked : px_M := (yX12_worked, cX12_worked, 7, (some .int))
theorem okX12_worked : px_okV mX12_worked 3 := ⟨⟨px_c6 (List.mem_of_getElem? (i := 194) (by decide +kernel)) rfl, px_c1 (List.mem_of_getElem? (i := 13) (by decide +kernel)) rfl, by decide +kernel, by decide +kernel, by decide +kernel⟩, px_c6 (List.mem_of_getElem? (i := 193) (by decide +kernel)) rfl, px_c0 (List.mem_of_getElem? (i := 58) (by decide +kernel)) rfl⟩
theorem plX12_worked : plainFor mX12_worked.1 = true := by decide +kernel
def mX12_gives : px_M := (yX12_gives, cX12_gives, 4, (some .int))
theorem okX12_gives : px_okV mX12_gives 1 := ⟨⟨px_c6 (List.mem_of_getElem? (i := 190) (by decide +kernel)) rfl, px_c1 (List.mem_of_getElem? (i := 13) (by decide +kernel)) rfl, by decide +kernel, by decide +kernel, by decide +kernel⟩, px_c6 (List.mem_of_getElem? (i := 189) (by decide +kernel)) rfl, px_c0 (List.mem_of_getElem? (i := 57) (by decide +kernel)) rfl⟩
theorem plX12_gives : plainFor mX12_gives.1 = true := by decide +kernel
def mX12_law : px_M := (yX12_law, cX12_law, 2, (some .int))
theorem okX12_law : px_okV mX12_law 0 := ⟨⟨px_c6 (List.mem_of_getElem? (i := 104) (by decide +kernel)) rfl, px_c1 (List.mem_of_getElem? (i := 13) (by decide +kernel)) rfl, by decide +kernel, by decide +kernel, by decide +kernel⟩, px_c6 (List.mem_of_getElem? (i := 102) (by decide +kernel)) rfl, px_c6 (List.mem_of_getElem? (i := 103) (by decide +kernel)) rfl⟩
theorem plX12_law : plainFor mX12_law.1 = true := by decide +kernel
def mX12_layNow : px_M := (yX12_layNow, cX12_layNow, 2, none)
theorem okX12_layNow : px_okV mX12_layNow 0 := ⟨⟨px_c6 (List.mem_of_getElem? (i := 167) (by decide +kernel)) rfl, px_c1 (List.mem_of_getElem? (i := 13) (by decide +kernel)) rfl, by decide +kernel, by decide +kernel, by decide +kernel⟩, px_c6 (List.mem_of_getElem? (i := 166) (by decide +kernel)) rfl, px_c0 (List.mem_of_getElem? (i := 52) (by decide +kernel)) rfl⟩
theorem plX12_layNow : plainFor mX12_layNow.1 = true := by decide +kernel
def mX12_houseOfJoy : px_M := (yX12_houseOfJoy, cX12_houseOfJoy, 2, (some .int))
theorem okX12_houseOfJoy : px_okV mX12_houseOfJoy 1 := ⟨⟨px_c6 (List.mem_of_getElem? (i := 171) (by decide +kernel)) rfl, px_c1 (List.mem_of_getElem? (i := 13) (by decide +kernel)) rfl, by decide +kernel, by decide +kernel, by decide +kernel⟩, px_c6 (List.mem_of_getElem? (i := 170) (by decide +kernel)) rfl, px_c0 (List.mem_of_getElem? (i := 53) (by decide +kernel)) rfl⟩
theorem plX12_houseOfJoy : plainFor mX12_houseOfJoy.1 = true := by decide +kernel
def mX12_waits : px_M := (yX12_waits, cX12_waits, 2, (some .boolean))
theorem okX12_waits : px_okV mX12_waits 1 := ⟨⟨px_c7 (List.mem_of_getElem? (i := 11) (by decide +kernel)) rfl, px_c1 (List.mem_of_getElem? (i := 13) (by decide +kernel)) rfl, by decide +kernel, by decide +kernel, by decide +kernel⟩, px_c7 (List.mem_of_getElem? (i := 10) (by decide +kernel)) rfl, px_c0 (List.mem_of_getElem? (i := 67) (by decide +kernel)) rfl⟩
theorem plX12_waits : plainFor mX12_waits.1 = true := by decide +kernel
def mX12_runs : px_M := (yX12_runs, cX12_runs, 2, (some .boolean))
theorem okX12_runs : px_okV mX12_runs 1 := ⟨⟨px_c6 (List.mem_of_getElem? (i := 186) (by decide +kernel)) rfl, px_c1 (List.mem_of_getElem? (i := 13) (by decide +kernel)) rfl, by decide +kernel, by decide +kernel, by decide +kernel⟩, px_c6 (List.mem_of_getElem? (i := 185) (by decide +kernel)) rfl, px_c0 (List.mem_of_getElem? (i := 56) (by decide +kernel)) rfl⟩
theorem plX12_runs : plainFor mX12_runs.1 = true := by decide +kernel
def mX12_isHad : px_M := (yX12_isHad, cX12_isHad, 2, (some .boolean))
theorem okX12_isHad : px_okV mX12_isHad 1 := ⟨⟨px_c7 (List.mem_of_getElem? (i := 23) (by decide +kernel)) rfl, px_c1 (List.mem_of_getElem? (i := 13) (by decide +kernel)) rfl, by decide +kernel, by decide +kernel, by decide +kernel⟩, px_c7 (List.mem_of_getElem? (i := 22) (by decide +kernel)) rfl, px_c0 (List.mem_of_getElem? (i := 70) (by decide +kernel)) rfl⟩
theorem plX12_isHad : plainFor mX12_isHad.1 = true := by decide +kernel
def mX12_onGladSide : px_M := (yX12_onGladSide, cX12_onGladSide, 2, (some .boolean))
theorem okX12_onGladSide : px_okV mX12_onGladSide 1 := ⟨⟨px_c7 (List.mem_of_getElem? (i := 7) (by decide +kernel)) rfl, px_c1 (List.mem_of_getElem? (i := 13) (by decide +kernel)) rfl, by decide +kernel, by decide +kernel, by decide +kernel⟩, px_c7 (List.mem_of_getElem? (i := 6) (by decide +kernel)) rfl, px_c0 (List.mem_of_getElem? (i := 66) (by decide +kernel)) rfl⟩
theorem plX12_onGladSide : plainFor mX12_onGladSide.1 = true := by decide +kernel
def mX12_moreLeft : px_M := (yX12_moreLeft, cX12_moreLeft, 3, (some .int))
theorem okX12_moreLeft : px_okV mX12_moreLeft 0 := ⟨⟨px_c6 (List.mem_of_getElem? (i := 239) (by decide +kernel)) rfl, px_c1 (List.mem_of_getElem? (i := 13) (by decide +kernel)) rfl, by decide +kernel, by decide +kernel, by decide +kernel⟩, px_c6 (List.mem_of_getElem? (i := 238) (by decide +kernel)) rfl, px_c0 (List.mem_of_getElem? (i := 64) (by decide +kernel)) rfl⟩
theorem plX12_moreLeft : plainFor mX12_moreLeft.1 = true := by decide +kernel
def mX12_vote : px_M := (yX12_vote, cX12_vote, 3, none)
theorem okX12_vote : px_okV mX12_vote 0 := ⟨⟨px_c6 (List.mem_of_getElem? (i := 235) (by decide +kernel)) rfl, px_c1 (List.mem_of_getElem? (i := 13) (by decide +kernel)) rfl, by decide +kernel, by decide +kernel, by decide +kernel⟩, px_c6 (List.mem_of_getElem? (i := 234) (by decide +kernel)) rfl, px_c0 (List.mem_of_getElem? (i := 63) (by decide +kernel)) rfl⟩
theorem plX12_vote : plainFor mX12_vote.1 = true := by decide +kernel
def mX12_goJoy : px_M := (yX12_goJoy, cX12_goJoy, 3, none)
theorem okX12_goJoy : px_okV mX12_goJoy 1 := ⟨⟨px_c7 (List.mem_of_getElem? (i := 3) (by decide +kernel)) rfl, px_c1 (List.mem_of_getElem? (i := 13) (by decide +kernel)) rfl, by decide +kernel, by decide +kernel, by decide +kernel⟩, px_c7 (List.mem_of_getElem? (i := 2) (by decide +kernel)) rfl, px_c0 (List.mem_of_getElem? (i := 65) (by decide +kernel)) rfl⟩
theorem plX12_goJoy : plainFor mX12_goJoy.1 = true := by decide +kernel
def mX12_goDay : px_M := (yX12_goDay, cX12_goDay, 2, none)
theorem okX12_goDay : px_okV mX12_goDay 0 := ⟨⟨px_c6 (List.mem_of_getElem? (i := 231) (by decide +kernel)) rfl, px_c1 (List.mem_of_getElem? (i := 13) (by decide +kernel)) rfl, by decide +kernel, by decide +kernel, by decide +kernel⟩, px_c6 (List.mem_of_getElem? (i := 230) (by decide +kernel)) rfl, px_c0 (List.mem_of_getElem? (i := 62) (by decide +kernel)) rfl⟩
theorem plX12_goDay : plainFor mX12_goDay.1 = true := by decide +kernel
def mX12_joysBy : px_M := (yX12_joysBy, cX12_joysBy, 4, (some .int))
theorem okX12_joysBy : px_okV mX12_joysBy 1 := ⟨⟨px_c7 (List.mem_of_getElem? (i := 19) (by decide +kernel)) rfl, px_c1 (List.mem_of_getElem? (i := 13) (by decide +kernel)) rfl, by decide +kernel, by decide +kernel, by decide +kernel⟩, px_c7 (List.mem_of_getElem? (i := 18) (by decide +kernel)) rfl, px_c0 (List.mem_of_getElem? (i := 69) (by decide +kernel)) rfl⟩
theorem plX12_joysBy : plainFor mX12_joysBy.1 = true := by decide +kernel
def mX12_gladPeople : px_M := (yX12_gladPeople, cX12_gladPeople, 3, (some .int))
theorem okX12_gladPeople : px_okV mX12_gladPeople 0 := ⟨⟨px_c7 (List.mem_of_getElem? (i := 15) (by decide +kernel)) rfl, px_c1 (List.mem_of_getElem? (i := 13) (by decide +kernel)) rfl, by decide +kernel, by decide +kernel, by decide +kernel⟩, px_c7 (List.mem_of_getElem? (i := 14) (by decide +kernel)) rfl, px_c0 (List.mem_of_getElem? (i := 68) (by decide +kernel)) rfl⟩
theorem plX12_gladPeople : plainFor mX12_gladPeople.1 = true := by decide +kernel
def mX12_worthsOf : px_M := (yX12_worthsOf, cX12_worthsOf, 4, (some .int))
theorem okX12_worthsOf : px_okV mX12_worthsOf 1 := ⟨⟨px_c7 (List.mem_of_getElem? (i := 27) (by decide +kernel)) rfl, px_c1 (List.mem_of_getElem? (i := 13) (by decide +kernel)) rfl, by decide +kernel, by decide +kernel, by decide +kernel⟩, px_c7 (List.mem_of_getElem? (i := 26) (by decide +kernel)) rfl, px_c0 (List.mem_of_getElem? (i := 71) (by decide +kernel)) rfl⟩
theorem plX12_worthsOf : plainFor mX12_worthsOf.1 = true := by decide +kernel
def mX12_othersRun : px_M := (yX12_othersRun, cX12_othersRun, 4, (some .int))
theorem okX12_othersRun : px_okV mX12_othersRun 1 := ⟨⟨px_c6 (List.mem_of_getElem? (i := 182) (by decide +kernel)) rfl, px_c1 (List.mem_of_getElem? (i := 13) (by decide +kernel)) rfl, by decide +kernel, by decide +kernel, by decide +kernel⟩, px_c6 (List.mem_of_getElem? (i := 181) (by decide +kernel)) rfl, px_c0 (List.mem_of_getElem? (i := 55) (by decide +kernel)) rfl⟩
theorem plX12_othersRun : plainFor mX12_othersRun.1 = true := by decide +kernel
def mX12_apartBy : px_M := (yX12_apartBy, cX12_apartBy, 2, (some .int))
theorem okX12_apartBy : px_okS mX12_apartBy 2 := ⟨⟨px_c6 (List.mem_of_getElem? (i := 178) (by decide +kernel)) rfl, px_c1 (List.mem_of_getElem? (i := 13) (by decide +kernel)) rfl, by decide +kernel, by decide +kernel, by decide +kernel⟩, px_c6 (List.mem_of_getElem? (i := 177) (by decide +kernel)) rfl⟩
theorem plX12_apartBy : plainFor mX12_apartBy.1 = true := by decide +kernel
def mX12_overBy : px_M := (yX12_overBy, cX12_overBy, 5, (some .int))
theorem okX12_overBy : px_okV mX12_overBy 2 := ⟨⟨px_c6 (List.mem_of_getElem? (i := 175) (by decide +kernel)) rfl, px_c1 (List.mem_of_getElem? (i := 13) (by decide +kernel)) rfl, by decide +kernel, by decide +kernel, by decide +kernel⟩, px_c6 (List.mem_of_getElem? (i := 174) (by decide +kernel)) rfl, px_c0 (List.mem_of_getElem? (i := 54) (by decide +kernel)) rfl⟩
theorem plX12_overBy : plainFor mX12_overBy.1 = true := by decide +kernel
def mX12_smell : px_M := (yX12_smell, cX12_smell, 3, (some .int))
theorem okX12_smell : px_okV mX12_smell 2 := ⟨⟨px_c6 (List.mem_of_getElem? (i := 163) (by decide +kernel)) rfl, px_c1 (List.mem_of_getElem? (i := 13) (by decide +kernel)) rfl, by decide +kernel, by decide +kernel, by decide +kernel⟩, px_c6 (List.mem_of_getElem? (i := 161) (by decide +kernel)) rfl, px_c6 (List.mem_of_getElem? (i := 162) (by decide +kernel)) rfl⟩
theorem plX12_smell : plainFor mX12_smell.1 = true := by decide +kernel
def mX12_smeltBy : px_M := (yX12_smeltBy, cX12_smeltBy, 4, (some .int))
theorem okX12_smeltBy : px_okV mX12_smeltBy 1 := ⟨⟨px_c6 (List.mem_of_getElem? (i := 205) (by decide +kernel)) rfl, px_c1 (List.mem_of_getElem? (i := 13) (by decide +kernel)) rfl, by decide +kernel, by decide +kernel, by decide +kernel⟩, px_c6 (List.mem_of_getElem? (i := 204) (by decide +kernel)) rfl, px_c0 (List.mem_of_getElem? (i := 59) (by decide +kernel)) rfl⟩
theorem plX12_smeltBy : plainFor mX12_smeltBy.1 = true := by decide +kernel
def mX12_smelt : px_M := (yX12_smelt, cX12_smelt, 2, (some .int))
theorem okX12_smelt : px_okV mX12_smelt 1 := ⟨⟨px_c6 (List.mem_of_getElem? (i := 201) (by decide +kernel)) rfl, px_c1 (List.mem_of_getElem? (i := 13) (by decide +kernel)) rfl, by decide +kernel, by decide +kernel, by decide +kernel⟩, px_c6 (List.mem_of_getElem? (i := 199) (by decide +kernel)) rfl, px_c6 (List.mem_of_getElem? (i := 200) (by decide +kernel)) rfl⟩
theorem plX12_smelt : plainFor mX12_smelt.1 = true := by decide +kernel
def mX12_noneSmelt : px_M := (yX12_noneSmelt, cX12_noneSmelt, 3, (some .boolean))
theorem okX12_noneSmelt : px_okV mX12_noneSmelt 1 := ⟨⟨px_c6 (List.mem_of_getElem? (i := 216) (by decide +kernel)) rfl, px_c1 (List.mem_of_getElem? (i := 13) (by decide +kernel)) rfl, by decide +kernel, by decide +kernel, by decide +kernel⟩, px_c6 (List.mem_of_getElem? (i := 215) (by decide +kernel)) rfl, px_c0 (List.mem_of_getElem? (i := 60) (by decide +kernel)) rfl⟩
theorem plX12_noneSmelt : plainFor mX12_noneSmelt.1 = true := by decide +kernel
def mX12_shut : px_M := (yX12_shut, cX12_shut, 4, (some .int))
theorem okX12_shut : px_okV mX12_shut 1 := ⟨⟨px_c6 (List.mem_of_getElem? (i := 209) (by decide +kernel)) rfl, px_c1 (List.mem_of_getElem? (i := 13) (by decide +kernel)) rfl, by decide +kernel, by decide +kernel, by decide +kernel⟩, px_c6 (List.mem_of_getElem? (i := 207) (by decide +kernel)) rfl, px_c6 (List.mem_of_getElem? (i := 208) (by decide +kernel)) rfl⟩
theorem plX12_shut : plainFor mX12_shut.1 = true := by decide +kernel
def mX12_goDays : px_M := (yX12_goDays, cX12_goDays, 3, none)
theorem okX12_goDays : px_okV mX12_goDays 1 := ⟨⟨px_c6 (List.mem_of_getElem? (i := 227) (by decide +kernel)) rfl, px_c1 (List.mem_of_getElem? (i := 13) (by decide +kernel)) rfl, by decide +kernel, by decide +kernel, by decide +kernel⟩, px_c6 (List.mem_of_getElem? (i := 226) (by decide +kernel)) rfl, px_c0 (List.mem_of_getElem? (i := 61) (by decide +kernel)) rfl⟩
theorem plX12_goDays : plainFor mX12_goDays.1 = true := by decide +kernel
def mX12_lane : px_M := (yX12_lane, cX12_lane, 3, (some .int))
theorem okX12_lane : px_okV mX12_lane 2 := ⟨⟨px_c6 (List.mem_of_getElem? (i := 223) (by decide +kernel)) rfl, px_c1 (List.mem_of_getElem? (i := 13) (by decide +kernel)) rfl, by decide +kernel, by decide +kernel, by decide +kernel⟩, px_c6 (List.mem_of_getElem? (i := 221) (by decide +kernel)) rfl, px_c6 (List.mem_of_getElem? (i := 222) (by decide +kernel)) rfl⟩
theorem plX12_lane : plainFor mX12_lane.1 = true := by decide +kernel
def mX12_when : px_M := (yX12_when, cX12_when, 4, (some .int))
theorem okX12_when : px_okV mX12_when 2 := ⟨⟨px_c7 (List.mem_of_getElem? (i := 31) (by decide +kernel)) rfl, px_c1 (List.mem_of_getElem? (i := 13) (by decide +kernel)) rfl, by decide +kernel, by decide +kernel, by decide +kernel⟩, px_c7 (List.mem_of_getElem? (i := 29) (by decide +kernel)) rfl, px_c7 (List.mem_of_getElem? (i := 30) (by decide +kernel)) rfl⟩
theorem plX12_when : plainFor mX12_when.1 = true := by decide +kernel
def mX12_hadBehind : px_M := (yX12_hadBehind, cX12_hadBehind, 2, (some .int))
theorem okX12_hadBehind : px_okV mX12_hadBehind 1 := ⟨⟨px_c7 (List.mem_of_getElem? (i := 39) (by decide +kernel)) rfl, px_c1 (List.mem_of_getElem? (i := 13) (by decide +kernel)) rfl, by decide +kernel, by decide +kernel, by decide +kernel⟩, px_c7 (List.mem_of_getElem? (i := 38) (by decide +kernel)) rfl, px_c0 (List.mem_of_getElem? (i := 72) (by decide +kernel)) rfl⟩
theorem plX12_hadBehind : plainFor mX12_hadBehind.1 = true := by decide +kernel
def mX12_move : px_M := (yX12_move, cX12_move, 8, (some .int))
theorem okX12_move : px_okV mX12_move 2 := ⟨⟨px_c7 (List.mem_of_getElem? (i := 35) (by decide +kernel)) rfl, px_c1 (List.mem_of_getElem? (i := 13) (by decide +kernel)) rfl, by decide +kernel, by decide +kernel, by decide +kernel⟩, px_c7 (List.mem_of_getElem? (i := 33) (by decide +kernel)) rfl, px_c7 (List.mem_of_getElem? (i := 34) (by decide +kernel)) rfl⟩
theorem plX12_move : plainFor mX12_move.1 = true := by decide +kernel
def mX12_over : px_M := (yX12_over, cX12_over, 4, (some .int))
theorem okX12_over : px_okV mX12_over 1 := ⟨⟨px_c7 (List.mem_of_getElem? (i := 43) (by decide +kernel)) rfl, px_c1 (List.mem_of_getElem? (i := 13) (by decide +kernel)) rfl, by decide +kernel, by decide +kernel, by decide +kernel⟩, px_c7 (List.mem_of_getElem? (i := 41) (by decide +kernel)) rfl, px_c7 (List.mem_of_getElem? (i := 42) (by decide +kernel)) rfl⟩
theorem plX12_over : plainFor mX12_over.1 = true := by decide +kernel
def mX12_date : px_M := (yX12_date, cX12_date, 9, (some .int))
theorem okX12_date : px_okV mX12_date 3 := ⟨⟨px_c7 (List.mem_of_getElem? (i := 47) (by decide +kernel)) rfl, px_c1 (List.mem_of_getElem? (i := 13) (by decide +kernel)) rfl, by decide +kernel, by decide +kernel, by decide +kernel⟩, px_c7 (List.mem_of_getElem? (i := 45) (by decide +kernel)) rfl, px_c7 (List.mem_of_getElem? (i := 46) (by decide +kernel)) rfl⟩
theorem plX12_date : plainFor mX12_date.1 = true := by decide +kernel
def mX12_rowFault : px_M := (yX12_rowFault, cX12_rowFault, 2, (some .int))
theorem okX12_rowFault : px_okV mX12_rowFault 1 := ⟨⟨px_c7 (List.mem_of_getElem? (i := 55) (by decide +kernel)) rfl, px_c1 (List.mem_of_getElem? (i := 13) (by decide +kernel)) rfl, by decide +kernel, by decide +kernel, by decide +kernel⟩, px_c7 (List.mem_of_getElem? (i := 54) (by decide +kernel)) rfl, px_c0 (List.mem_of_getElem? (i := 73) (by decide +kernel)) rfl⟩
theorem plX12_rowFault : plainFor mX12_rowFault.1 = true := by decide +kernel
def mX12_at : px_M := (yX12_at, cX12_at, 3, (some .int))
theorem okX12_at : px_okV mX12_at 2 := ⟨⟨px_c7 (List.mem_of_getElem? (i := 63) (by decide +kernel)) rfl, px_c1 (List.mem_of_getElem? (i := 13) (by decide +kernel)) rfl, by decide +kernel, by decide +kernel, by decide +kernel⟩, px_c7 (List.mem_of_getElem? (i := 62) (by decide +kernel)) rfl, px_c0 (List.mem_of_getElem? (i := 75) (by decide +kernel)) rfl⟩
theorem plX12_at : plainFor mX12_at.1 = true := by decide +kernel
def mX12_wrongDay : px_M := (yX12_wrongDay, cX12_wrongDay, 5, (some .int))
theorem okX12_wrongDay : px_okV mX12_wrongDay 2 := ⟨⟨px_c7 (List.mem_of_getElem? (i := 59) (by decide +kernel)) rfl, px_c1 (List.mem_of_getElem? (i := 13) (by decide +kernel)) rfl, by decide +kernel, by decide +kernel, by decide +kernel⟩, px_c7 (List.mem_of_getElem? (i := 58) (by decide +kernel)) rfl, px_c0 (List.mem_of_getElem? (i := 74) (by decide +kernel)) rfl⟩
theorem plX12_wrongDay : plainFor mX12_wrongDay.1 = true := by decide +kernel
def mX12_judge : px_M := (yX12_judge, cX12_judge, 3, (some .int))
theorem okX12_judge : px_okV mX12_judge 2 := ⟨⟨px_c7 (List.mem_of_getElem? (i := 51) (by decide +kernel)) rfl, px_c1 (List.mem_of_getElem? (i := 13) (by decide +kernel)) rfl, by decide +kernel, by decide +kernel, by decide +kernel⟩, px_c7 (List.mem_of_getElem? (i := 49) (by decide +kernel)) rfl, px_c7 (List.mem_of_getElem? (i := 50) (by decide +kernel)) rfl⟩
theorem plX12_judge : plainFor mX12_judge.1 = true := by decide +kernel
def mX12_dues : px_M := (yX12_dues, cX12_dues, 9, (some .int))
theorem okX12_dues : px_okV mX12_dues 4 := ⟨⟨px_c7 (List.mem_of_getElem? (i := 71) (by decide +kernel)) rfl, px_c1 (List.mem_of_getElem? (i := 13) (by decide +kernel)) rfl, by decide +kernel, by decide +kernel, by decide +kernel⟩, px_c7 (List.mem_of_getElem? (i := 70) (by decide +kernel)) rfl, px_c0 (List.mem_of_getElem? (i := 76) (by decide +kernel)) rfl⟩
theorem plX12_dues : plainFor mX12_dues.1 = true := by decide +kernel
def mX12_lates : px_M := (yX12_lates, cX12_lates, 9, (some .int))
theorem okX12_lates : px_okV mX12_lates 4 := ⟨⟨px_c7 (List.mem_of_getElem? (i := 75) (by decide +kernel)) rfl, px_c1 (List.mem_of_getElem? (i := 13) (by decide +kernel)) rfl, by decide +kernel, by decide +kernel, by decide +kernel⟩, px_c7 (List.mem_of_getElem? (i := 74) (by decide +kernel)) rfl, px_c0 (List.mem_of_getElem? (i := 77) (by decide +kernel)) rfl⟩
theorem plX12_lates : plainFor mX12_lates.1 = true := by decide +kernel
def mX12_fits : px_M := (yX12_fits, cX12_fits, 4, (some .int))
theorem okX12_fits : px_okV mX12_fits 3 := ⟨⟨px_c7 (List.mem_of_getElem? (i := 67) (by decide +kernel)) rfl, px_c1 (List.mem_of_getElem? (i := 13) (by decide +kernel)) rfl, by decide +kernel, by decide +kernel, by decide +kernel⟩, px_c7 (List.mem_of_getElem? (i := 65) (by decide +kernel)) rfl, px_c7 (List.mem_of_getElem? (i := 66) (by decide +kernel)) rfl⟩
theorem plX12_fits : plainFor mX12_fits.1 = true := by decide +kernel
def mX12_who : px_M := (yX12_who, cX12_who, 4, (some .int))
theorem okX12_who : px_okV mX12_who 1 := ⟨⟨px_c7 (List.mem_of_getElem? (i := 79) (by decide +kernel)) rfl, px_c1 (List.mem_of_getElem? (i := 13) (by decide +kernel)) rfl, by decide +kernel, by decide +kernel, by decide +kernel⟩, px_c7 (List.mem_of_getElem? (i := 77) (by decide +kernel)) rfl, px_c7 (List.mem_of_getElem? (i := 78) (by decide +kernel)) rfl⟩
theorem plX12_who : plainFor mX12_who.1 = true := by decide +kernel
def mX12_share : px_M := (yX12_share, cX12_share, 6, (some .int))
theorem okX12_share : px_okV mX12_share 2 := ⟨⟨px_c7 (List.mem_of_getElem? (i := 83) (by decide +kernel)) rfl, px_c1 (List.mem_of_getElem? (i := 13) (by decide +kernel)) rfl, by decide +kernel, by decide +kernel, by decide +kernel⟩, px_c7 (List.mem_of_getElem? (i := 81) (by decide +kernel)) rfl, px_c7 (List.mem_of_getElem? (i := 82) (by decide +kernel)) rfl⟩
theorem plX12_share : plainFor mX12_share.1 = true := by decide +kernel
def mX12_near : px_M := (yX12_near, cX12_near, 5, (some .int))
theorem okX12_near : px_okV mX12_near 1 := ⟨⟨px_c7 (List.mem_of_getElem? (i := 87) (by decide +kernel)) rfl, px_c1 (List.mem_of_getElem? (i := 13) (by decide +kernel)) rfl, by decide +kernel, by decide +kernel, by decide +kernel⟩, px_c7 (List.mem_of_getElem? (i := 85) (by decide +kernel)) rfl, px_c7 (List.mem_of_getElem? (i := 86) (by decide +kernel)) rfl⟩
theorem plX12_near : plainFor mX12_near.1 = true := by decide +kernel
def mX12_mostMates : px_M := (yX12_mostMates, cX12_mostMates, 7, (some .int))
theorem okX12_mostMates : px_okV mX12_mostMates 3 := ⟨⟨px_c7 (List.mem_of_getElem? (i := 95) (by decide +kernel)) rfl, px_c1 (List.mem_of_getElem? (i := 13) (by decide +kernel)) rfl, by decide +kernel, by decide +kernel, by decide +kernel⟩, px_c7 (List.mem_of_getElem? (i := 94) (by decide +kernel)) rfl, px_c0 (List.mem_of_getElem? (i := 78) (by decide +kernel)) rfl⟩
theorem plX12_mostMates : plainFor mX12_mostMates.1 = true := by decide +kernel
def mX12_mates : px_M := (yX12_mates, cX12_mates, 2, (some .int))
theorem okX12_mates : px_okV mX12_mates 1 := ⟨⟨px_c7 (List.mem_of_getElem? (i := 91) (by decide +kernel)) rfl, px_c1 (List.mem_of_getElem? (i := 13) (by decide +kernel)) rfl, by decide +kernel, by decide +kernel, by decide +kernel⟩, px_c7 (List.mem_of_getElem? (i := 89) (by decide +kernel)) rfl, px_c7 (List.mem_of_getElem? (i := 90) (by decide +kernel)) rfl⟩
theorem plX12_mates : plainFor mX12_mates.1 = true := by decide +kernel
def mX12_endsBy : px_M := (yX12_endsBy, cX12_endsBy, 4, (some .int))
theorem okX12_endsBy : px_okV mX12_endsBy 1 := ⟨⟨px_c7 (List.mem_of_getElem? (i := 108) (by decide +kernel)) rfl, px_c1 (List.mem_of_getElem? (i := 13) (by decide +kernel)) rfl, by decide +kernel, by decide +kernel, by decide +kernel⟩, px_c7 (List.mem_of_getElem? (i := 107) (by decide +kernel)) rfl, px_c0 (List.mem_of_getElem? (i := 80) (by decide +kernel)) rfl⟩
theorem plX12_endsBy : plainFor mX12_endsBy.1 = true := by decide +kernel
def mX12_bestOf : px_M := (yX12_bestOf, cX12_bestOf, 7, (some .int))
theorem okX12_bestOf : px_okV mX12_bestOf 3 := ⟨⟨px_c7 (List.mem_of_getElem? (i := 104) (by decide +kernel)) rfl, px_c1 (List.mem_of_getElem? (i := 13) (by decide +kernel)) rfl, by decide +kernel, by decide +kernel, by decide +kernel⟩, px_c7 (List.mem_of_getElem? (i := 103) (by decide +kernel)) rfl, px_c0 (List.mem_of_getElem? (i := 79) (by decide +kernel)) rfl⟩
theorem plX12_bestOf : plainFor mX12_bestOf.1 = true := by decide +kernel
def mX12_byTurns : px_M := (yX12_byTurns, cX12_byTurns, 5, (some .int))
theorem okX12_byTurns : px_okV mX12_byTurns 2 := ⟨⟨px_c7 (List.mem_of_getElem? (i := 99) (by decide +kernel)) rfl, px_c1 (List.mem_of_getElem? (i := 13) (by decide +kernel)) rfl, by decide +kernel, by decide +kernel, by decide +kernel⟩, px_c7 (List.mem_of_getElem? (i := 97) (by decide +kernel)) rfl, px_c7 (List.mem_of_getElem? (i := 98) (by decide +kernel)) rfl⟩
theorem plX12_byTurns : plainFor mX12_byTurns.1 = true := by decide +kernel
def mX12_drawn : px_M := (yX12_drawn, cX12_drawn, 9, (some .int))
theorem okX12_drawn : px_okV mX12_drawn 3 := ⟨⟨px_c7 (List.mem_of_getElem? (i := 112) (by decide +kernel)) rfl, px_c1 (List.mem_of_getElem? (i := 13) (by decide +kernel)) rfl, by decide +kernel, by decide +kernel, by decide +kernel⟩, px_c7 (List.mem_of_getElem? (i := 110) (by decide +kernel)) rfl, px_c7 (List.mem_of_getElem? (i := 111) (by decide +kernel)) rfl⟩
theorem plX12_drawn : plainFor mX12_drawn.1 = true := by decide +kernel
def mX12_moves : px_M := (yX12_moves, cX12_moves, 4, (some .int))
theorem okX12_moves : px_okV mX12_moves 2 := ⟨⟨px_c7 (List.mem_of_getElem? (i := 117) (by decide +kernel)) rfl, px_c1 (List.mem_of_getElem? (i := 13) (by decide +kernel)) rfl, by decide +kernel, by decide +kernel, by decide +kernel⟩, px_c7 (List.mem_of_getElem? (i := 115) (by decide +kernel)) rfl, px_c7 (List.mem_of_getElem? (i := 116) (by decide +kernel)) rfl⟩
theorem plX12_moves : plainFor mX12_moves.1 = true := by decide +kernel
def mX12_day : px_M := (yX12_day, cX12_day, 3, (some .int))
theorem okX12_day : px_okV mX12_day 0 := ⟨⟨px_c7 (List.mem_of_getElem? (i := 121) (by decide +kernel)) rfl, px_c1 (List.mem_of_getElem? (i := 13) (by decide +kernel)) rfl, by decide +kernel, by decide +kernel, by decide +kernel⟩, px_c7 (List.mem_of_getElem? (i := 119) (by decide +kernel)) rfl, px_c7 (List.mem_of_getElem? (i := 120) (by decide +kernel)) rfl⟩
theorem plX12_day : plainFor mX12_day.1 = true := by decide +kernel
def mX12_livedIn : px_M := (yX12_livedIn, cX12_livedIn, 3, (some .int))
theorem okX12_livedIn : px_okV mX12_livedIn 0 := ⟨⟨px_c7 (List.mem_of_getElem? (i := 129) (by decide +kernel)) rfl, px_c1 (List.mem_of_getElem? (i := 13) (by decide +kernel)) rfl, by decide +kernel, by decide +kernel, by decide +kernel⟩, px_c7 (List.mem_of_getElem? (i := 128) (by decide +kernel)) rfl, px_c0 (List.mem_of_getElem? (i := 81) (by decide +kernel)) rfl⟩
theorem plX12_livedIn : plainFor mX12_livedIn.1 = true := by decide +kernel
def mX12_inspect : px_M := (yX12_inspect, cX12_inspect, 3, (some .int))
theorem okX12_inspect : px_okV mX12_inspect 0 := ⟨⟨px_c7 (List.mem_of_getElem? (i := 125) (by decide +kernel)) rfl, px_c1 (List.mem_of_getElem? (i := 13) (by decide +kernel)) rfl, by decide +kernel, by decide +kernel, by decide +kernel⟩, px_c7 (List.mem_of_getElem? (i := 123) (by decide +kernel)) rfl, px_c7 (List.mem_of_getElem? (i := 124) (by decide +kernel)) rfl⟩
theorem plX12_inspect : plainFor mX12_inspect.1 = true := by decide +kernel
def mX12_led : px_M := (yX12_led, cX12_led, 2, (some .int))
theorem okX12_led : px_okV mX12_led 1 := ⟨⟨px_c7 (List.mem_of_getElem? (i := 133) (by decide +kernel)) rfl, px_c1 (List.mem_of_getElem? (i := 13) (by decide +kernel)) rfl, by decide +kernel, by decide +kernel, by decide +kernel⟩, px_c7 (List.mem_of_getElem? (i := 131) (by decide +kernel)) rfl, px_c7 (List.mem_of_getElem? (i := 132) (by decide +kernel)) rfl⟩
theorem plX12_led : plainFor mX12_led.1 = true := by decide +kernel
def mX12_image : px_M := (yX12_image, cX12_image, 2, (some .int))
theorem okX12_image : px_okV mX12_image 0 := ⟨⟨px_c7 (List.mem_of_getElem? (i := 137) (by decide +kernel)) rfl, px_c1 (List.mem_of_getElem? (i := 13) (by decide +kernel)) rfl, by decide +kernel, by decide +kernel, by decide +kernel⟩, px_c7 (List.mem_of_getElem? (i := 135) (by decide +kernel)) rfl, px_c7 (List.mem_of_getElem? (i := 136) (by decide +kernel)) rfl⟩
theorem plX12_image : plainFor mX12_image.1 = true := by decide +kernel
def mX12_back : px_M := (yX12_back, cX12_back, 2, (some .int))
theorem okX12_back : px_okV mX12_back 0 := ⟨⟨px_c7 (List.mem_of_getElem? (i := 141) (by decide +kernel)) rfl, px_c1 (List.mem_of_getElem? (i := 13) (by decide +kernel)) rfl, by decide +kernel, by decide +kernel, by decide +kernel⟩, px_c7 (List.mem_of_getElem? (i := 139) (by decide +kernel)) rfl, px_c7 (List.mem_of_getElem? (i := 140) (by decide +kernel)) rfl⟩
theorem plX12_back : plainFor mX12_back.1 = true := by decide +kernel
def mX12_isBody : px_M := (yX12_isBody, cX12_isBody, 2, (some .boolean))
theorem okX12_isBody : px_okV mX12_isBody 1 := ⟨⟨px_c7 (List.mem_of_getElem? (i := 157) (by decide +kernel)) rfl, px_c1 (List.mem_of_getElem? (i := 13) (by decide +kernel)) rfl, by decide +kernel, by decide +kernel, by decide +kernel⟩, px_c7 (List.mem_of_getElem? (i := 156) (by decide +kernel)) rfl, px_c0 (List.mem_of_getElem? (i := 82) (by decide +kernel)) rfl⟩
theorem plX12_isBody : plainFor mX12_isBody.1 = true := by decide +kernel
def mX12_ran : px_M := (yX12_ran, cX12_ran, 2, none)
theorem okX12_ran : px_okV mX12_ran 1 := ⟨⟨px_c7 (List.mem_of_getElem? (i := 168) (by decide +kernel)) rfl, px_c1 (List.mem_of_getElem? (i := 13) (by decide +kernel)) rfl, by decide +kernel, by decide +kernel, by decide +kernel⟩, px_c7 (List.mem_of_getElem? (i := 167) (by decide +kernel)) rfl, px_c0 (List.mem_of_getElem? (i := 84) (by decide +kernel)) rfl⟩
theorem plX12_ran : plainFor mX12_ran.1 = true := by decide +kernel
def mX12_trace : px_M := (yX12_trace, cX12_trace, 2, (some .int))
theorem okX12_trace : px_okV mX12_trace 1 := ⟨⟨px_c7 (List.mem_of_getElem? (i := 145) (by decide +kernel)) rfl, px_c1 (List.mem_of_getElem? (i := 13) (by decide +kernel)) rfl, by decide +kernel, by decide +kernel, by decide +kernel⟩, px_c7 (List.mem_of_getElem? (i := 143) (by decide +kernel)) rfl, px_c7 (List.mem_of_getElem? (i := 144) (by decide +kernel)) rfl⟩
theorem plX12_trace : plainFor mX12_trace.1 = true := by decide +kernel
def mX12_body : px_M := (yX12_body, cX12_body, 2, (some .int))
theorem okX12_body : px_okV mX12_body 1 := ⟨⟨px_c7 (List.mem_of_getElem? (i := 149) (by decide +kernel)) rfl, px_c1 (List.mem_of_getElem? (i := 13) (by decide +kernel)) rfl, by decide +kernel, by decide +kernel, by decide +kernel⟩, px_c7 (List.mem_of_getElem? (i := 147) (by decide +kernel)) rfl, px_c7 (List.mem_of_getElem? (i := 148) (by decide +kernel)) rfl⟩
theorem plX12_body : plainFor mX12_body.1 = true := by decide +kernel
def mX12_isUnder : px_M := (yX12_isUnder, cX12_isUnder, 2, (some .boolean))
theorem okX12_isUnder : px_okS mX12_isUnder 2 := ⟨⟨px_c7 (List.mem_of_getElem? (i := 164) (by decide +kernel)) rfl, px_c1 (List.mem_of_getElem? (i := 13) (by decide +kernel)) rfl, by decide +kernel, by decide +kernel, by decide +kernel⟩, px_c7 (List.mem_of_getElem? (i := 163) (by decide +kernel)) rfl⟩
theorem plX12_isUnder : plainFor mX12_isUnder.1 = true := by decide +kernel
def mX12_plainOpens : px_M := (yX12_plainOpens, cX12_plainOpens, 3, (some .int))
theorem okX12_plainOpens : px_okV mX12_plainOpens 2 := ⟨⟨px_c7 (List.mem_of_getElem? (i := 172) (by decide +kernel)) rfl, px_c1 (List.mem_of_getElem? (i := 13) (by decide +kernel)) rfl, by decide +kernel, by decide +kernel, by decide +kernel⟩, px_c7 (List.mem_of_getElem? (i := 171) (by decide +kernel)) rfl, px_c0 (List.mem_of_getElem? (i := 85) (by decide +kernel)) rfl⟩
theorem plX12_plainOpens : plainFor mX12_plainOpens.1 = true := by decide +kernel
def mX12_springOpens : px_M := (yX12_springOpens, cX12_springOpens, 3, (some .int))
theorem okX12_springOpens : px_okV mX12_springOpens 2 := ⟨⟨px_c7 (List.mem_of_getElem? (i := 176) (by decide +kernel)) rfl, px_c1 (List.mem_of_getElem? (i := 13) (by decide +kernel)) rfl, by decide +kernel, by decide +kernel, by decide +kernel⟩, px_c7 (List.mem_of_getElem? (i := 175) (by decide +kernel)) rfl, px_c0 (List.mem_of_getElem? (i := 86) (by decide +kernel)) rfl⟩
theorem plX12_springOpens : plainFor mX12_springOpens.1 = true := by decide +kernel
def mX12_opening : px_M := (yX12_opening, cX12_opening, 3, (some .int))
theorem okX12_opening : px_okV mX12_opening 2 := ⟨⟨px_c7 (List.mem_of_getElem? (i := 161) (by decide +kernel)) rfl, px_c1 (List.mem_of_getElem? (i := 13) (by decide +kernel)) rfl, by decide +kernel, by decide +kernel, by decide +kernel⟩, px_c7 (List.mem_of_getElem? (i := 160) (by decide +kernel)) rfl, px_c0 (List.mem_of_getElem? (i := 83) (by decide +kernel)) rfl⟩
theorem plX12_opening : plainFor mX12_opening.1 = true := by decide +kernel
def mX12_plainSmells : px_M := (yX12_plainSmells, cX12_plainSmells, 3, (some .int))
theorem okX12_plainSmells : px_okV mX12_plainSmells 2 := ⟨⟨px_c7 (List.mem_of_getElem? (i := 188) (by decide +kernel)) rfl, px_c1 (List.mem_of_getElem? (i := 13) (by decide +kernel)) rfl, by decide +kernel, by decide +kernel, by decide +kernel⟩, px_c7 (List.mem_of_getElem? (i := 187) (by decide +kernel)) rfl, px_c0 (List.mem_of_getElem? (i := 89) (by decide +kernel)) rfl⟩
theorem plX12_plainSmells : plainFor mX12_plainSmells.1 = true := by decide +kernel
def mX12_weddingSmells : px_M := (yX12_weddingSmells, cX12_weddingSmells, 3, (some .int))
theorem okX12_weddingSmells : px_okV mX12_weddingSmells 2 := ⟨⟨px_c7 (List.mem_of_getElem? (i := 184) (by decide +kernel)) rfl, px_c1 (List.mem_of_getElem? (i := 13) (by decide +kernel)) rfl, by decide +kernel, by decide +kernel, by decide +kernel⟩, px_c7 (List.mem_of_getElem? (i := 183) (by decide +kernel)) rfl, px_c0 (List.mem_of_getElem? (i := 88) (by decide +kernel)) rfl⟩
theorem plX12_weddingSmells : plainFor mX12_weddingSmells.1 = true := by decide +kernel
def mX12_smelling : px_M := (yX12_smelling, cX12_smelling, 4, (some .int))
theorem okX12_smelling : px_okV mX12_smelling 2 := ⟨⟨px_c7 (List.mem_of_getElem? (i := 180) (by decide +kernel)) rfl, px_c1 (List.mem_of_getElem? (i := 13) (by decide +kernel)) rfl, by decide +kernel, by decide +kernel, by decide +kernel⟩, px_c7 (List.mem_of_getElem? (i := 179) (by decide +kernel)) rfl, px_c0 (List.mem_of_getElem? (i := 87) (by decide +kernel)) rfl⟩
theorem plX12_smelling : plainFor mX12_smelling.1 = true := by decide +kernel
def mX12_plainVotes : px_M := (yX12_plainVotes, cX12_plainVotes, 3, (some .int))
theorem okX12_plainVotes : px_okV mX12_plainVotes 2 := ⟨⟨px_c7 (List.mem_of_getElem? (i := 200) (by decide +kernel)) rfl, px_c1 (List.mem_of_getElem? (i := 13) (by decide +kernel)) rfl, by decide +kernel, by decide +kernel, by decide +kernel⟩, px_c7 (List.mem_of_getElem? (i := 199) (by decide +kernel)) rfl, px_c0 (List.mem_of_getElem? (i := 92) (by decide +kernel)) rfl⟩
theorem plX12_plainVotes : plainFor mX12_plainVotes.1 = true := by decide +kernel
def mX12_widowVotes : px_M := (yX12_widowVotes, cX12_widowVotes, 3, (some .int))
theorem okX12_widowVotes : px_okV mX12_widowVotes 2 := ⟨⟨px_c7 (List.mem_of_getElem? (i := 196) (by decide +kernel)) rfl, px_c1 (List.mem_of_getElem? (i := 13) (by decide +kernel)) rfl, by decide +kernel, by decide +kernel, by decide +kernel⟩, px_c7 (List.mem_of_getElem? (i := 195) (by decide +kernel)) rfl, px_c0 (List.mem_of_getElem? (i := 91) (by decide +kernel)) rfl⟩
theorem plX12_widowVotes : plainFor mX12_widowVotes.1 = true := by decide +kernel
def mX12_voting : px_M := (yX12_voting, cX12_voting, 4, (some .int))
theorem okX12_voting : px_okV mX12_voting 2 := ⟨⟨px_c7 (List.mem_of_getElem? (i := 192) (by decide +kernel)) rfl, px_c1 (List.mem_of_getElem? (i := 13) (by decide +kernel)) rfl, by decide +kernel, by decide +kernel, by decide +kernel⟩, px_c7 (List.mem_of_getElem? (i := 191) (by decide +kernel)) rfl, px_c0 (List.mem_of_getElem? (i := 90) (by decide +kernel)) rfl⟩
theorem plX12_voting : plainFor mX12_voting.1 = true := by decide +kernel
def mX12_plainTells : px_M := (yX12_plainTells, cX12_plainTells, 4, (some .int))
theorem okX12_plainTells : px_okV mX12_plainTells 2 := ⟨⟨px_c7 (List.mem_of_getElem? (i := 208) (by decide +kernel)) rfl, px_c1 (List.mem_of_getElem? (i := 13) (by decide +kernel)) rfl, by decide +kernel, by decide +kernel, by decide +kernel⟩, px_c7 (List.mem_of_getElem? (i := 207) (by decide +kernel)) rfl, px_c0 (List.mem_of_getElem? (i := 94) (by decide +kernel)) rfl⟩
theorem plX12_plainTells : plainFor mX12_plainTells.1 = true := by decide +kernel
def mX12_telling : px_M := (yX12_telling, cX12_telling, 3, (some .int))
theorem okX12_telling : px_okV mX12_telling 2 := ⟨⟨px_c7 (List.mem_of_getElem? (i := 204) (by decide +kernel)) rfl, px_c1 (List.mem_of_getElem? (i := 13) (by decide +kernel)) rfl, by decide +kernel, by decide +kernel, by decide +kernel⟩, px_c7 (List.mem_of_getElem? (i := 203) (by decide +kernel)) rfl, px_c0 (List.mem_of_getElem? (i := 93) (by decide +kernel)) rfl⟩
theorem plX12_telling : plainFor mX12_telling.1 = true := by decide +kernel
def mX12_act : px_M := (yX12_act, cX12_act, 4, (some .int))
theorem okX12_act : px_okV mX12_act 3 := ⟨⟨px_c7 (List.mem_of_getElem? (i := 153) (by decide +kernel)) rfl, px_c1 (List.mem_of_getElem? (i := 13) (by decide +kernel)) rfl, by decide +kernel, by decide +kernel, by decide +kernel⟩, px_c7 (List.mem_of_getElem? (i := 151) (by decide +kernel)) rfl, px_c7 (List.mem_of_getElem? (i := 152) (by decide +kernel)) rfl⟩
theorem plX12_act : plainFor mX12_act.1 = true := by decide +kernel
def mX12_count : px_M := (yX12_count, cX12_count, 2, (some .int))
theorem okX12_count : px_okV mX12_count 1 := ⟨⟨px_c7 (List.mem_of_getElem? (i := 212) (by decide +kernel)) rfl, px_c1 (List.mem_of_getElem? (i := 13) (by decide +kernel)) rfl, by decide +kernel, by decide +kernel, by decide +kernel⟩, px_c7 (List.mem_of_getElem? (i := 210) (by decide +kernel)) rfl, px_c7 (List.mem_of_getElem? (i := 211) (by decide +kernel)) rfl⟩
theorem plX12_count : plainFor mX12_count.1 = true := by decide +kernel
def mX12_isShelf : px_M := (yX12_isShelf, cX12_isShelf, 1, (some .boolean))
theorem okX12_isShelf : px_okS mX12_isShelf 1 := ⟨⟨px_c6 (List.mem_of_getElem? (i := 53) (by decide +kernel)) rfl, px_c1 (List.mem_of_getElem? (i := 13) (by decide +kernel)) rfl, by decide +kernel, by decide +kernel, by decide +kernel⟩, px_c6 (List.mem_of_getElem? (i := 52) (by decide +kernel)) rfl⟩
theorem plX12_isShelf : plainFor mX12_isShelf.1 = true := by decide +kernel
def mX12_keep : px_M := (yX12_keep, cX12_keep, 3, (some .int))
theorem okX12_keep : px_okV mX12_keep 2 := ⟨⟨px_c7 (List.mem_of_getElem? (i := 216) (by decide +kernel)) rfl, px_c1 (List.mem_of_getElem? (i := 13) (by decide +kernel)) rfl, by decide +kernel, by decide +kernel, by decide +kernel⟩, px_c7 (List.mem_of_getElem? (i := 214) (by decide +kernel)) rfl, px_c7 (List.mem_of_getElem? (i := 215) (by decide +kernel)) rfl⟩
theorem plX12_keep : plainFor mX12_keep.1 = true := by decide +kernel
def mX12_row : px_M := (yX12_row, cX12_row, 5, (some .int))
theorem okX12_row : px_okV mX12_row 3 := ⟨⟨px_c7 (List.mem_of_getElem? (i := 220) (by decide +kernel)) rfl, px_c1 (List.mem_of_getElem? (i := 13) (by decide +kernel)) rfl, by decide +kernel, by decide +kernel, by decide +kernel⟩, px_c7 (List.mem_of_getElem? (i := 218) (by decide +kernel)) rfl, px_c7 (List.mem_of_getElem? (i := 219) (by decide +kernel)) rfl⟩
theorem plX12_row : plainFor mX12_row.1 = true := by decide +kernel
def mX12_whyNoPlace : px_M := (yX12_whyNoPlace, cX12_whyNoPlace, 3, (some .int))
theorem okX12_whyNoPlace : px_okV mX12_whyNoPlace 2 := ⟨⟨px_c7 (List.mem_of_getElem? (i := 228) (by decide +kernel)) rfl, px_c1 (List.mem_of_getElem? (i := 13) (by decide +kernel)) rfl, by decide +kernel, by decide +kernel, by decide +kernel⟩, px_c7 (List.mem_of_getElem? (i := 227) (by decide +kernel)) rfl, px_c0 (List.mem_of_getElem? (i := 95) (by decide +kernel)) rfl⟩
theorem plX12_whyNoPlace : plainFor mX12_whyNoPlace.1 = true := by decide +kernel
def mX12_put : px_M := (yX12_put, cX12_put, 7, (some .int))
theorem okX12_put : px_okV mX12_put 3 := ⟨⟨px_c7 (List.mem_of_getElem? (i := 224) (by decide +kernel)) rfl, px_c1 (List.mem_of_getElem? (i := 13) (by decide +kernel)) rfl, by decide +kernel, by decide +kernel, by decide +kernel⟩, px_c7 (List.mem_of_getElem? (i := 222) (by decide +kernel)) rfl, px_c7 (List.mem_of_getElem? (i := 223) (by decide +kernel)) rfl⟩
theorem plX12_put : plainFor mX12_put.1 = true := by decide +kernel
def mX12_element : px_M := (yX12_element, cX12_element, 3, (some .long))
theorem okX12_element : px_okV mX12_element 2 := ⟨⟨px_c7 (List.mem_of_getElem? (i := 232) (by decide +kernel)) rfl, px_c1 (List.mem_of_getElem? (i := 13) (by decide +kernel)) rfl, by decide +kernel, by decide +kernel, by decide +kernel⟩, px_c7 (List.mem_of_getElem? (i := 230) (by decide +kernel)) rfl, px_c7 (List.mem_of_getElem? (i := 231) (by decide +kernel)) rfl⟩
theorem plX12_element : plainFor mX12_element.1 = true := by decide +kernel
def mX12_shift : px_M := (yX12_shift, cX12_shift, 7, (some .int))
theorem okX12_shift : px_okV mX12_shift 5 := ⟨⟨px_c7 (List.mem_of_getElem? (i := 237) (by decide +kernel)) rfl, px_c1 (List.mem_of_getElem? (i := 13) (by decide +kernel)) rfl, by decide +kernel, by decide +kernel, by decide +kernel⟩, px_c7 (List.mem_of_getElem? (i := 235) (by decide +kernel)) rfl, px_c7 (List.mem_of_getElem? (i := 236) (by decide +kernel)) rfl⟩
theorem plX12_shift : plainFor mX12_shift.1 = true := by decide +kernel
def mX12_taken : px_M := (yX12_taken, cX12_taken, 3, (some .int))
theorem okX12_taken : px_okV mX12_taken 2 := ⟨⟨px_c8 (List.mem_of_getElem? (i := 1) (by decide +kernel)) rfl, px_c1 (List.mem_of_getElem? (i := 13) (by decide +kernel)) rfl, by decide +kernel, by decide +kernel, by decide +kernel⟩, px_c7 (List.mem_of_getElem? (i := 239) (by decide +kernel)) rfl, px_c8 (List.mem_of_getElem? (i := 0) (by decide +kernel)) rfl⟩
theorem plX12_taken : plainFor mX12_taken.1 = true := by decide +kernel
def mJ6_bitCount_0f7a4 : px_M := (yJ6_bitCount_0f7a4, cJ6_bitCount_0f7a4, 1, (some .int))
theorem okJ6_bitCount_0f7a4 : px_okS mJ6_bitCount_0f7a4 1 := ⟨⟨px_c3 (List.mem_of_getElem? (i := 178) (by decide +kernel)) rfl, px_c1 (List.mem_of_getElem? (i := 16) (by decide +kernel)) rfl, by decide +kernel, by decide +kernel, by decide +kernel⟩, px_c3 (List.mem_of_getElem? (i := 177) (by decide +kernel)) rfl⟩
theorem plJ6_bitCount_0f7a4 : plainFor mJ6_bitCount_0f7a4.1 = true := by decide +kernel
def mJ9_abs_0f7a4 : px_M := (yJ9_abs_0f7a4, cJ9_abs_0f7a4, 1, (some .int))
theorem okJ9_abs_0f7a4 : px_okS mJ9_abs_0f7a4 1 := ⟨⟨px_c3 (List.mem_of_getElem? (i := 122) (by decide +kernel)) rfl, px_c1 (List.mem_of_getElem? (i := 15) (by decide +kernel)) rfl, by decide +kernel, by decide +kernel, by decide +kernel⟩, px_c3 (List.mem_of_getElem? (i := 121) (by decide +kernel)) rfl⟩
theorem plJ9_abs_0f7a4 : plainFor mJ9_abs_0f7a4.1 = true := by decide +kernel
def mJ9_max_7cf53 : px_M := (yJ9_max_7cf53, cJ9_max_7cf53, 2, (some .int))
theorem okJ9_max_7cf53 : px_okS mJ9_max_7cf53 2 := ⟨⟨px_c3 (List.mem_of_getElem? (i := 149) (by decide +kernel)) rfl, px_c1 (List.mem_of_getElem? (i := 15) (by decide +kernel)) rfl, by decide +kernel, by decide +kernel, by decide +kernel⟩, px_c3 (List.mem_of_getElem? (i := 148) (by decide +kernel)) rfl⟩
theorem plJ9_max_7cf53 : plainFor mJ9_max_7cf53.1 = true := by decide +kernel
def mJ9_min_7cf53 : px_M := (yJ9_min_7cf53, cJ9_min_7cf53, 2, (some .int))
theorem okJ9_min_7cf53 : px_okS mJ9_min_7cf53 2 := ⟨⟨px_c3 (List.mem_of_getElem? (i := 155) (by decide +kernel)) rfl, px_c1 (List.mem_of_getElem? (i := 15) (by decide +kernel)) rfl, by decide +kernel, by decide +kernel, by decide +kernel⟩, px_c3 (List.mem_of_getElem? (i := 154) (by decide +kernel)) rfl⟩
theorem plJ9_min_7cf53 : plainFor mJ9_min_7cf53.1 = true := by decide +kernel
theorem flX7_9 : px_fl RX7 9 7 0 true (.array .int) := ⟨RX7, TX7, 10, tyX7, rfl, by decide, inX7, tyX7_ok, nmX7, px_c1 (List.mem_of_getElem? (i := 31) (by decide +kernel)) rfl, rfl, rfl, by decide +kernel⟩
theorem flX2_50 : px_fl RX2 50 7 0 true (.array .int) := ⟨RX7, TX7, 10, tyX7, rfl, by decide, inX7, tyX7_ok, nmX7, px_c1 (List.mem_of_getElem? (i := 32) (by decide +kernel)) rfl, rfl, rfl, by decide +kernel⟩
theorem flX11_163 : px_fl RX11 163 7 0 true (.array .int) := ⟨RX7, TX7, 10, tyX7, rfl, by decide, inX7, tyX7_ok, nmX7, px_c1 (List.mem_of_getElem? (i := 33) (by decide +kernel)) rfl, rfl, rfl, by decide +kernel⟩
theorem flX7_15 : px_fl RX7 15 7 1 true (.array .int) := ⟨RX7, TX7, 10, tyX7, rfl, by decide, inX7, tyX7_ok, nmX7, px_c1 (List.mem_of_getElem? (i := 34) (by decide +kernel)) rfl, rfl, rfl, by decide +kernel⟩
theorem flX2_62 : px_fl RX2 62 7 1 true (.array .int) := ⟨RX7, TX7, 10, tyX7, rfl, by decide, inX7, tyX7_ok, nmX7, px_c1 (List.mem_of_getElem? (i := 35) (by decide +kernel)) rfl, rfl, rfl, by decide +kernel⟩
theorem flX4_61 : px_fl RX4 61 7 1 true (.array .int) := ⟨RX7, TX7, 10, tyX7, rfl, by decide, inX7, tyX7_ok, nmX7, px_c1 (List.mem_of_getElem? (i := 36) (by decide +kernel)) rfl, rfl, rfl, by decide +kernel⟩
theorem flX9_76 : px_fl RX9 76 7 1 true (.array .int) := ⟨RX7, TX7, 10, tyX7, rfl, by decide, inX7, tyX7_ok, nmX7, px_c1 (List.mem_of_getElem? (i := 37) (by decide +kernel)) rfl, rfl, rfl, by decide +kernel⟩
theorem flX11_245 : px_fl RX11 245 7 1 true (.array .int) := ⟨RX7, TX7, 10, tyX7, rfl, by decide, inX7, tyX7_ok, nmX7, px_c1 (List.mem_of_getElem? (i := 38) (by decide +kernel)) rfl, rfl, rfl, by decide +kernel⟩
theorem flX7_18 : px_fl RX7 18 7 2 true (.array .int) := ⟨RX7, TX7, 10, tyX7, rfl, by decide, inX7, tyX7_ok, nmX7, px_c1 (List.mem_of_getElem? (i := 39) (by decide +kernel)) rfl, rfl, rfl, by decide +kernel⟩
theorem flX6_66 : px_fl RX6 66 7 2 true (.array .int) := ⟨RX7, TX7, 10, tyX7, rfl, by decide, inX7, tyX7_ok, nmX7, px_c1 (List.mem_of_getElem? (i := 40) (by decide +kernel)) rfl, rfl, rfl, by decide +kernel⟩
theorem flX2_59 : px_fl RX2 59 7 2 true (.array .int) := ⟨RX7, TX7, 10, tyX7, rfl, by decide, inX7, tyX7_ok, nmX7, px_c1 (List.mem_of_getElem? (i := 41) (by decide +kernel)) rfl, rfl, rfl, by decide +kernel⟩
theorem flX4_64 : px_fl RX4 64 7 2 true (.array .int) := ⟨RX7, TX7, 10, tyX7, rfl, by decide, inX7, tyX7_ok, nmX7, px_c1 (List.mem_of_getElem? (i := 42) (by decide +kernel)) rfl, rfl, rfl, by decide +kernel⟩
theorem flX7_21 : px_fl RX7 21 7 3 true (.array .int) := ⟨RX7, TX7, 10, tyX7, rfl, by decide, inX7, tyX7_ok, nmX7, px_c1 (List.mem_of_getElem? (i := 43) (by decide +kernel)) rfl, rfl, rfl, by decide +kernel⟩
theorem flX4_67 : px_fl RX4 67 7 3 true (.array .int) := ⟨RX7, TX7, 10, tyX7, rfl, by decide, inX7, tyX7_ok, nmX7, px_c1 (List.mem_of_getElem? (i := 44) (by decide +kernel)) rfl, rfl, rfl, by decide +kernel⟩
theorem flX2_111 : px_fl RX2 111 7 3 true (.array .int) := ⟨RX7, TX7, 10, tyX7, rfl, by decide, inX7, tyX7_ok, nmX7, px_c1 (List.mem_of_getElem? (i := 45) (by decide +kernel)) rfl, rfl, rfl, by decide +kernel⟩
theorem flX11_252 : px_fl RX11 252 7 3 true (.array .int) := ⟨RX7, TX7, 10, tyX7, rfl, by decide, inX7, tyX7_ok, nmX7, px_c1 (List.mem_of_getElem? (i := 46) (by decide +kernel)) rfl, rfl, rfl, by decide +kernel⟩
theorem flX7_24 : px_fl RX7 24 7 4 true (.array .int) := ⟨RX7, TX7, 10, tyX7, rfl, by decide, inX7, tyX7_ok, nmX7, px_c1 (List.mem_of_getElem? (i := 47) (by decide +kernel)) rfl, rfl, rfl, by decide +kernel⟩
theorem flX6_50 : px_fl RX6 50 7 4 true (.array .int) := ⟨RX7, TX7, 10, tyX7, rfl, by decide, inX7, tyX7_ok, nmX7, px_c1 (List.mem_of_getElem? (i := 48) (by decide +kernel)) rfl, rfl, rfl, by decide +kernel⟩
theorem flX11_146 : px_fl RX11 146 7 4 true (.array .int) := ⟨RX7, TX7, 10, tyX7, rfl, by decide, inX7, tyX7_ok, nmX7, px_c1 (List.mem_of_getElem? (i := 49) (by decide +kernel)) rfl, rfl, rfl, by decide +kernel⟩
theorem flX4_70 : px_fl RX4 70 7 4 true (.array .int) := ⟨RX7, TX7, 10, tyX7, rfl, by decide, inX7, tyX7_ok, nmX7, px_c1 (List.mem_of_getElem? (i := 50) (by decide +kernel)) rfl, rfl, rfl, by decide +kernel⟩
theorem flX2_88 : px_fl RX2 88 7 4 true (.array .int) := ⟨RX7, TX7, 10, tyX7, rfl, by decide, inX7, tyX7_ok, nmX7, px_c1 (List.mem_of_getElem? (i := 51) (by decide +kernel)) rfl, rfl, rfl, by decide +kernel⟩
theorem flX7_27 : px_fl RX7 27 7 5 true (.array .int) := ⟨RX7, TX7, 10, tyX7, rfl, by decide, inX7, tyX7_ok, nmX7, px_c1 (List.mem_of_getElem? (i := 52) (by decide +kernel)) rfl, rfl, rfl, by decide +kernel⟩
theorem flX6_69 : px_fl RX6 69 7 5 true (.array .int) := ⟨RX7, TX7, 10, tyX7, rfl, by decide, inX7, tyX7_ok, nmX7, px_c1 (List.mem_of_getElem? (i := 53) (by decide +kernel)) rfl, rfl, rfl, by decide +kernel⟩
theorem flX4_73 : px_fl RX4 73 7 5 true (.array .int) := ⟨RX7, TX7, 10, tyX7, rfl, by decide, inX7, tyX7_ok, nmX7, px_c1 (List.mem_of_getElem? (i := 54) (by decide +kernel)) rfl, rfl, rfl, by decide +kernel⟩
theorem flX7_37 : px_fl RX7 37 7 6 false .int := ⟨RX7, TX7, 10, tyX7, rfl, by decide, inX7, tyX7_ok, nmX7, px_c1 (List.mem_of_getElem? (i := 55) (by decide +kernel)) rfl, rfl, rfl, by decide +kernel⟩
theorem flX9_31 : px_fl RX9 31 7 6 false .int := ⟨RX7, TX7, 10, tyX7, rfl, by decide, inX7, tyX7_ok, nmX7, px_c1 (List.mem_of_getElem? (i := 56) (by decide +kernel)) rfl, rfl, rfl, by decide +kernel⟩
theorem flX11_103 : px_fl RX11 103 7 6 false .int := ⟨RX7, TX7, 10, tyX7, rfl, by decide, inX7, tyX7_ok, nmX7, px_c1 (List.mem_of_getElem? (i := 57) (by decide +kernel)) rfl, rfl, rfl, by decide +kernel⟩
theorem flX10_33 : px_fl RX10 33 7 6 false .int := ⟨RX7, TX7, 10, tyX7, rfl, by decide, inX7, tyX7_ok, nmX7, px_c1 (List.mem_of_getElem? (i := 58) (by decide +kernel)) rfl, rfl, rfl, by decide +kernel⟩
theorem flX6_107 : px_fl RX6 107 7 6 false .int := ⟨RX7, TX7, 10, tyX7, rfl, by decide, inX7, tyX7_ok, nmX7, px_c1 (List.mem_of_getElem? (i := 59) (by decide +kernel)) rfl, rfl, rfl, by decide +kernel⟩
theorem flX2_82 : px_fl RX2 82 7 6 false .int := ⟨RX7, TX7, 10, tyX7, rfl, by decide, inX7, tyX7_ok, nmX7, px_c1 (List.mem_of_getElem? (i := 60) (by decide +kernel)) rfl, rfl, rfl, by decide +kernel⟩
theorem flX9_37 : px_fl RX9 37 7 7 false .int := ⟨RX7, TX7, 10, tyX7, rfl, by decide, inX7, tyX7_ok, nmX7, px_c1 (List.mem_of_getElem? (i := 61) (by decide +kernel)) rfl, rfl, rfl, by decide +kernel⟩
theorem flX7_40 : px_fl RX7 40 7 7 false .int := ⟨RX7, TX7, 10, tyX7, rfl, by decide, inX7, tyX7_ok, nmX7, px_c1 (List.mem_of_getElem? (i := 62) (by decide +kernel)) rfl, rfl, rfl, by decide +kernel⟩
theorem flX11_115 : px_fl RX11 115 7 7 false .int := ⟨RX7, TX7, 10, tyX7, rfl, by decide, inX7, tyX7_ok, nmX7, px_c1 (List.mem_of_getElem? (i := 63) (by decide +kernel)) rfl, rfl, rfl, by decide +kernel⟩
theorem flX6_80 : px_fl RX6 80 7 7 false .int := ⟨RX7, TX7, 10, tyX7, rfl, by decide, inX7, tyX7_ok, nmX7, px_c1 (List.mem_of_getElem? (i := 64) (by decide +kernel)) rfl, rfl, rfl, by decide +kernel⟩
theorem flX2_75 : px_fl RX2 75 7 7 false .int := ⟨RX7, TX7, 10, tyX7, rfl, by decide, inX7, tyX7_ok, nmX7, px_c1 (List.mem_of_getElem? (i := 65) (by decide +kernel)) rfl, rfl, rfl, by decide +kernel⟩
theorem flX7_30 : px_fl RX7 30 7 8 false .int := ⟨RX7, TX7, 10, tyX7, rfl, by decide, inX7, tyX7_ok, nmX7, px_c1 (List.mem_of_getElem? (i := 66) (by decide +kernel)) rfl, rfl, rfl, by decide +kernel⟩
theorem flX4_41 : px_fl RX4 41 7 8 false .int := ⟨RX7, TX7, 10, tyX7, rfl, by decide, inX7, tyX7_ok, nmX7, px_c1 (List.mem_of_getElem? (i := 67) (by decide +kernel)) rfl, rfl, rfl, by decide +kernel⟩
theorem flX2_91 : px_fl RX2 91 7 8 false .int := ⟨RX7, TX7, 10, tyX7, rfl, by decide, inX7, tyX7_ok, nmX7, px_c1 (List.mem_of_getElem? (i := 68) (by decide +kernel)) rfl, rfl, rfl, by decide +kernel⟩
theorem flX7_34 : px_fl RX7 34 7 9 false .int := ⟨RX7, TX7, 10, tyX7, rfl, by decide, inX7, tyX7_ok, nmX7, px_c1 (List.mem_of_getElem? (i := 69) (by decide +kernel)) rfl, rfl, rfl, by decide +kernel⟩
theorem flX4_44 : px_fl RX4 44 7 9 false .int := ⟨RX7, TX7, 10, tyX7, rfl, by decide, inX7, tyX7_ok, nmX7, px_c1 (List.mem_of_getElem? (i := 70) (by decide +kernel)) rfl, rfl, rfl, by decide +kernel⟩
theorem flX6_93 : px_fl RX6 93 7 9 false .int := ⟨RX7, TX7, 10, tyX7, rfl, by decide, inX7, tyX7_ok, nmX7, px_c1 (List.mem_of_getElem? (i := 71) (by decide +kernel)) rfl, rfl, rfl, by decide +kernel⟩
theorem flX2_9 : px_fl RX2 9 2 0 true (.array .int) := ⟨RX2, TX2, 7, tyX2, rfl, by decide, inX2, tyX2_ok, nmX2, px_c1 (List.mem_of_getElem? (i := 100) (by decide +kernel)) rfl, rfl, rfl, by decide +kernel⟩
theorem flX11_107 : px_fl RX11 107 2 0 true (.array .int) := ⟨RX2, TX2, 7, tyX2, rfl, by decide, inX2, tyX2_ok, nmX2, px_c1 (List.mem_of_getElem? (i := 101) (by decide +kernel)) rfl, rfl, rfl, by decide +kernel⟩
theorem flX10_39 : px_fl RX10 39 2 0 true (.array .int) := ⟨RX2, TX2, 7, tyX2, rfl, by decide, inX2, tyX2_ok, nmX2, px_c1 (List.mem_of_getElem? (i := 102) (by decide +kernel)) rfl, rfl, rfl, by decide +kernel⟩
theorem flX9_54 : px_fl RX9 54 2 0 true (.array .int) := ⟨RX2, TX2, 7, tyX2, rfl, by decide, inX2, tyX2_ok, nmX2, px_c1 (List.mem_of_getElem? (i := 103) (by decide +kernel)) rfl, rfl, rfl, by decide +kernel⟩
theorem flX4_58 : px_fl RX4 58 2 0 true (.array .int) := ⟨RX2, TX2, 7, tyX2, rfl, by decide, inX2, tyX2_ok, nmX2, px_c1 (List.mem_of_getElem? (i := 104) (by decide +kernel)) rfl, rfl, rfl, by decide +kernel⟩
theorem flX6_110 : px_fl RX6 110 2 0 true (.array .int) := ⟨RX2, TX2, 7, tyX2, rfl, by decide, inX2, tyX2_ok, nmX2, px_c1 (List.mem_of_getElem? (i := 105) (by decide +kernel)) rfl, rfl, rfl, by decide +kernel⟩
theorem flX2_15 : px_fl RX2 15 2 1 true (.array .int) := ⟨RX2, TX2, 7, tyX2, rfl, by decide, inX2, tyX2_ok, nmX2, px_c1 (List.mem_of_getElem? (i := 106) (by decide +kernel)) rfl, rfl, rfl, by decide +kernel⟩
theorem flX4_76 : px_fl RX4 76 2 1 true (.array .int) := ⟨RX2, TX2, 7, tyX2, rfl, by decide, inX2, tyX2_ok, nmX2, px_c1 (List.mem_of_getElem? (i := 107) (by decide +kernel)) rfl, rfl, rfl, by decide +kernel⟩
theorem flX2_18 : px_fl RX2 18 2 2 true (.array .int) := ⟨RX2, TX2, 7, tyX2, rfl, by decide, inX2, tyX2_ok, nmX2, px_c1 (List.mem_of_getElem? (i := 108) (by decide +kernel)) rfl, rfl, rfl, by decide +kernel⟩
theorem flX4_79 : px_fl RX4 79 2 2 true (.array .int) := ⟨RX2, TX2, 7, tyX2, rfl, by decide, inX2, tyX2_ok, nmX2, px_c1 (List.mem_of_getElem? (i := 109) (by decide +kernel)) rfl, rfl, rfl, by decide +kernel⟩
theorem flX2_21 : px_fl RX2 21 2 3 true (.array .int) := ⟨RX2, TX2, 7, tyX2, rfl, by decide, inX2, tyX2_ok, nmX2, px_c1 (List.mem_of_getElem? (i := 110) (by decide +kernel)) rfl, rfl, rfl, by decide +kernel⟩
theorem flX11_216 : px_fl RX11 216 2 3 true (.array .int) := ⟨RX2, TX2, 7, tyX2, rfl, by decide, inX2, tyX2_ok, nmX2, px_c1 (List.mem_of_getElem? (i := 111) (by decide +kernel)) rfl, rfl, rfl, by decide +kernel⟩
theorem flX2_43 : px_fl RX2 43 2 4 false .int := ⟨RX2, TX2, 7, tyX2, rfl, by decide, inX2, tyX2_ok, nmX2, px_c1 (List.mem_of_getElem? (i := 112) (by decide +kernel)) rfl, rfl, rfl, by decide +kernel⟩
theorem flX10_42 : px_fl RX10 42 2 4 false .int := ⟨RX2, TX2, 7, tyX2, rfl, by decide, inX2, tyX2_ok, nmX2, px_c1 (List.mem_of_getElem? (i := 113) (by decide +kernel)) rfl, rfl, rfl, by decide +kernel⟩
theorem flX4_35 : px_fl RX4 35 2 4 false .int := ⟨RX2, TX2, 7, tyX2, rfl, by decide, inX2, tyX2_ok, nmX2, px_c1 (List.mem_of_getElem? (i := 114) (by decide +kernel)) rfl, rfl, rfl, by decide +kernel⟩
theorem flX11_207 : px_fl RX11 207 2 4 false .int := ⟨RX2, TX2, 7, tyX2, rfl, by decide, inX2, tyX2_ok, nmX2, px_c1 (List.mem_of_getElem? (i := 115) (by decide +kernel)) rfl, rfl, rfl, by decide +kernel⟩
theorem flX2_47 : px_fl RX2 47 2 5 false .int := ⟨RX2, TX2, 7, tyX2, rfl, by decide, inX2, tyX2_ok, nmX2, px_c1 (List.mem_of_getElem? (i := 116) (by decide +kernel)) rfl, rfl, rfl, by decide +kernel⟩
theorem flX6_72 : px_fl RX6 72 2 5 false .int := ⟨RX2, TX2, 7, tyX2, rfl, by decide, inX2, tyX2_ok, nmX2, px_c1 (List.mem_of_getElem? (i := 117) (by decide +kernel)) rfl, rfl, rfl, by decide +kernel⟩
theorem flX4_47 : px_fl RX4 47 2 5 false .int := ⟨RX2, TX2, 7, tyX2, rfl, by decide, inX2, tyX2_ok, nmX2, px_c1 (List.mem_of_getElem? (i := 118) (by decide +kernel)) rfl, rfl, rfl, by decide +kernel⟩
theorem flX2_24 : px_fl RX2 24 2 6 true (.object "GladSide$Street") := ⟨RX2, TX2, 7, tyX2, rfl, by decide, inX2, tyX2_ok, nmX2, px_c1 (List.mem_of_getElem? (i := 119) (by decide +kernel)) rfl, rfl, rfl, by decide +kernel⟩
theorem flX4_9 : px_fl RX4 9 4 0 true (.object "GladSide$Street") := ⟨RX4, TX4, 2, tyX4, rfl, by decide, inX4, tyX4_ok, nmX4, px_c1 (List.mem_of_getElem? (i := 141) (by decide +kernel)) rfl, rfl, rfl, by decide +kernel⟩
theorem flX4_15 : px_fl RX4 15 4 1 true (.object "GladSide$Course") := ⟨RX4, TX4, 2, tyX4, rfl, by decide, inX4, tyX4_ok, nmX4, px_c1 (List.mem_of_getElem? (i := 142) (by decide +kernel)) rfl, rfl, rfl, by decide +kernel⟩
theorem flX3_9 : px_fl RX3 9 3 0 true (.array .int) := ⟨RX3, TX3, 5, tyX3, rfl, by decide, inX3, tyX3_ok, nmX3, px_c1 (List.mem_of_getElem? (i := 154) (by decide +kernel)) rfl, rfl, rfl, by decide +kernel⟩
theorem flX6_63 : px_fl RX6 63 3 0 true (.array .int) := ⟨RX3, TX3, 5, tyX3, rfl, by decide, inX3, tyX3_ok, nmX3, px_c1 (List.mem_of_getElem? (i := 155) (by decide +kernel)) rfl, rfl, rfl, by decide +kernel⟩
theorem flX3_13 : px_fl RX3 13 3 1 true (.array .int) := ⟨RX3, TX3, 5, tyX3, rfl, by decide, inX3, tyX3_ok, nmX3, px_c1 (List.mem_of_getElem? (i := 156) (by decide +kernel)) rfl, rfl, rfl, by decide +kernel⟩
theorem flX3_16 : px_fl RX3 16 3 2 true (.array .int) := ⟨RX3, TX3, 5, tyX3, rfl, by decide, inX3, tyX3_ok, nmX3, px_c1 (List.mem_of_getElem? (i := 157) (by decide +kernel)) rfl, rfl, rfl, by decide +kernel⟩
theorem flX3_19 : px_fl RX3 19 3 3 true (.array .int) := ⟨RX3, TX3, 5, tyX3, rfl, by decide, inX3, tyX3_ok, nmX3, px_c1 (List.mem_of_getElem? (i := 158) (by decide +kernel)) rfl, rfl, rfl, by decide +kernel⟩
theorem flX3_22 : px_fl RX3 22 3 4 false .int := ⟨RX3, TX3, 5, tyX3, rfl, by decide, inX3, tyX3_ok, nmX3, px_c1 (List.mem_of_getElem? (i := 159) (by decide +kernel)) rfl, rfl, rfl, by decide +kernel⟩
theorem flX5_11 : px_fl RX5 11 5 0 true (.array .int) := ⟨RX5, TX5, 3, tyX5, rfl, by decide, inX5, tyX5_ok, nmX5, px_c1 (List.mem_of_getElem? (i := 177) (by decide +kernel)) rfl, rfl, rfl, by decide +kernel⟩
theorem flX5_15 : px_fl RX5 15 5 1 true (.array .int) := ⟨RX5, TX5, 3, tyX5, rfl, by decide, inX5, tyX5_ok, nmX5, px_c1 (List.mem_of_getElem? (i := 178) (by decide +kernel)) rfl, rfl, rfl, by decide +kernel⟩
theorem flX5_18 : px_fl RX5 18 5 2 true (.array .long) := ⟨RX5, TX5, 3, tyX5, rfl, by decide, inX5, tyX5_ok, nmX5, px_c1 (List.mem_of_getElem? (i := 179) (by decide +kernel)) rfl, rfl, rfl, by decide +kernel⟩
theorem flX1_9 : px_fl RX1 9 1 0 true (.array .int) := ⟨RX1, TX1, 7, tyX1, rfl, by decide, inX1, tyX1_ok, nmX1, px_c1 (List.mem_of_getElem? (i := 194) (by decide +kernel)) rfl, rfl, rfl, by decide +kernel⟩
theorem flX1_13 : px_fl RX1 13 1 1 true (.array .int) := ⟨RX1, TX1, 7, tyX1, rfl, by decide, inX1, tyX1_ok, nmX1, px_c1 (List.mem_of_getElem? (i := 195) (by decide +kernel)) rfl, rfl, rfl, by decide +kernel⟩
theorem flX1_16 : px_fl RX1 16 1 2 true (.array .int) := ⟨RX1, TX1, 7, tyX1, rfl, by decide, inX1, tyX1_ok, nmX1, px_c1 (List.mem_of_getElem? (i := 196) (by decide +kernel)) rfl, rfl, rfl, by decide +kernel⟩
theorem flX1_19 : px_fl RX1 19 1 3 true (.array .int) := ⟨RX1, TX1, 7, tyX1, rfl, by decide, inX1, tyX1_ok, nmX1, px_c1 (List.mem_of_getElem? (i := 197) (by decide +kernel)) rfl, rfl, rfl, by decide +kernel⟩
theorem flX1_22 : px_fl RX1 22 1 4 true (.object "GladSide$Numbers") := ⟨RX1, TX1, 7, tyX1, rfl, by decide, inX1, tyX1_ok, nmX1, px_c1 (List.mem_of_getElem? (i := 198) (by decide +kernel)) rfl, rfl, rfl, by decide +kernel⟩
theorem flX1_26 : px_fl RX1 26 1 5 false .int := ⟨RX1, TX1, 7, tyX1, rfl, by decide, inX1, tyX1_ok, nmX1, px_c1 (List.mem_of_getElem? (i := 199) (by decide +kernel)) rfl, rfl, rfl, by decide +kernel⟩
theorem flX11_301 : px_fl RX11 301 1 5 false .int := ⟨RX1, TX1, 7, tyX1, rfl, by decide, inX1, tyX1_ok, nmX1, px_c1 (List.mem_of_getElem? (i := 200) (by decide +kernel)) rfl, rfl, rfl, by decide +kernel⟩
theorem flX1_33 : px_fl RX1 33 1 6 false .int := ⟨RX1, TX1, 7, tyX1, rfl, by decide, inX1, tyX1_ok, nmX1, px_c1 (List.mem_of_getElem? (i := 201) (by decide +kernel)) rfl, rfl, rfl, by decide +kernel⟩
theorem flX11_307 : px_fl RX11 307 1 6 false .int := ⟨RX1, TX1, 7, tyX1, rfl, by decide, inX1, tyX1_ok, nmX1, px_c1 (List.mem_of_getElem? (i := 202) (by decide +kernel)) rfl, rfl, rfl, by decide +kernel⟩
theorem flX8_10 : px_fl RX8 10 8 0 true (.object "GladSide$Law") := ⟨RX8, TX8, 5, tyX8, rfl, by decide, inX8, tyX8_ok, nmX8, px_c1 (List.mem_of_getElem? (i := 226) (by decide +kernel)) rfl, rfl, rfl, by decide +kernel⟩
theorem flX11_176 : px_fl RX11 176 8 0 true (.object "GladSide$Law") := ⟨RX8, TX8, 5, tyX8, rfl, by decide, inX8, tyX8_ok, nmX8, px_c1 (List.mem_of_getElem? (i := 227) (by decide +kernel)) rfl, rfl, rfl, by decide +kernel⟩
theorem flX8_16 : px_fl RX8 16 8 1 true (.array .int) := ⟨RX8, TX8, 5, tyX8, rfl, by decide, inX8, tyX8_ok, nmX8, px_c1 (List.mem_of_getElem? (i := 228) (by decide +kernel)) rfl, rfl, rfl, by decide +kernel⟩
theorem flX8_20 : px_fl RX8 20 8 2 false .int := ⟨RX8, TX8, 5, tyX8, rfl, by decide, inX8, tyX8_ok, nmX8, px_c1 (List.mem_of_getElem? (i := 229) (by decide +kernel)) rfl, rfl, rfl, by decide +kernel⟩
theorem flX11_169 : px_fl RX11 169 8 2 false .int := ⟨RX8, TX8, 5, tyX8, rfl, by decide, inX8, tyX8_ok, nmX8, px_c1 (List.mem_of_getElem? (i := 230) (by decide +kernel)) rfl, rfl, rfl, by decide +kernel⟩
theorem flX8_24 : px_fl RX8 24 8 3 false .int := ⟨RX8, TX8, 5, tyX8, rfl, by decide, inX8, tyX8_ok, nmX8, px_c1 (List.mem_of_getElem? (i := 231) (by decide +kernel)) rfl, rfl, rfl, by decide +kernel⟩
theorem flX8_27 : px_fl RX8 27 8 4 false .boolean := ⟨RX8, TX8, 5, tyX8, rfl, by decide, inX8, tyX8_ok, nmX8, px_c1 (List.mem_of_getElem? (i := 232) (by decide +kernel)) rfl, rfl, rfl, by decide +kernel⟩
theorem flX6_15 : px_fl RX6 15 6 0 true (.object "GladSide$Street") := ⟨RX6, TX6, 4, tyX6, rfl, by decide, inX6, tyX6_ok, nmX6, px_c2 (List.mem_of_getElem? (i := 10) (by decide +kernel)) rfl, rfl, rfl, by decide +kernel⟩
theorem flX6_19 : px_fl RX6 19 6 1 true (.object "GladSide$Course") := ⟨RX6, TX6, 4, tyX6, rfl, by decide, inX6, tyX6_ok, nmX6, px_c2 (List.mem_of_getElem? (i := 11) (by decide +kernel)) rfl, rfl, rfl, by decide +kernel⟩
theorem flX6_23 : px_fl RX6 23 6 2 true (.object "GladSide$Law") := ⟨RX6, TX6, 4, tyX6, rfl, by decide, inX6, tyX6_ok, nmX6, px_c2 (List.mem_of_getElem? (i := 12) (by decide +kernel)) rfl, rfl, rfl, by decide +kernel⟩
theorem flX6_9 : px_fl RX6 9 6 3 true (.array .int) := ⟨RX6, TX6, 4, tyX6, rfl, by decide, inX6, tyX6_ok, nmX6, px_c2 (List.mem_of_getElem? (i := 13) (by decide +kernel)) rfl, rfl, rfl, by decide +kernel⟩
theorem flX9_9 : px_fl RX9 9 9 0 true (.object "GladSide$Street") := ⟨RX9, TX9, 6, tyX9, rfl, by decide, inX9, tyX9_ok, nmX9, px_c2 (List.mem_of_getElem? (i := 31) (by decide +kernel)) rfl, rfl, rfl, by decide +kernel⟩
theorem flX9_15 : px_fl RX9 15 9 1 true (.object "GladSide$Course") := ⟨RX9, TX9, 6, tyX9, rfl, by decide, inX9, tyX9_ok, nmX9, px_c2 (List.mem_of_getElem? (i := 32) (by decide +kernel)) rfl, rfl, rfl, by decide +kernel⟩
theorem flX9_28 : px_fl RX9 28 9 2 true (.object "GladSide$Course") := ⟨RX9, TX9, 6, tyX9, rfl, by decide, inX9, tyX9_ok, nmX9, px_c2 (List.mem_of_getElem? (i := 33) (by decide +kernel)) rfl, rfl, rfl, by decide +kernel⟩
theorem flX9_19 : px_fl RX9 19 9 3 true (.object "GladSide$Shelves") := ⟨RX9, TX9, 6, tyX9, rfl, by decide, inX9, tyX9_ok, nmX9, px_c2 (List.mem_of_getElem? (i := 34) (by decide +kernel)) rfl, rfl, rfl, by decide +kernel⟩
theorem flX9_70 : px_fl RX9 70 9 4 false .int := ⟨RX9, TX9, 6, tyX9, rfl, by decide, inX9, tyX9_ok, nmX9, px_c2 (List.mem_of_getElem? (i := 35) (by decide +kernel)) rfl, rfl, rfl, by decide +kernel⟩
theorem flX11_229 : px_fl RX11 229 9 4 false .int := ⟨RX9, TX9, 6, tyX9, rfl, by decide, inX9, tyX9_ok, nmX9, px_c2 (List.mem_of_getElem? (i := 36) (by decide +kernel)) rfl, rfl, rfl, by decide +kernel⟩
theorem flX9_73 : px_fl RX9 73 9 5 false .int := ⟨RX9, TX9, 6, tyX9, rfl, by decide, inX9, tyX9_ok, nmX9, px_c2 (List.mem_of_getElem? (i := 37) (by decide +kernel)) rfl, rfl, rfl, by decide +kernel⟩
theorem flX11_232 : px_fl RX11 232 9 5 false .int := ⟨RX9, TX9, 6, tyX9, rfl, by decide, inX9, tyX9_ok, nmX9, px_c2 (List.mem_of_getElem? (i := 38) (by decide +kernel)) rfl, rfl, rfl, by decide +kernel⟩
theorem flX10_19 : px_fl RX10 19 10 0 true (.object "GladSide$Street") := ⟨RX10, TX10, 6, tyX10, rfl, by decide, inX10, tyX10_ok, nmX10, px_c2 (List.mem_of_getElem? (i := 58) (by decide +kernel)) rfl, rfl, rfl, by decide +kernel⟩
theorem flX10_23 : px_fl RX10 23 10 1 true (.object "GladSide$Course") := ⟨RX10, TX10, 6, tyX10, rfl, by decide, inX10, tyX10_ok, nmX10, px_c2 (List.mem_of_getElem? (i := 59) (by decide +kernel)) rfl, rfl, rfl, by decide +kernel⟩
theorem flX10_9 : px_fl RX10 9 10 2 true (.array .int) := ⟨RX10, TX10, 6, tyX10, rfl, by decide, inX10, tyX10_ok, nmX10, px_c2 (List.mem_of_getElem? (i := 60) (by decide +kernel)) rfl, rfl, rfl, by decide +kernel⟩
theorem flX10_15 : px_fl RX10 15 10 3 true (.array .boolean) := ⟨RX10, TX10, 6, tyX10, rfl, by decide, inX10, tyX10_ok, nmX10, px_c2 (List.mem_of_getElem? (i := 61) (by decide +kernel)) rfl, rfl, rfl, by decide +kernel⟩
theorem flX10_75 : px_fl RX10 75 10 4 false .int := ⟨RX10, TX10, 6, tyX10, rfl, by decide, inX10, tyX10_ok, nmX10, px_c2 (List.mem_of_getElem? (i := 62) (by decide +kernel)) rfl, rfl, rfl, by decide +kernel⟩
theorem flX11_268 : px_fl RX11 268 10 4 false .int := ⟨RX10, TX10, 6, tyX10, rfl, by decide, inX10, tyX10_ok, nmX10, px_c2 (List.mem_of_getElem? (i := 63) (by decide +kernel)) rfl, rfl, rfl, by decide +kernel⟩
theorem flX10_78 : px_fl RX10 78 10 5 false .int := ⟨RX10, TX10, 6, tyX10, rfl, by decide, inX10, tyX10_ok, nmX10, px_c2 (List.mem_of_getElem? (i := 64) (by decide +kernel)) rfl, rfl, rfl, by decide +kernel⟩
theorem flX11_271 : px_fl RX11 271 10 5 false .int := ⟨RX10, TX10, 6, tyX10, rfl, by decide, inX10, tyX10_ok, nmX10, px_c2 (List.mem_of_getElem? (i := 65) (by decide +kernel)) rfl, rfl, rfl, by decide +kernel⟩
theorem flX0_11 : px_fl RX0 11 0 0 true (.array .int) := ⟨RX0, TX0, 5, tyX0, rfl, by decide, inX0, tyX0_ok, nmX0, px_c2 (List.mem_of_getElem? (i := 86) (by decide +kernel)) rfl, rfl, rfl, by decide +kernel⟩
theorem flX11_364 : px_fl RX11 364 0 0 true (.array .int) := ⟨RX0, TX0, 5, tyX0, rfl, by decide, inX0, tyX0_ok, nmX0, px_c2 (List.mem_of_getElem? (i := 87) (by decide +kernel)) rfl, rfl, rfl, by decide +kernel⟩
theorem flX0_15 : px_fl RX0 15 0 1 true (.array .int) := ⟨RX0, TX0, 5, tyX0, rfl, by decide, inX0, tyX0_ok, nmX0, px_c2 (List.mem_of_getElem? (i := 88) (by decide +kernel)) rfl, rfl, rfl, by decide +kernel⟩
theorem flX11_319 : px_fl RX11 319 0 1 true (.array .int) := ⟨RX0, TX0, 5, tyX0, rfl, by decide, inX0, tyX0_ok, nmX0, px_c2 (List.mem_of_getElem? (i := 89) (by decide +kernel)) rfl, rfl, rfl, by decide +kernel⟩
theorem flX0_18 : px_fl RX0 18 0 2 false .int := ⟨RX0, TX0, 5, tyX0, rfl, by decide, inX0, tyX0_ok, nmX0, px_c2 (List.mem_of_getElem? (i := 90) (by decide +kernel)) rfl, rfl, rfl, by decide +kernel⟩
theorem flX11_370 : px_fl RX11 370 0 2 false .int := ⟨RX0, TX0, 5, tyX0, rfl, by decide, inX0, tyX0_ok, nmX0, px_c2 (List.mem_of_getElem? (i := 91) (by decide +kernel)) rfl, rfl, rfl, by decide +kernel⟩
theorem flX0_22 : px_fl RX0 22 0 3 false .int := ⟨RX0, TX0, 5, tyX0, rfl, by decide, inX0, tyX0_ok, nmX0, px_c2 (List.mem_of_getElem? (i := 92) (by decide +kernel)) rfl, rfl, rfl, by decide +kernel⟩
theorem flX11_373 : px_fl RX11 373 0 3 false .int := ⟨RX0, TX0, 5, tyX0, rfl, by decide, inX0, tyX0_ok, nmX0, px_c2 (List.mem_of_getElem? (i := 93) (by decide +kernel)) rfl, rfl, rfl, by decide +kernel⟩
theorem flX0_38 : px_fl RX0 38 0 4 false .int := ⟨RX0, TX0, 5, tyX0, rfl, by decide, inX0, tyX0_ok, nmX0, px_c2 (List.mem_of_getElem? (i := 94) (by decide +kernel)) rfl, rfl, rfl, by decide +kernel⟩
theorem flX11_26 : px_fl RX11 26 11 0 true (.object "GladSide$Street") := ⟨RX11, TX11, 15, tyX11, rfl, by decide, inX11, tyX11_ok, nmX11, px_c2 (List.mem_of_getElem? (i := 106) (by decide +kernel)) rfl, rfl, rfl, by decide +kernel⟩
theorem flX11_32 : px_fl RX11 32 11 1 true (.object "GladSide$Course") := ⟨RX11, TX11, 15, tyX11, rfl, by decide, inX11, tyX11_ok, nmX11, px_c2 (List.mem_of_getElem? (i := 107) (by decide +kernel)) rfl, rfl, rfl, by decide +kernel⟩
theorem flX11_36 : px_fl RX11 36 11 2 true (.object "GladSide$Course") := ⟨RX11, TX11, 15, tyX11, rfl, by decide, inX11, tyX11_ok, nmX11, px_c2 (List.mem_of_getElem? (i := 108) (by decide +kernel)) rfl, rfl, rfl, by decide +kernel⟩
theorem flX11_39 : px_fl RX11 39 11 3 true (.object "GladSide$Numbers") := ⟨RX11, TX11, 15, tyX11, rfl, by decide, inX11, tyX11_ok, nmX11, px_c2 (List.mem_of_getElem? (i := 109) (by decide +kernel)) rfl, rfl, rfl, by decide +kernel⟩
theorem flX11_48 : px_fl RX11 48 11 4 true (.object "GladSide$Changes") := ⟨RX11, TX11, 15, tyX11, rfl, by decide, inX11, tyX11_ok, nmX11, px_c2 (List.mem_of_getElem? (i := 110) (by decide +kernel)) rfl, rfl, rfl, by decide +kernel⟩
theorem flX11_55 : px_fl RX11 55 11 5 true (.object "GladSide$Tape") := ⟨RX11, TX11, 15, tyX11, rfl, by decide, inX11, tyX11_ok, nmX11, px_c2 (List.mem_of_getElem? (i := 111) (by decide +kernel)) rfl, rfl, rfl, by decide +kernel⟩
theorem flX11_59 : px_fl RX11 59 11 6 true (.object "GladSide$Law") := ⟨RX11, TX11, 15, tyX11, rfl, by decide, inX11, tyX11_ok, nmX11, px_c2 (List.mem_of_getElem? (i := 112) (by decide +kernel)) rfl, rfl, rfl, by decide +kernel⟩
theorem flX11_68 : px_fl RX11 68 11 7 true (.object "GladSide$Smells") := ⟨RX11, TX11, 15, tyX11, rfl, by decide, inX11, tyX11_ok, nmX11, px_c2 (List.mem_of_getElem? (i := 113) (by decide +kernel)) rfl, rfl, rfl, by decide +kernel⟩
theorem flX11_77 : px_fl RX11 77 11 8 true (.object "GladSide$Thought") := ⟨RX11, TX11, 15, tyX11, rfl, by decide, inX11, tyX11_ok, nmX11, px_c2 (List.mem_of_getElem? (i := 114) (by decide +kernel)) rfl, rfl, rfl, by decide +kernel⟩
theorem flX11_84 : px_fl RX11 84 11 9 true (.object "GladSide$Votes") := ⟨RX11, TX11, 15, tyX11, rfl, by decide, inX11, tyX11_ok, nmX11, px_c2 (List.mem_of_getElem? (i := 115) (by decide +kernel)) rfl, rfl, rfl, by decide +kernel⟩
theorem flX11_91 : px_fl RX11 91 11 10 true (.object "GladSide$Acts") := ⟨RX11, TX11, 15, tyX11, rfl, by decide, inX11, tyX11_ok, nmX11, px_c2 (List.mem_of_getElem? (i := 116) (by decide +kernel)) rfl, rfl, rfl, by decide +kernel⟩
theorem flX11_95 : px_fl RX11 95 11 11 true (.object "GladSide$Shelves") := ⟨RX11, TX11, 15, tyX11, rfl, by decide, inX11, tyX11_ok, nmX11, px_c2 (List.mem_of_getElem? (i := 117) (by decide +kernel)) rfl, rfl, rfl, by decide +kernel⟩
theorem flX11_284 : px_fl RX11 284 11 12 false .boolean := ⟨RX11, TX11, 15, tyX11, rfl, by decide, inX11, tyX11_ok, nmX11, px_c2 (List.mem_of_getElem? (i := 118) (by decide +kernel)) rfl, rfl, rfl, by decide +kernel⟩
theorem flX11_288 : px_fl RX11 288 11 13 false .int := ⟨RX11, TX11, 15, tyX11, rfl, by decide, inX11, tyX11_ok, nmX11, px_c2 (List.mem_of_getElem? (i := 119) (by decide +kernel)) rfl, rfl, rfl, by decide +kernel⟩
theorem flX11_291 : px_fl RX11 291 11 14 false .int := ⟨RX11, TX11, 15, tyX11, rfl, by decide, inX11, tyX11_ok, nmX11, px_c2 (List.mem_of_getElem? (i := 120) (by decide +kernel)) rfl, rfl, rfl, by decide +kernel⟩
theorem fsX4_19 : Cond.fieldLink RX4 19 "GladSide$Numbers" "LEAST" "[I" ∈ px_tbl := px_c2 (List.mem_of_getElem? (i := 214) (by decide +kernel)) rfl
theorem fsX4_23 : Cond.fieldLink RX4 23 "GladSide$Numbers" "MOST" "[I" ∈ px_tbl := px_c2 (List.mem_of_getElem? (i := 216) (by decide +kernel)) rfl
theorem fsX0_49 : Cond.fieldLink RX0 49 "GladSide$Acts" "OWN" "[I" ∈ px_tbl := px_c4 (List.mem_of_getElem? (i := 231) (by decide +kernel)) rfl
theorem fsX0_31 : Cond.fieldLink RX0 31 "GladSide$Acts" "ABOVE" "[I" ∈ px_tbl := px_c4 (List.mem_of_getElem? (i := 233) (by decide +kernel)) rfl
theorem flX12_128 : px_fl RX12 128 12 1 false .int := ⟨RX12, TX12, 59, tyX12, rfl, by decide, inX12, tyX12_ok, nmX12, px_c5 (List.mem_of_getElem? (i := 86) (by decide +kernel)) rfl, rfl, rfl, by decide +kernel⟩
theorem flX12_7 : px_fl RX12 7 12 2 true (.array .int) := ⟨RX12, TX12, 59, tyX12, rfl, by decide, inX12, tyX12_ok, nmX12, px_c5 (List.mem_of_getElem? (i := 87) (by decide +kernel)) rfl, rfl, rfl, by decide +kernel⟩
theorem flX12_135 : px_fl RX12 135 12 3 false .int := ⟨RX12, TX12, 59, tyX12, rfl, by decide, inX12, tyX12_ok, nmX12, px_c5 (List.mem_of_getElem? (i := 88) (by decide +kernel)) rfl, rfl, rfl, by decide +kernel⟩
theorem flX12_13 : px_fl RX12 13 12 4 true (.array .int) := ⟨RX12, TX12, 59, tyX12, rfl, by decide, inX12, tyX12_ok, nmX12, px_c5 (List.mem_of_getElem? (i := 89) (by decide +kernel)) rfl, rfl, rfl, by decide +kernel⟩
theorem flX12_16 : px_fl RX12 16 12 5 true (.array .int) := ⟨RX12, TX12, 59, tyX12, rfl, by decide, inX12, tyX12_ok, nmX12, px_c5 (List.mem_of_getElem? (i := 90) (by decide +kernel)) rfl, rfl, rfl, by decide +kernel⟩
theorem flX12_19 : px_fl RX12 19 12 6 true (.array .int) := ⟨RX12, TX12, 59, tyX12, rfl, by decide, inX12, tyX12_ok, nmX12, px_c5 (List.mem_of_getElem? (i := 91) (by decide +kernel)) rfl, rfl, rfl, by decide +kernel⟩
theorem flX12_22 : px_fl RX12 22 12 7 true (.array .int) := ⟨RX12, TX12, 59, tyX12, rfl, by decide, inX12, tyX12_ok, nmX12, px_c5 (List.mem_of_getElem? (i := 92) (by decide +kernel)) rfl, rfl, rfl, by decide +kernel⟩
theorem flX12_25 : px_fl RX12 25 12 8 true (.array .int) := ⟨RX12, TX12, 59, tyX12, rfl, by decide, inX12, tyX12_ok, nmX12, px_c5 (List.mem_of_getElem? (i := 93) (by decide +kernel)) rfl, rfl, rfl, by decide +kernel⟩
theorem flX12_28 : px_fl RX12 28 12 9 true (.array .int) := ⟨RX12, TX12, 59, tyX12, rfl, by decide, inX12, tyX12_ok, nmX12, px_c5 (List.mem_of_getElem? (i := 94) (by decide +kernel)) rfl, rfl, rfl, by decide +kernel⟩
theorem flX12_31 : px_fl RX12 31 12 10 true (.array .int) := ⟨RX12, TX12, 59, tyX12, rfl, by decide, inX12, tyX12_ok, nmX12, px_c5 (List.mem_of_getElem? (i := 95) (by decide +kernel)) rfl, rfl, rfl, by decide +kernel⟩
theorem flX12_34 : px_fl RX12 34 12 11 true (.array .int) := ⟨RX12, TX12, 59, tyX12, rfl, by decide, inX12, tyX12_ok, nmX12, px_c5 (List.mem_of_getElem? (i := 96) (by decide +kernel)) rfl, rfl, rfl, by decide +kernel⟩
theorem flX12_37 : px_fl RX12 37 12 12 true (.array .int) := ⟨RX12, TX12, 59, tyX12, rfl, by decide, inX12, tyX12_ok, nmX12, px_c5 (List.mem_of_getElem? (i := 97) (by decide +kernel)) rfl, rfl, rfl, by decide +kernel⟩
theorem flX12_161 : px_fl RX12 161 12 13 false .int := ⟨RX12, TX12, 59, tyX12, rfl, by decide, inX12, tyX12_ok, nmX12, px_c5 (List.mem_of_getElem? (i := 98) (by decide +kernel)) rfl, rfl, rfl, by decide +kernel⟩
theorem flX12_158 : px_fl RX12 158 12 14 false .int := ⟨RX12, TX12, 59, tyX12, rfl, by decide, inX12, tyX12_ok, nmX12, px_c5 (List.mem_of_getElem? (i := 99) (by decide +kernel)) rfl, rfl, rfl, by decide +kernel⟩
theorem flX12_40 : px_fl RX12 40 12 15 true (.array .int) := ⟨RX12, TX12, 59, tyX12, rfl, by decide, inX12, tyX12_ok, nmX12, px_c5 (List.mem_of_getElem? (i := 100) (by decide +kernel)) rfl, rfl, rfl, by decide +kernel⟩
theorem flX12_43 : px_fl RX12 43 12 16 true (.array .int) := ⟨RX12, TX12, 59, tyX12, rfl, by decide, inX12, tyX12_ok, nmX12, px_c5 (List.mem_of_getElem? (i := 101) (by decide +kernel)) rfl, rfl, rfl, by decide +kernel⟩
theorem flX12_46 : px_fl RX12 46 12 17 true (.array .int) := ⟨RX12, TX12, 59, tyX12, rfl, by decide, inX12, tyX12_ok, nmX12, px_c5 (List.mem_of_getElem? (i := 102) (by decide +kernel)) rfl, rfl, rfl, by decide +kernel⟩
theorem flX12_49 : px_fl RX12 49 12 18 true (.array .int) := ⟨RX12, TX12, 59, tyX12, rfl, by decide, inX12, tyX12_ok, nmX12, px_c5 (List.mem_of_getElem? (i := 103) (by decide +kernel)) rfl, rfl, rfl, by decide +kernel⟩
theorem flX12_52 : px_fl RX12 52 12 19 true (.array .byte) := ⟨RX12, TX12, 59, tyX12, rfl, by decide, inX12, tyX12_ok, nmX12, px_c5 (List.mem_of_getElem? (i := 104) (by decide +kernel)) rfl, rfl, rfl, by decide +kernel⟩
theorem flX12_184 : px_fl RX12 184 12 20 false .int := ⟨RX12, TX12, 59, tyX12, rfl, by decide, inX12, tyX12_ok, nmX12, px_c5 (List.mem_of_getElem? (i := 105) (by decide +kernel)) rfl, rfl, rfl, by decide +kernel⟩
theorem flX12_187 : px_fl RX12 187 12 21 false .int := ⟨RX12, TX12, 59, tyX12, rfl, by decide, inX12, tyX12_ok, nmX12, px_c5 (List.mem_of_getElem? (i := 106) (by decide +kernel)) rfl, rfl, rfl, by decide +kernel⟩
theorem flX12_190 : px_fl RX12 190 12 22 false .int := ⟨RX12, TX12, 59, tyX12, rfl, by decide, inX12, tyX12_ok, nmX12, px_c5 (List.mem_of_getElem? (i := 107) (by decide +kernel)) rfl, rfl, rfl, by decide +kernel⟩
theorem flX12_196 : px_fl RX12 196 12 23 false .int := ⟨RX12, TX12, 59, tyX12, rfl, by decide, inX12, tyX12_ok, nmX12, px_c5 (List.mem_of_getElem? (i := 108) (by decide +kernel)) rfl, rfl, rfl, by decide +kernel⟩
theorem flX12_193 : px_fl RX12 193 12 24 false .int := ⟨RX12, TX12, 59, tyX12, rfl, by decide, inX12, tyX12_ok, nmX12, px_c5 (List.mem_of_getElem? (i := 109) (by decide +kernel)) rfl, rfl, rfl, by decide +kernel⟩
theorem flX12_56 : px_fl RX12 56 12 25 true (.array .byte) := ⟨RX12, TX12, 59, tyX12, rfl, by decide, inX12, tyX12_ok, nmX12, px_c5 (List.mem_of_getElem? (i := 110) (by decide +kernel)) rfl, rfl, rfl, by decide +kernel⟩
theorem flX12_59 : px_fl RX12 59 12 26 true (.array .int) := ⟨RX12, TX12, 59, tyX12, rfl, by decide, inX12, tyX12_ok, nmX12, px_c5 (List.mem_of_getElem? (i := 111) (by decide +kernel)) rfl, rfl, rfl, by decide +kernel⟩
theorem flX12_62 : px_fl RX12 62 12 27 true (.array .int) := ⟨RX12, TX12, 59, tyX12, rfl, by decide, inX12, tyX12_ok, nmX12, px_c5 (List.mem_of_getElem? (i := 112) (by decide +kernel)) rfl, rfl, rfl, by decide +kernel⟩
theorem flX12_65 : px_fl RX12 65 12 28 true (.array .short) := ⟨RX12, TX12, 59, tyX12, rfl, by decide, inX12, tyX12_ok, nmX12, px_c5 (List.mem_of_getElem? (i := 113) (by decide +kernel)) rfl, rfl, rfl, by decide +kernel⟩
theorem flX12_69 : px_fl RX12 69 12 29 true (.array .short) := ⟨RX12, TX12, 59, tyX12, rfl, by decide, inX12, tyX12_ok, nmX12, px_c5 (List.mem_of_getElem? (i := 114) (by decide +kernel)) rfl, rfl, rfl, by decide +kernel⟩
theorem flX12_72 : px_fl RX12 72 12 30 true (.array .int) := ⟨RX12, TX12, 59, tyX12, rfl, by decide, inX12, tyX12_ok, nmX12, px_c5 (List.mem_of_getElem? (i := 115) (by decide +kernel)) rfl, rfl, rfl, by decide +kernel⟩
theorem flX12_75 : px_fl RX12 75 12 31 true (.array .int) := ⟨RX12, TX12, 59, tyX12, rfl, by decide, inX12, tyX12_ok, nmX12, px_c5 (List.mem_of_getElem? (i := 116) (by decide +kernel)) rfl, rfl, rfl, by decide +kernel⟩
theorem flX12_251 : px_fl RX12 251 12 32 false .boolean := ⟨RX12, TX12, 59, tyX12, rfl, by decide, inX12, tyX12_ok, nmX12, px_c5 (List.mem_of_getElem? (i := 117) (by decide +kernel)) rfl, rfl, rfl, by decide +kernel⟩
theorem flX12_78 : px_fl RX12 78 12 33 true (.array .int) := ⟨RX12, TX12, 59, tyX12, rfl, by decide, inX12, tyX12_ok, nmX12, px_c5 (List.mem_of_getElem? (i := 118) (by decide +kernel)) rfl, rfl, rfl, by decide +kernel⟩
theorem flX12_81 : px_fl RX12 81 12 34 true (.array .int) := ⟨RX12, TX12, 59, tyX12, rfl, by decide, inX12, tyX12_ok, nmX12, px_c5 (List.mem_of_getElem? (i := 119) (by decide +kernel)) rfl, rfl, rfl, by decide +kernel⟩
theorem flX12_84 : px_fl RX12 84 12 35 true (.array .int) := ⟨RX12, TX12, 59, tyX12, rfl, by decide, inX12, tyX12_ok, nmX12, px_c5 (List.mem_of_getElem? (i := 120) (by decide +kernel)) rfl, rfl, rfl, by decide +kernel⟩
theorem flX12_255 : px_fl RX12 255 12 36 false .int := ⟨RX12, TX12, 59, tyX12, rfl, by decide, inX12, tyX12_ok, nmX12, px_c5 (List.mem_of_getElem? (i := 121) (by decide +kernel)) rfl, rfl, rfl, by decide +kernel⟩
theorem flX12_258 : px_fl RX12 258 12 37 false .int := ⟨RX12, TX12, 59, tyX12, rfl, by decide, inX12, tyX12_ok, nmX12, px_c5 (List.mem_of_getElem? (i := 122) (by decide +kernel)) rfl, rfl, rfl, by decide +kernel⟩
theorem flX12_261 : px_fl RX12 261 12 38 false .int := ⟨RX12, TX12, 59, tyX12, rfl, by decide, inX12, tyX12_ok, nmX12, px_c5 (List.mem_of_getElem? (i := 123) (by decide +kernel)) rfl, rfl, rfl, by decide +kernel⟩
theorem flX12_264 : px_fl RX12 264 12 39 false .int := ⟨RX12, TX12, 59, tyX12, rfl, by decide, inX12, tyX12_ok, nmX12, px_c5 (List.mem_of_getElem? (i := 124) (by decide +kernel)) rfl, rfl, rfl, by decide +kernel⟩
theorem flX12_87 : px_fl RX12 87 12 40 true (.array .int) := ⟨RX12, TX12, 59, tyX12, rfl, by decide, inX12, tyX12_ok, nmX12, px_c5 (List.mem_of_getElem? (i := 125) (by decide +kernel)) rfl, rfl, rfl, by decide +kernel⟩
theorem flX12_90 : px_fl RX12 90 12 41 true (.array .int) := ⟨RX12, TX12, 59, tyX12, rfl, by decide, inX12, tyX12_ok, nmX12, px_c5 (List.mem_of_getElem? (i := 126) (by decide +kernel)) rfl, rfl, rfl, by decide +kernel⟩
theorem flX12_368 : px_fl RX12 368 12 42 false .boolean := ⟨RX12, TX12, 59, tyX12, rfl, by decide, inX12, tyX12_ok, nmX12, px_c5 (List.mem_of_getElem? (i := 127) (by decide +kernel)) rfl, rfl, rfl, by decide +kernel⟩
theorem flX12_371 : px_fl RX12 371 12 43 false .int := ⟨RX12, TX12, 59, tyX12, rfl, by decide, inX12, tyX12_ok, nmX12, px_c5 (List.mem_of_getElem? (i := 128) (by decide +kernel)) rfl, rfl, rfl, by decide +kernel⟩
theorem flX12_374 : px_fl RX12 374 12 44 false .int := ⟨RX12, TX12, 59, tyX12, rfl, by decide, inX12, tyX12_ok, nmX12, px_c5 (List.mem_of_getElem? (i := 129) (by decide +kernel)) rfl, rfl, rfl, by decide +kernel⟩
theorem flX12_377 : px_fl RX12 377 12 45 false .int := ⟨RX12, TX12, 59, tyX12, rfl, by decide, inX12, tyX12_ok, nmX12, px_c5 (List.mem_of_getElem? (i := 130) (by decide +kernel)) rfl, rfl, rfl, by decide +kernel⟩
theorem flX12_380 : px_fl RX12 380 12 46 false .int := ⟨RX12, TX12, 59, tyX12, rfl, by decide, inX12, tyX12_ok, nmX12, px_c5 (List.mem_of_getElem? (i := 131) (by decide +kernel)) rfl, rfl, rfl, by decide +kernel⟩
theorem flX12_93 : px_fl RX12 93 12 47 true (.array .int) := ⟨RX12, TX12, 59, tyX12, rfl, by decide, inX12, tyX12_ok, nmX12, px_c5 (List.mem_of_getElem? (i := 132) (by decide +kernel)) rfl, rfl, rfl, by decide +kernel⟩
theorem flX12_96 : px_fl RX12 96 12 48 true (.array .int) := ⟨RX12, TX12, 59, tyX12, rfl, by decide, inX12, tyX12_ok, nmX12, px_c5 (List.mem_of_getElem? (i := 133) (by decide +kernel)) rfl, rfl, rfl, by decide +kernel⟩
theorem flX12_99 : px_fl RX12 99 12 49 true (.array .int) := ⟨RX12, TX12, 59, tyX12, rfl, by decide, inX12, tyX12_ok, nmX12, px_c5 (List.mem_of_getElem? (i := 134) (by decide +kernel)) rfl, rfl, rfl, by decide +kernel⟩
theorem flX12_102 : px_fl RX12 102 12 50 true (.array .int) := ⟨RX12, TX12, 59, tyX12, rfl, by decide, inX12, tyX12_ok, nmX12, px_c5 (List.mem_of_getElem? (i := 135) (by decide +kernel)) rfl, rfl, rfl, by decide +kernel⟩
theorem flX12_383 : px_fl RX12 383 12 51 false .int := ⟨RX12, TX12, 59, tyX12, rfl, by decide, inX12, tyX12_ok, nmX12, px_c5 (List.mem_of_getElem? (i := 136) (by decide +kernel)) rfl, rfl, rfl, by decide +kernel⟩
theorem flX12_105 : px_fl RX12 105 12 52 true (.array .int) := ⟨RX12, TX12, 59, tyX12, rfl, by decide, inX12, tyX12_ok, nmX12, px_c5 (List.mem_of_getElem? (i := 137) (by decide +kernel)) rfl, rfl, rfl, by decide +kernel⟩
theorem flX12_386 : px_fl RX12 386 12 53 false .int := ⟨RX12, TX12, 59, tyX12, rfl, by decide, inX12, tyX12_ok, nmX12, px_c5 (List.mem_of_getElem? (i := 138) (by decide +kernel)) rfl, rfl, rfl, by decide +kernel⟩
theorem flX12_108 : px_fl RX12 108 12 54 true (.array .int) := ⟨RX12, TX12, 59, tyX12, rfl, by decide, inX12, tyX12_ok, nmX12, px_c5 (List.mem_of_getElem? (i := 139) (by decide +kernel)) rfl, rfl, rfl, by decide +kernel⟩
theorem flX12_111 : px_fl RX12 111 12 55 true (.array .int) := ⟨RX12, TX12, 59, tyX12, rfl, by decide, inX12, tyX12_ok, nmX12, px_c5 (List.mem_of_getElem? (i := 140) (by decide +kernel)) rfl, rfl, rfl, by decide +kernel⟩
theorem flX12_114 : px_fl RX12 114 12 56 true (.array .int) := ⟨RX12, TX12, 59, tyX12, rfl, by decide, inX12, tyX12_ok, nmX12, px_c5 (List.mem_of_getElem? (i := 141) (by decide +kernel)) rfl, rfl, rfl, by decide +kernel⟩
theorem flX12_117 : px_fl RX12 117 12 57 true (.array .long) := ⟨RX12, TX12, 59, tyX12, rfl, by decide, inX12, tyX12_ok, nmX12, px_c5 (List.mem_of_getElem? (i := 142) (by decide +kernel)) rfl, rfl, rfl, by decide +kernel⟩
theorem flX12_121 : px_fl RX12 121 12 58 true (.array .long) := ⟨RX12, TX12, 59, tyX12, rfl, by decide, inX12, tyX12_ok, nmX12, px_c5 (List.mem_of_getElem? (i := 143) (by decide +kernel)) rfl, rfl, rfl, by decide +kernel⟩
theorem mlL_9 : Cond.methodLink RL 9 yX11_init ∈ px_tbl := px_c1 (List.mem_of_getElem? (i := 19) (by decide +kernel)) rfl
theorem mlX11_1 : Cond.methodLink RX11 1 objectInit ∈ px_tbl := px_c1 (List.mem_of_getElem? (i := 22) (by decide +kernel)) rfl
theorem mlX7_3 : Cond.methodLink RX7 3 objectInit ∈ px_tbl := px_c1 (List.mem_of_getElem? (i := 30) (by decide +kernel)) rfl
theorem mlX11_12 : Cond.methodLink RX11 12 yX2_init ∈ px_tbl := px_c1 (List.mem_of_getElem? (i := 96) (by decide +kernel)) rfl
theorem mlX2_3 : Cond.methodLink RX2 3 objectInit ∈ px_tbl := px_c1 (List.mem_of_getElem? (i := 99) (by decide +kernel)) rfl
theorem mlX11_17 : Cond.methodLink RX11 17 yX4_init ∈ px_tbl := px_c1 (List.mem_of_getElem? (i := 137) (by decide +kernel)) rfl
theorem mlX4_3 : Cond.methodLink RX4 3 objectInit ∈ px_tbl := px_c1 (List.mem_of_getElem? (i := 140) (by decide +kernel)) rfl
theorem mlX3_1 : Cond.methodLink RX3 1 objectInit ∈ px_tbl := px_c1 (List.mem_of_getElem? (i := 153) (by decide +kernel)) rfl
theorem mlX11_25 : Cond.methodLink RX11 25 yX5_init ∈ px_tbl := px_c1 (List.mem_of_getElem? (i := 173) (by decide +kernel)) rfl
theorem mlX5_3 : Cond.methodLink RX5 3 objectInit ∈ px_tbl := px_c1 (List.mem_of_getElem? (i := 176) (by decide +kernel)) rfl
theorem mlX11_45 : Cond.methodLink RX11 45 yX1_init ∈ px_tbl := px_c1 (List.mem_of_getElem? (i := 190) (by decide +kernel)) rfl
theorem mlX1_1 : Cond.methodLink RX1 1 objectInit ∈ px_tbl := px_c1 (List.mem_of_getElem? (i := 193) (by decide +kernel)) rfl
theorem mlX8_1 : Cond.methodLink RX8 1 objectInit ∈ px_tbl := px_c1 (List.mem_of_getElem? (i := 223) (by decide +kernel)) rfl
theorem mlX11_65 : Cond.methodLink RX11 65 yX6_init ∈ px_tbl := px_c2 (List.mem_of_getElem? (i := 6) (by decide +kernel)) rfl
theorem mlX6_3 : Cond.methodLink RX6 3 objectInit ∈ px_tbl := px_c2 (List.mem_of_getElem? (i := 9) (by decide +kernel)) rfl
theorem mlX11_74 : Cond.methodLink RX11 74 yX9_init ∈ px_tbl := px_c2 (List.mem_of_getElem? (i := 25) (by decide +kernel)) rfl
theorem mlX9_3 : Cond.methodLink RX9 3 objectInit ∈ px_tbl := px_c2 (List.mem_of_getElem? (i := 28) (by decide +kernel)) rfl
theorem mlX9_25 : Cond.methodLink RX9 25 yX2_init ∈ px_tbl := px_c2 (List.mem_of_getElem? (i := 30) (by decide +kernel)) rfl
theorem mlX11_83 : Cond.methodLink RX11 83 yX10_init ∈ px_tbl := px_c2 (List.mem_of_getElem? (i := 54) (by decide +kernel)) rfl
theorem mlX10_3 : Cond.methodLink RX10 3 objectInit ∈ px_tbl := px_c2 (List.mem_of_getElem? (i := 57) (by decide +kernel)) rfl
theorem mlX0_3 : Cond.methodLink RX0 3 objectInit ∈ px_tbl := px_c2 (List.mem_of_getElem? (i := 85) (by decide +kernel)) rfl
theorem mlL_13 : Cond.methodLink RL 13 yX11_person ∈ px_tbl := px_c2 (List.mem_of_getElem? (i := 152) (by decide +kernel)) rfl
theorem mlX11_99 : Cond.methodLink RX11 99 yX11_isWithin ∈ px_tbl := px_c2 (List.mem_of_getElem? (i := 156) (by decide +kernel)) rfl
theorem mlL_18 : Cond.methodLink RL 18 yX11_joy ∈ px_tbl := px_c2 (List.mem_of_getElem? (i := 159) (by decide +kernel)) rfl
theorem mlX11_111 : Cond.methodLink RX11 111 yX7_isPerson ∈ px_tbl := px_c2 (List.mem_of_getElem? (i := 163) (by decide +kernel)) rfl
theorem mlX11_118 : Cond.methodLink RX11 118 yX7_addJoy ∈ px_tbl := px_c2 (List.mem_of_getElem? (i := 167) (by decide +kernel)) rfl
theorem mlL_23 : Cond.methodLink RL 23 yX11_joys ∈ px_tbl := px_c2 (List.mem_of_getElem? (i := 171) (by decide +kernel)) rfl
theorem mlX11_122 : Cond.methodLink RX11 122 yX5_refuseBytes ∈ px_tbl := px_c2 (List.mem_of_getElem? (i := 175) (by decide +kernel)) rfl
theorem mlX5_32 : Cond.methodLink RX5 32 yX5_refuseRow ∈ px_tbl := px_c2 (List.mem_of_getElem? (i := 179) (by decide +kernel)) rfl
theorem mlX5_22 : Cond.methodLink RX5 22 yX5_isShelf ∈ px_tbl := px_c2 (List.mem_of_getElem? (i := 183) (by decide +kernel)) rfl
theorem mlX5_29 : Cond.methodLink RX5 29 yX5_isEmpty ∈ px_tbl := px_c2 (List.mem_of_getElem? (i := 186) (by decide +kernel)) rfl
theorem mlX5_26 : Cond.methodLink RX5 26 yX5_isRow ∈ px_tbl := px_c2 (List.mem_of_getElem? (i := 190) (by decide +kernel)) rfl
theorem mlX11_126 : Cond.methodLink RX11 126 yX11_joyFromRow ∈ px_tbl := px_c2 (List.mem_of_getElem? (i := 194) (by decide +kernel)) rfl
theorem mlX11_130 : Cond.methodLink RX11 130 yX5_lengthOf ∈ px_tbl := px_c2 (List.mem_of_getElem? (i := 198) (by decide +kernel)) rfl
theorem mlX11_133 : Cond.methodLink RX11 133 yX5_cell ∈ px_tbl := px_c2 (List.mem_of_getElem? (i := 202) (by decide +kernel)) rfl
theorem mlX5_36 : Cond.methodLink RX5 36 yX5_hasRun ∈ px_tbl := px_c2 (List.mem_of_getElem? (i := 206) (by decide +kernel)) rfl
theorem mlX5_40 : Cond.methodLink RX5 40 yX5_lengthOf ∈ px_tbl := px_c2 (List.mem_of_getElem? (i := 210) (by decide +kernel)) rfl
theorem mlX11_137 : Cond.methodLink RX11 137 yX4_mayBe ∈ px_tbl := px_c2 (List.mem_of_getElem? (i := 211) (by decide +kernel)) rfl
theorem mlX11_140 : Cond.methodLink RX11 140 yX11_joy ∈ px_tbl := px_c2 (List.mem_of_getElem? (i := 218) (by decide +kernel)) rfl
theorem mlX11_143 : Cond.methodLink RX11 143 yX7_isJoy ∈ px_tbl := px_c2 (List.mem_of_getElem? (i := 219) (by decide +kernel)) rfl
theorem mlL_28 : Cond.methodLink RL 28 yX11_mend ∈ px_tbl := px_c2 (List.mem_of_getElem? (i := 223) (by decide +kernel)) rfl
theorem mlX11_149 : Cond.methodLink RX11 149 yX4_isThere ∈ px_tbl := px_c2 (List.mem_of_getElem? (i := 227) (by decide +kernel)) rfl
theorem mlX4_26 : Cond.methodLink RX4 26 yX7_isPerson ∈ px_tbl := px_c2 (List.mem_of_getElem? (i := 231) (by decide +kernel)) rfl
theorem mlX4_32 : Cond.methodLink RX4 32 yX7_isJoy ∈ px_tbl := px_c2 (List.mem_of_getElem? (i := 232) (by decide +kernel)) rfl
theorem mlX11_152 : Cond.methodLink RX11 152 yX4_read ∈ px_tbl := px_c2 (List.mem_of_getElem? (i := 233) (by decide +kernel)) rfl
theorem mlX4_50 : Cond.methodLink RX4 50 yX4_isThere ∈ px_tbl := px_c2 (List.mem_of_getElem? (i := 237) (by decide +kernel)) rfl
theorem mlX4_54 : Cond.methodLink RX4 54 yX4_listOf ∈ px_tbl := px_c2 (List.mem_of_getElem? (i := 238) (by decide +kernel)) rfl
theorem mlX11_155 : Cond.methodLink RX11 155 yX1_add ∈ px_tbl := px_c3 (List.mem_of_getElem? (i := 2) (by decide +kernel)) rfl
theorem mlX1_30 : Cond.methodLink RX1 30 yX1_forgetOldest ∈ px_tbl := px_c3 (List.mem_of_getElem? (i := 6) (by decide +kernel)) rfl
theorem mlX1_36 : Cond.methodLink RX1 36 arraycopyName ∈ px_tbl := px_c3 (List.mem_of_getElem? (i := 10) (by decide +kernel)) rfl
theorem mlX11_159 : Cond.methodLink RX11 159 yX4_write ∈ px_tbl := px_c3 (List.mem_of_getElem? (i := 13) (by decide +kernel)) rfl
theorem mlL_32 : Cond.methodLink RL 32 yX11_of ∈ px_tbl := px_c3 (List.mem_of_getElem? (i := 17) (by decide +kernel)) rfl
theorem mlL_36 : Cond.methodLink RL 36 yX11_feed ∈ px_tbl := px_c3 (List.mem_of_getElem? (i := 21) (by decide +kernel)) rfl
theorem mlX11_166 : Cond.methodLink RX11 166 yX8_append ∈ px_tbl := px_c3 (List.mem_of_getElem? (i := 25) (by decide +kernel)) rfl
theorem mlL_40 : Cond.methodLink RL 40 yX11_law ∈ px_tbl := px_c3 (List.mem_of_getElem? (i := 29) (by decide +kernel)) rfl
theorem mlX11_172 : Cond.methodLink RX11 172 yX8_readLaw ∈ px_tbl := px_c3 (List.mem_of_getElem? (i := 33) (by decide +kernel)) rfl
theorem mlX8_31 : Cond.methodLink RX8 31 yX3_clear ∈ px_tbl := px_c3 (List.mem_of_getElem? (i := 37) (by decide +kernel)) rfl
theorem mlX8_34 : Cond.methodLink RX8 34 yX8_readLine ∈ px_tbl := px_c3 (List.mem_of_getElem? (i := 41) (by decide +kernel)) rfl
theorem mlX8_45 : Cond.methodLink RX8 45 yX8_readEither ∈ px_tbl := px_c3 (List.mem_of_getElem? (i := 45) (by decide +kernel)) rfl
theorem mlX8_56 : Cond.methodLink RX8 56 yX8_readBoth ∈ px_tbl := px_c3 (List.mem_of_getElem? (i := 49) (by decide +kernel)) rfl
theorem mlX8_59 : Cond.methodLink RX8 59 yX8_readCompared ∈ px_tbl := px_c3 (List.mem_of_getElem? (i := 53) (by decide +kernel)) rfl
theorem mlX8_62 : Cond.methodLink RX8 62 yX8_readSum ∈ px_tbl := px_c3 (List.mem_of_getElem? (i := 57) (by decide +kernel)) rfl
theorem mlX8_65 : Cond.methodLink RX8 65 yX8_readProduct ∈ px_tbl := px_c3 (List.mem_of_getElem? (i := 61) (by decide +kernel)) rfl
theorem mlX8_68 : Cond.methodLink RX8 68 yX8_readOperand ∈ px_tbl := px_c3 (List.mem_of_getElem? (i := 65) (by decide +kernel)) rfl
theorem mlX8_41 : Cond.methodLink RX8 41 yX8_next ∈ px_tbl := px_c3 (List.mem_of_getElem? (i := 69) (by decide +kernel)) rfl
theorem mlX8_71 : Cond.methodLink RX8 71 yX8_nameOf ∈ px_tbl := px_c3 (List.mem_of_getElem? (i := 73) (by decide +kernel)) rfl
theorem mlX8_75 : Cond.methodLink RX8 75 yX8_isDigit ∈ px_tbl := px_c3 (List.mem_of_getElem? (i := 76) (by decide +kernel)) rfl
theorem mlX8_78 : Cond.methodLink RX8 78 yX8_readNumber ∈ px_tbl := px_c3 (List.mem_of_getElem? (i := 79) (by decide +kernel)) rfl
theorem mlX8_49 : Cond.methodLink RX8 49 yX3_add ∈ px_tbl := px_c3 (List.mem_of_getElem? (i := 83) (by decide +kernel)) rfl
theorem mlX8_37 : Cond.methodLink RX8 37 yX8_takes ∈ px_tbl := px_c3 (List.mem_of_getElem? (i := 87) (by decide +kernel)) rfl
theorem mlX8_53 : Cond.methodLink RX8 53 yX3_aimTest ∈ px_tbl := px_c3 (List.mem_of_getElem? (i := 91) (by decide +kernel)) rfl
theorem mlX11_179 : Cond.methodLink RX11 179 yX3_take ∈ px_tbl := px_c3 (List.mem_of_getElem? (i := 95) (by decide +kernel)) rfl
theorem mlX3_26 : Cond.methodLink RX3 26 arraycopyName ∈ px_tbl := px_c3 (List.mem_of_getElem? (i := 99) (by decide +kernel)) rfl
theorem mlL_45 : Cond.methodLink RL 45 yX11_smell ∈ px_tbl := px_c3 (List.mem_of_getElem? (i := 100) (by decide +kernel)) rfl
theorem mlX11_183 : Cond.methodLink RX11 183 yX2_sideOfJoy ∈ px_tbl := px_c3 (List.mem_of_getElem? (i := 104) (by decide +kernel)) rfl
theorem mlX2_55 : Cond.methodLink RX2 55 yX2_houseOfJoy ∈ px_tbl := px_c3 (List.mem_of_getElem? (i := 108) (by decide +kernel)) rfl
theorem mlX11_186 : Cond.methodLink RX11 186 yX6_howMuch ∈ px_tbl := px_c3 (List.mem_of_getElem? (i := 112) (by decide +kernel)) rfl
theorem mlX6_27 : Cond.methodLink RX6 27 yX2_houseOfJoy ∈ px_tbl := px_c3 (List.mem_of_getElem? (i := 116) (by decide +kernel)) rfl
theorem mlX11_376 : Cond.methodLink RX11 376 Lib.Math.abs.name ∈ px_tbl := px_c3 (List.mem_of_getElem? (i := 120) (by decide +kernel)) rfl
theorem mlX6_37 : Cond.methodLink RX6 37 yX6_othersRunning ∈ px_tbl := px_c3 (List.mem_of_getElem? (i := 123) (by decide +kernel)) rfl
theorem mlX6_83 : Cond.methodLink RX6 83 yX2_runs ∈ px_tbl := px_c3 (List.mem_of_getElem? (i := 127) (by decide +kernel)) rfl
theorem mlX6_40 : Cond.methodLink RX6 40 yX3_isTold ∈ px_tbl := px_c3 (List.mem_of_getElem? (i := 131) (by decide +kernel)) rfl
theorem mlX6_46 : Cond.methodLink RX6 46 yX6_byText ∈ px_tbl := px_c3 (List.mem_of_getElem? (i := 135) (by decide +kernel)) rfl
theorem mlX6_76 : Cond.methodLink RX6 76 yX3_workOut ∈ px_tbl := px_c3 (List.mem_of_getElem? (i := 139) (by decide +kernel)) rfl
theorem mlX3_32 : Cond.methodLink RX3 32 yX3_valueOf ∈ px_tbl := px_c3 (List.mem_of_getElem? (i := 143) (by decide +kernel)) rfl
theorem mlX3_36 : Cond.methodLink RX3 36 Lib.Math.max.name ∈ px_tbl := px_c3 (List.mem_of_getElem? (i := 147) (by decide +kernel)) rfl
theorem mlX3_42 : Cond.methodLink RX3 42 yX3_join ∈ px_tbl := px_c3 (List.mem_of_getElem? (i := 150) (by decide +kernel)) rfl
theorem mlX6_55 : Cond.methodLink RX6 55 Lib.Math.min.name ∈ px_tbl := px_c3 (List.mem_of_getElem? (i := 153) (by decide +kernel)) rfl
theorem mlX6_60 : Cond.methodLink RX6 60 Lib.Math.max.name ∈ px_tbl := px_c3 (List.mem_of_getElem? (i := 156) (by decide +kernel)) rfl
theorem mlL_49 : Cond.methodLink RL 49 yX11_smelt ∈ px_tbl := px_c3 (List.mem_of_getElem? (i := 157) (by decide +kernel)) rfl
theorem mlX11_189 : Cond.methodLink RX11 189 yX6_housesSmelling ∈ px_tbl := px_c3 (List.mem_of_getElem? (i := 161) (by decide +kernel)) rfl
theorem mlX6_87 : Cond.methodLink RX6 87 yX2_sideOfJoy ∈ px_tbl := px_c3 (List.mem_of_getElem? (i := 165) (by decide +kernel)) rfl
theorem mlX6_90 : Cond.methodLink RX6 90 yX6_howMuch ∈ px_tbl := px_c3 (List.mem_of_getElem? (i := 166) (by decide +kernel)) rfl
theorem mlL_53 : Cond.methodLink RL 53 yX11_shut ∈ px_tbl := px_c3 (List.mem_of_getElem? (i := 167) (by decide +kernel)) rfl
theorem mlX11_192 : Cond.methodLink RX11 192 yX6_fewestShut ∈ px_tbl := px_c3 (List.mem_of_getElem? (i := 171) (by decide +kernel)) rfl
theorem mlX6_96 : Cond.methodLink RX6 96 yX6_housesSmelling ∈ px_tbl := px_c3 (List.mem_of_getElem? (i := 175) (by decide +kernel)) rfl
theorem mlX6_99 : Cond.methodLink RX6 99 yJ6_bitCount_0f7a4 ∈ px_tbl := px_c3 (List.mem_of_getElem? (i := 176) (by decide +kernel)) rfl
theorem mlX6_104 : Cond.methodLink RX6 104 yX6_holdsIn ∈ px_tbl := px_c3 (List.mem_of_getElem? (i := 182) (by decide +kernel)) rfl
theorem mlX11_195 : Cond.methodLink RX11 195 yJ6_bitCount_0f7a4 ∈ px_tbl := px_c3 (List.mem_of_getElem? (i := 186) (by decide +kernel)) rfl
theorem mlL_57 : Cond.methodLink RL 57 yX11_lane ∈ px_tbl := px_c3 (List.mem_of_getElem? (i := 187) (by decide +kernel)) rfl
theorem mlX11_200 : Cond.methodLink RX11 200 yX9_behind ∈ px_tbl := px_c3 (List.mem_of_getElem? (i := 191) (by decide +kernel)) rfl
theorem mlX9_44 : Cond.methodLink RX9 44 yX9_startNow ∈ px_tbl := px_c3 (List.mem_of_getElem? (i := 195) (by decide +kernel)) rfl
theorem mlX9_40 : Cond.methodLink RX9 40 yX2_take ∈ px_tbl := px_c3 (List.mem_of_getElem? (i := 199) (by decide +kernel)) rfl
theorem mlX2_28 : Cond.methodLink RX2 28 Lib.Math.min.name ∈ px_tbl := px_c3 (List.mem_of_getElem? (i := 203) (by decide +kernel)) rfl
theorem mlX2_34 : Cond.methodLink RX2 34 Lib.Math.max.name ∈ px_tbl := px_c3 (List.mem_of_getElem? (i := 204) (by decide +kernel)) rfl
theorem mlX2_37 : Cond.methodLink RX2 37 arraycopyName ∈ px_tbl := px_c3 (List.mem_of_getElem? (i := 205) (by decide +kernel)) rfl
theorem mlX9_47 : Cond.methodLink RX9 47 yX2_pass ∈ px_tbl := px_c3 (List.mem_of_getElem? (i := 206) (by decide +kernel)) rfl
theorem mlX2_94 : Cond.methodLink RX2 94 yX2_holdVote ∈ px_tbl := px_c3 (List.mem_of_getElem? (i := 210) (by decide +kernel)) rfl
theorem mlX2_101 : Cond.methodLink RX2 101 yX2_leadOfSide0 ∈ px_tbl := px_c3 (List.mem_of_getElem? (i := 214) (by decide +kernel)) rfl
theorem mlX2_97 : Cond.methodLink RX2 97 yX2_passFor ∈ px_tbl := px_c3 (List.mem_of_getElem? (i := 218) (by decide +kernel)) rfl
theorem mlX2_105 : Cond.methodLink RX2 105 yX2_sideOfJoy ∈ px_tbl := px_c3 (List.mem_of_getElem? (i := 222) (by decide +kernel)) rfl
theorem mlX2_69 : Cond.methodLink RX2 69 yX2_runs ∈ px_tbl := px_c3 (List.mem_of_getElem? (i := 223) (by decide +kernel)) rfl
theorem mlX2_108 : Cond.methodLink RX2 108 yX2_runOn ∈ px_tbl := px_c3 (List.mem_of_getElem? (i := 224) (by decide +kernel)) rfl
theorem mlX2_72 : Cond.methodLink RX2 72 yX2_had ∈ px_tbl := px_c3 (List.mem_of_getElem? (i := 228) (by decide +kernel)) rfl
theorem mlX2_65 : Cond.methodLink RX2 65 yX2_waits ∈ px_tbl := px_c3 (List.mem_of_getElem? (i := 232) (by decide +kernel)) rfl
theorem mlX11_204 : Cond.methodLink RX11 204 yX2_gladPeople ∈ px_tbl := px_c3 (List.mem_of_getElem? (i := 236) (by decide +kernel)) rfl
theorem mlX2_85 : Cond.methodLink RX2 85 yX2_isGlad ∈ px_tbl := px_c4 (List.mem_of_getElem? (i := 0) (by decide +kernel)) rfl
theorem mlX11_210 : Cond.methodLink RX11 210 yX2_worthOfHad ∈ px_tbl := px_c4 (List.mem_of_getElem? (i := 4) (by decide +kernel)) rfl
theorem mlX11_213 : Cond.methodLink RX11 213 yX2_worthOfLost ∈ px_tbl := px_c4 (List.mem_of_getElem? (i := 8) (by decide +kernel)) rfl
theorem mlX11_219 : Cond.methodLink RX11 219 yX2_joysThat ∈ px_tbl := px_c4 (List.mem_of_getElem? (i := 12) (by decide +kernel)) rfl
theorem mlX2_78 : Cond.methodLink RX2 78 yX2_isIn ∈ px_tbl := px_c4 (List.mem_of_getElem? (i := 16) (by decide +kernel)) rfl
theorem mlL_61 : Cond.methodLink RL 61 yX11_when ∈ px_tbl := px_c4 (List.mem_of_getElem? (i := 20) (by decide +kernel)) rfl
theorem mlX11_222 : Cond.methodLink RX11 222 yX9_firstDayOf ∈ px_tbl := px_c4 (List.mem_of_getElem? (i := 24) (by decide +kernel)) rfl
theorem mlX9_62 : Cond.methodLink RX9 62 yX2_isIn ∈ px_tbl := px_c4 (List.mem_of_getElem? (i := 28) (by decide +kernel)) rfl
theorem mlL_65 : Cond.methodLink RL 65 yX11_move ∈ px_tbl := px_c4 (List.mem_of_getElem? (i := 29) (by decide +kernel)) rfl
theorem mlX11_225 : Cond.methodLink RX11 225 yX9_seekMove ∈ px_tbl := px_c4 (List.mem_of_getElem? (i := 33) (by decide +kernel)) rfl
theorem mlX9_66 : Cond.methodLink RX9 66 yX9_worthBehind ∈ px_tbl := px_c4 (List.mem_of_getElem? (i := 37) (by decide +kernel)) rfl
theorem mlX9_50 : Cond.methodLink RX9 50 yX7_isPerson ∈ px_tbl := px_c4 (List.mem_of_getElem? (i := 41) (by decide +kernel)) rfl
theorem mlX9_58 : Cond.methodLink RX9 58 yX2_worthOfHad ∈ px_tbl := px_c4 (List.mem_of_getElem? (i := 42) (by decide +kernel)) rfl
theorem mlL_69 : Cond.methodLink RL 69 yX11_over ∈ px_tbl := px_c4 (List.mem_of_getElem? (i := 43) (by decide +kernel)) rfl
theorem mlX11_235 : Cond.methodLink RX11 235 yX10_fewestToTurn ∈ px_tbl := px_c4 (List.mem_of_getElem? (i := 47) (by decide +kernel)) rfl
theorem mlX10_27 : Cond.methodLink RX10 27 yX2_leadOfSide0 ∈ px_tbl := px_c4 (List.mem_of_getElem? (i := 51) (by decide +kernel)) rfl
theorem mlL_73 : Cond.methodLink RL 73 yX11_date ∈ px_tbl := px_c4 (List.mem_of_getElem? (i := 52) (by decide +kernel)) rfl
theorem mlX11_238 : Cond.methodLink RX11 238 yX9_seekDue ∈ px_tbl := px_c4 (List.mem_of_getElem? (i := 56) (by decide +kernel)) rfl
theorem mlL_77 : Cond.methodLink RL 77 yX11_judge ∈ px_tbl := px_c4 (List.mem_of_getElem? (i := 60) (by decide +kernel)) rfl
theorem mlX11_242 : Cond.methodLink RX11 242 yX9_firstUnlike ∈ px_tbl := px_c4 (List.mem_of_getElem? (i := 64) (by decide +kernel)) rfl
theorem mlX9_79 : Cond.methodLink RX9 79 yX5_lengthOf ∈ px_tbl := px_c4 (List.mem_of_getElem? (i := 68) (by decide +kernel)) rfl
theorem mlX9_85 : Cond.methodLink RX9 85 Lib.Math.min.name ∈ px_tbl := px_c4 (List.mem_of_getElem? (i := 69) (by decide +kernel)) rfl
theorem mlX9_91 : Cond.methodLink RX9 91 yX5_cell ∈ px_tbl := px_c4 (List.mem_of_getElem? (i := 70) (by decide +kernel)) rfl
theorem mlX9_97 : Cond.methodLink RX9 97 yX2_isGlad ∈ px_tbl := px_c4 (List.mem_of_getElem? (i := 72) (by decide +kernel)) rfl
theorem mlL_81 : Cond.methodLink RL 81 yX11_fits ∈ px_tbl := px_c4 (List.mem_of_getElem? (i := 73) (by decide +kernel)) rfl
theorem mlX11_248 : Cond.methodLink RX11 248 yX9_seekFits ∈ px_tbl := px_c4 (List.mem_of_getElem? (i := 77) (by decide +kernel)) rfl
theorem mlX9_100 : Cond.methodLink RX9 100 yX9_firstUnlike ∈ px_tbl := px_c4 (List.mem_of_getElem? (i := 81) (by decide +kernel)) rfl
theorem mlL_85 : Cond.methodLink RL 85 yX11_who ∈ px_tbl := px_c4 (List.mem_of_getElem? (i := 82) (by decide +kernel)) rfl
theorem mlL_89 : Cond.methodLink RL 89 yX11_share ∈ px_tbl := px_c4 (List.mem_of_getElem? (i := 86) (by decide +kernel)) rfl
theorem mlX11_255 : Cond.methodLink RX11 255 yX2_worthOfHadBy ∈ px_tbl := px_c4 (List.mem_of_getElem? (i := 90) (by decide +kernel)) rfl
theorem mlL_93 : Cond.methodLink RL 93 yX11_near ∈ px_tbl := px_c4 (List.mem_of_getElem? (i := 94) (by decide +kernel)) rfl
theorem mlX11_258 : Cond.methodLink RX11 258 yX10_nearestAcross ∈ px_tbl := px_c4 (List.mem_of_getElem? (i := 98) (by decide +kernel)) rfl
theorem mlX10_45 : Cond.methodLink RX10 45 yX10_areAcross ∈ px_tbl := px_c4 (List.mem_of_getElem? (i := 102) (by decide +kernel)) rfl
theorem mlX10_53 : Cond.methodLink RX10 53 Lib.Math.min.name ∈ px_tbl := px_c4 (List.mem_of_getElem? (i := 107) (by decide +kernel)) rfl
theorem mlL_97 : Cond.methodLink RL 97 yX11_mates ∈ px_tbl := px_c4 (List.mem_of_getElem? (i := 108) (by decide +kernel)) rfl
theorem mlX11_261 : Cond.methodLink RX11 261 yX10_mostPairs ∈ px_tbl := px_c4 (List.mem_of_getElem? (i := 112) (by decide +kernel)) rfl
theorem mlX10_58 : Cond.methodLink RX10 58 yX10_pairOff ∈ px_tbl := px_c4 (List.mem_of_getElem? (i := 116) (by decide +kernel)) rfl
theorem mlX10_62 : Cond.methodLink RX10 62 yJ6_bitCount_0f7a4 ∈ px_tbl := px_c4 (List.mem_of_getElem? (i := 120) (by decide +kernel)) rfl
theorem mlX10_68 : Cond.methodLink RX10 68 Lib.Math.max.name ∈ px_tbl := px_c4 (List.mem_of_getElem? (i := 121) (by decide +kernel)) rfl
theorem mlL_101 : Cond.methodLink RL 101 yX11_byTurns ∈ px_tbl := px_c4 (List.mem_of_getElem? (i := 122) (by decide +kernel)) rfl
theorem mlX11_265 : Cond.methodLink RX11 265 yX10_playTurns ∈ px_tbl := px_c4 (List.mem_of_getElem? (i := 127) (by decide +kernel)) rfl
theorem mlX10_71 : Cond.methodLink RX10 71 yX10_bestLead ∈ px_tbl := px_c4 (List.mem_of_getElem? (i := 131) (by decide +kernel)) rfl
theorem mlX10_81 : Cond.methodLink RX10 81 yX10_leadIfMoved ∈ px_tbl := px_c4 (List.mem_of_getElem? (i := 135) (by decide +kernel)) rfl
theorem mlL_105 : Cond.methodLink RL 105 yX11_drawn ∈ px_tbl := px_c4 (List.mem_of_getElem? (i := 139) (by decide +kernel)) rfl
theorem mlX11_274 : Cond.methodLink RX11 274 yX9_drawLanes ∈ px_tbl := px_c4 (List.mem_of_getElem? (i := 143) (by decide +kernel)) rfl
theorem mlX9_104 : Cond.methodLink RX9 104 yX9_moveByDraw ∈ px_tbl := px_c4 (List.mem_of_getElem? (i := 148) (by decide +kernel)) rfl
theorem mlX9_108 : Cond.methodLink RX9 108 yX2_had ∈ px_tbl := px_c4 (List.mem_of_getElem? (i := 152) (by decide +kernel)) rfl
theorem mlL_109 : Cond.methodLink RL 109 yX11_moves ∈ px_tbl := px_c4 (List.mem_of_getElem? (i := 153) (by decide +kernel)) rfl
theorem mlL_113 : Cond.methodLink RL 113 yX11_day ∈ px_tbl := px_c4 (List.mem_of_getElem? (i := 157) (by decide +kernel)) rfl
theorem mlX11_278 : Cond.methodLink RX11 278 yX2_pass ∈ px_tbl := px_c4 (List.mem_of_getElem? (i := 161) (by decide +kernel)) rfl
theorem mlL_117 : Cond.methodLink RL 117 yX11_inspect ∈ px_tbl := px_c4 (List.mem_of_getElem? (i := 162) (by decide +kernel)) rfl
theorem mlX11_281 : Cond.methodLink RX11 281 yX6_smeltWhereLived ∈ px_tbl := px_c4 (List.mem_of_getElem? (i := 166) (by decide +kernel)) rfl
theorem mlL_121 : Cond.methodLink RL 121 yX11_led ∈ px_tbl := px_c4 (List.mem_of_getElem? (i := 170) (by decide +kernel)) rfl
theorem mlL_125 : Cond.methodLink RL 125 yX11_image ∈ px_tbl := px_c4 (List.mem_of_getElem? (i := 174) (by decide +kernel)) rfl
theorem mlX11_294 : Cond.methodLink RX11 294 yX2_take ∈ px_tbl := px_c4 (List.mem_of_getElem? (i := 178) (by decide +kernel)) rfl
theorem mlL_129 : Cond.methodLink RL 129 yX11_back ∈ px_tbl := px_c4 (List.mem_of_getElem? (i := 179) (by decide +kernel)) rfl
theorem mlL_133 : Cond.methodLink RL 133 yX11_undo ∈ px_tbl := px_c4 (List.mem_of_getElem? (i := 183) (by decide +kernel)) rfl
theorem mlX11_297 : Cond.methodLink RX11 297 yX1_takeBack ∈ px_tbl := px_c4 (List.mem_of_getElem? (i := 187) (by decide +kernel)) rfl
theorem mlX1_42 : Cond.methodLink RX1 42 yX4_write ∈ px_tbl := px_c4 (List.mem_of_getElem? (i := 191) (by decide +kernel)) rfl
theorem mlL_137 : Cond.methodLink RL 137 yX11_redo ∈ px_tbl := px_c4 (List.mem_of_getElem? (i := 192) (by decide +kernel)) rfl
theorem mlX11_304 : Cond.methodLink RX11 304 yX1_doAgain ∈ px_tbl := px_c4 (List.mem_of_getElem? (i := 196) (by decide +kernel)) rfl
theorem mlL_141 : Cond.methodLink RL 141 yX11_body ∈ px_tbl := px_c4 (List.mem_of_getElem? (i := 200) (by decide +kernel)) rfl
theorem mlX11_310 : Cond.methodLink RX11 310 yX0_add ∈ px_tbl := px_c4 (List.mem_of_getElem? (i := 204) (by decide +kernel)) rfl
theorem mlL_145 : Cond.methodLink RL 145 yX11_act ∈ px_tbl := px_c4 (List.mem_of_getElem? (i := 208) (by decide +kernel)) rfl
theorem mlX11_312 : Cond.methodLink RX11 312 yX0_perform ∈ px_tbl := px_c4 (List.mem_of_getElem? (i := 212) (by decide +kernel)) rfl
theorem mlX0_34 : Cond.methodLink RX0 34 yX0_isBody ∈ px_tbl := px_c4 (List.mem_of_getElem? (i := 216) (by decide +kernel)) rfl
theorem mlX0_41 : Cond.methodLink RX0 41 yX0_ask ∈ px_tbl := px_c4 (List.mem_of_getElem? (i := 220) (by decide +kernel)) rfl
theorem mlX0_45 : Cond.methodLink RX0 45 yX0_run ∈ px_tbl := px_c4 (List.mem_of_getElem? (i := 224) (by decide +kernel)) rfl
theorem mlX0_52 : Cond.methodLink RX0 52 yX0_holderFrom ∈ px_tbl := px_c4 (List.mem_of_getElem? (i := 228) (by decide +kernel)) rfl
theorem mlX0_55 : Cond.methodLink RX0 55 yX0_note ∈ px_tbl := px_c4 (List.mem_of_getElem? (i := 235) (by decide +kernel)) rfl
theorem mlL_149 : Cond.methodLink RL 149 yX11_trace ∈ px_tbl := px_c4 (List.mem_of_getElem? (i := 239) (by decide +kernel)) rfl
theorem mlX11_316 : Cond.methodLink RX11 316 yX0_traced ∈ px_tbl := px_c5 (List.mem_of_getElem? (i := 3) (by decide +kernel)) rfl
theorem mlX0_25 : Cond.methodLink RX0 25 Lib.Math.min.name ∈ px_tbl := px_c5 (List.mem_of_getElem? (i := 7) (by decide +kernel)) rfl
theorem mlL_153 : Cond.methodLink RL 153 yX11_keep ∈ px_tbl := px_c5 (List.mem_of_getElem? (i := 8) (by decide +kernel)) rfl
theorem mlX11_322 : Cond.methodLink RX11 322 yX5_isShelf ∈ px_tbl := px_c5 (List.mem_of_getElem? (i := 12) (by decide +kernel)) rfl
theorem mlX11_325 : Cond.methodLink RX11 325 yX5_empty ∈ px_tbl := px_c5 (List.mem_of_getElem? (i := 13) (by decide +kernel)) rfl
theorem mlX11_328 : Cond.methodLink RX11 328 yX0_isBody ∈ px_tbl := px_c5 (List.mem_of_getElem? (i := 17) (by decide +kernel)) rfl
theorem mlX11_331 : Cond.methodLink RX11 331 yX5_layBody ∈ px_tbl := px_c5 (List.mem_of_getElem? (i := 18) (by decide +kernel)) rfl
theorem mlL_157 : Cond.methodLink RL 157 yX11_row ∈ px_tbl := px_c5 (List.mem_of_getElem? (i := 22) (by decide +kernel)) rfl
theorem mlX11_334 : Cond.methodLink RX11 334 yX5_layRow ∈ px_tbl := px_c5 (List.mem_of_getElem? (i := 26) (by decide +kernel)) rfl
theorem mlL_163 : Cond.methodLink RL 163 yX11_put ∈ px_tbl := px_c5 (List.mem_of_getElem? (i := 30) (by decide +kernel)) rfl
theorem mlX11_337 : Cond.methodLink RX11 337 yX5_refusePlace ∈ px_tbl := px_c5 (List.mem_of_getElem? (i := 34) (by decide +kernel)) rfl
theorem mlX11_340 : Cond.methodLink RX11 340 yX5_setCell ∈ px_tbl := px_c5 (List.mem_of_getElem? (i := 38) (by decide +kernel)) rfl
theorem mlX5_43 : Cond.methodLink RX5 43 yX5_cut ∈ px_tbl := px_c5 (List.mem_of_getElem? (i := 42) (by decide +kernel)) rfl
theorem mlL_168 : Cond.methodLink RL 168 yX11_element ∈ px_tbl := px_c5 (List.mem_of_getElem? (i := 45) (by decide +kernel)) rfl
theorem mlL_173 : Cond.methodLink RL 173 yX11_shift ∈ px_tbl := px_c5 (List.mem_of_getElem? (i := 50) (by decide +kernel)) rfl
theorem mlX11_348 : Cond.methodLink RX11 348 yX5_refusePair ∈ px_tbl := px_c5 (List.mem_of_getElem? (i := 54) (by decide +kernel)) rfl
theorem mlX11_351 : Cond.methodLink RX11 351 yX5_hasRun ∈ px_tbl := px_c5 (List.mem_of_getElem? (i := 58) (by decide +kernel)) rfl
theorem mlX11_354 : Cond.methodLink RX11 354 yX5_copyRun ∈ px_tbl := px_c5 (List.mem_of_getElem? (i := 59) (by decide +kernel)) rfl
theorem mlX5_47 : Cond.methodLink RX5 47 arraycopyName ∈ px_tbl := px_c5 (List.mem_of_getElem? (i := 63) (by decide +kernel)) rfl
theorem mlL_178 : Cond.methodLink RL 178 yX11_taken ∈ px_tbl := px_c5 (List.mem_of_getElem? (i := 64) (by decide +kernel)) rfl
theorem mlX11_358 : Cond.methodLink RX11 358 yX5_isEmpty ∈ px_tbl := px_c5 (List.mem_of_getElem? (i := 68) (by decide +kernel)) rfl
theorem mlX11_361 : Cond.methodLink RX11 361 yX5_bodyOn ∈ px_tbl := px_c5 (List.mem_of_getElem? (i := 69) (by decide +kernel)) rfl
theorem mlX11_367 : Cond.methodLink RX11 367 yX0_isUnder ∈ px_tbl := px_c5 (List.mem_of_getElem? (i := 73) (by decide +kernel)) rfl
theorem mlL_182 : Cond.methodLink RL 182 yX11_count ∈ px_tbl := px_c5 (List.mem_of_getElem? (i := 76) (by decide +kernel)) rfl
theorem mlL_12 : Cond.methodLink RL 12 yX12_init ∈ px_tbl := px_c5 (List.mem_of_getElem? (i := 82) (by decide +kernel)) rfl
theorem mlX12_1 : Cond.methodLink RX12 1 objectInit ∈ px_tbl := px_c5 (List.mem_of_getElem? (i := 85) (by decide +kernel)) rfl
theorem mlL_17 : Cond.methodLink RL 17 yX12_person ∈ px_tbl := px_c6 (List.mem_of_getElem? (i := 25) (by decide +kernel)) rfl
theorem mlX12_138 : Cond.methodLink RX12 138 yX12_isHouse ∈ px_tbl := px_c6 (List.mem_of_getElem? (i := 29) (by decide +kernel)) rfl
theorem mlX12_131 : Cond.methodLink RX12 131 yX12_in ∈ px_tbl := px_c6 (List.mem_of_getElem? (i := 32) (by decide +kernel)) rfl
theorem mlL_22 : Cond.methodLink RL 22 yX12_joy ∈ px_tbl := px_c6 (List.mem_of_getElem? (i := 35) (by decide +kernel)) rfl
theorem mlX12_142 : Cond.methodLink RX12 142 yX12_isOne ∈ px_tbl := px_c6 (List.mem_of_getElem? (i := 39) (by decide +kernel)) rfl
theorem mlX12_145 : Cond.methodLink RX12 145 yX12_addJoy ∈ px_tbl := px_c6 (List.mem_of_getElem? (i := 43) (by decide +kernel)) rfl
theorem mlL_27 : Cond.methodLink RL 27 yX12_joys ∈ px_tbl := px_c6 (List.mem_of_getElem? (i := 47) (by decide +kernel)) rfl
theorem mlX12_149 : Cond.methodLink RX12 149 yX12_isShelf ∈ px_tbl := px_c6 (List.mem_of_getElem? (i := 51) (by decide +kernel)) rfl
theorem mlL_136 : Cond.methodLink RL 136 yX12_undo ∈ px_tbl := px_c6 (List.mem_of_getElem? (i := 55) (by decide +kernel)) rfl
theorem mlX12_164 : Cond.methodLink RX12 164 yX12_lays ∈ px_tbl := px_c6 (List.mem_of_getElem? (i := 59) (by decide +kernel)) rfl
theorem mlL_140 : Cond.methodLink RL 140 yX12_redo ∈ px_tbl := px_c6 (List.mem_of_getElem? (i := 63) (by decide +kernel)) rfl
theorem mlL_31 : Cond.methodLink RL 31 yX12_mend ∈ px_tbl := px_c6 (List.mem_of_getElem? (i := 67) (by decide +kernel)) rfl
theorem mlX12_174 : Cond.methodLink RX12 174 yX12_isPlace ∈ px_tbl := px_c6 (List.mem_of_getElem? (i := 71) (by decide +kernel)) rfl
theorem mlX12_168 : Cond.methodLink RX12 168 yX12_isJoy ∈ px_tbl := px_c6 (List.mem_of_getElem? (i := 75) (by decide +kernel)) rfl
theorem mlX12_178 : Cond.methodLink RX12 178 yX12_mayHave ∈ px_tbl := px_c6 (List.mem_of_getElem? (i := 79) (by decide +kernel)) rfl
theorem mlX12_171 : Cond.methodLink RX12 171 yX12_isSide ∈ px_tbl := px_c6 (List.mem_of_getElem? (i := 82) (by decide +kernel)) rfl
theorem mlX12_181 : Cond.methodLink RX12 181 yX12_changes ∈ px_tbl := px_c6 (List.mem_of_getElem? (i := 85) (by decide +kernel)) rfl
theorem mlX12_154 : Cond.methodLink RX12 154 yX12_valueAt ∈ px_tbl := px_c6 (List.mem_of_getElem? (i := 89) (by decide +kernel)) rfl
theorem mlL_35 : Cond.methodLink RL 35 yX12_of ∈ px_tbl := px_c6 (List.mem_of_getElem? (i := 93) (by decide +kernel)) rfl
theorem mlL_39 : Cond.methodLink RL 39 yX12_feed ∈ px_tbl := px_c6 (List.mem_of_getElem? (i := 97) (by decide +kernel)) rfl
theorem mlL_44 : Cond.methodLink RL 44 yX12_law ∈ px_tbl := px_c6 (List.mem_of_getElem? (i := 101) (by decide +kernel)) rfl
theorem mlX12_248 : Cond.methodLink RX12 248 yX12_readText ∈ px_tbl := px_c6 (List.mem_of_getElem? (i := 105) (by decide +kernel)) rfl
theorem mlX12_239 : Cond.methodLink RX12 239 yX12_line ∈ px_tbl := px_c6 (List.mem_of_getElem? (i := 109) (by decide +kernel)) rfl
theorem mlX12_221 : Cond.methodLink RX12 221 yX12_either ∈ px_tbl := px_c6 (List.mem_of_getElem? (i := 113) (by decide +kernel)) rfl
theorem mlX12_236 : Cond.methodLink RX12 236 yX12_both ∈ px_tbl := px_c6 (List.mem_of_getElem? (i := 117) (by decide +kernel)) rfl
theorem mlX12_233 : Cond.methodLink RX12 233 yX12_compared ∈ px_tbl := px_c6 (List.mem_of_getElem? (i := 121) (by decide +kernel)) rfl
theorem mlX12_230 : Cond.methodLink RX12 230 yX12_sum ∈ px_tbl := px_c6 (List.mem_of_getElem? (i := 125) (by decide +kernel)) rfl
theorem mlX12_227 : Cond.methodLink RX12 227 yX12_product ∈ px_tbl := px_c6 (List.mem_of_getElem? (i := 129) (by decide +kernel)) rfl
theorem mlX12_218 : Cond.methodLink RX12 218 yX12_operand ∈ px_tbl := px_c6 (List.mem_of_getElem? (i := 133) (by decide +kernel)) rfl
theorem mlX12_202 : Cond.methodLink RX12 202 yX12_look ∈ px_tbl := px_c6 (List.mem_of_getElem? (i := 137) (by decide +kernel)) rfl
theorem mlX12_210 : Cond.methodLink RX12 210 yX12_nameOf ∈ px_tbl := px_c6 (List.mem_of_getElem? (i := 141) (by decide +kernel)) rfl
theorem mlX12_206 : Cond.methodLink RX12 206 yX12_addStep ∈ px_tbl := px_c6 (List.mem_of_getElem? (i := 144) (by decide +kernel)) rfl
theorem mlX12_214 : Cond.methodLink RX12 214 yX12_opens ∈ px_tbl := px_c6 (List.mem_of_getElem? (i := 148) (by decide +kernel)) rfl
theorem mlX12_199 : Cond.methodLink RX12 199 yX12_wrong ∈ px_tbl := px_c6 (List.mem_of_getElem? (i := 152) (by decide +kernel)) rfl
theorem mlX12_224 : Cond.methodLink RX12 224 yX12_figure ∈ px_tbl := px_c6 (List.mem_of_getElem? (i := 156) (by decide +kernel)) rfl
theorem mlL_48 : Cond.methodLink RL 48 yX12_smell ∈ px_tbl := px_c6 (List.mem_of_getElem? (i := 160) (by decide +kernel)) rfl
theorem mlX12_304 : Cond.methodLink RX12 304 yX12_layNow ∈ px_tbl := px_c6 (List.mem_of_getElem? (i := 164) (by decide +kernel)) rfl
theorem mlX12_267 : Cond.methodLink RX12 267 yX12_houseOfJoy ∈ px_tbl := px_c6 (List.mem_of_getElem? (i := 168) (by decide +kernel)) rfl
theorem mlX12_307 : Cond.methodLink RX12 307 yX12_overBy ∈ px_tbl := px_c6 (List.mem_of_getElem? (i := 172) (by decide +kernel)) rfl
theorem mlX12_295 : Cond.methodLink RX12 295 yX12_apartBy ∈ px_tbl := px_c6 (List.mem_of_getElem? (i := 176) (by decide +kernel)) rfl
theorem mlX12_298 : Cond.methodLink RX12 298 yX12_othersRun ∈ px_tbl := px_c6 (List.mem_of_getElem? (i := 179) (by decide +kernel)) rfl
theorem mlX12_276 : Cond.methodLink RX12 276 yX12_runs ∈ px_tbl := px_c6 (List.mem_of_getElem? (i := 183) (by decide +kernel)) rfl
theorem mlX12_301 : Cond.methodLink RX12 301 yX12_gives ∈ px_tbl := px_c6 (List.mem_of_getElem? (i := 187) (by decide +kernel)) rfl
theorem mlX12_245 : Cond.methodLink RX12 245 yX12_worked ∈ px_tbl := px_c6 (List.mem_of_getElem? (i := 191) (by decide +kernel)) rfl
theorem mlX12_242 : Cond.methodLink RX12 242 yX12_twoOf ∈ px_tbl := px_c6 (List.mem_of_getElem? (i := 195) (by decide +kernel)) rfl
theorem mlL_52 : Cond.methodLink RL 52 yX12_smelt ∈ px_tbl := px_c6 (List.mem_of_getElem? (i := 198) (by decide +kernel)) rfl
theorem mlX12_310 : Cond.methodLink RX12 310 yX12_smeltBy ∈ px_tbl := px_c6 (List.mem_of_getElem? (i := 202) (by decide +kernel)) rfl
theorem mlL_56 : Cond.methodLink RL 56 yX12_shut ∈ px_tbl := px_c6 (List.mem_of_getElem? (i := 206) (by decide +kernel)) rfl
theorem mlX12_313 : Cond.methodLink RX12 313 yX12_bitsOf ∈ px_tbl := px_c6 (List.mem_of_getElem? (i := 210) (by decide +kernel)) rfl
theorem mlX12_316 : Cond.methodLink RX12 316 yX12_noneSmelt ∈ px_tbl := px_c6 (List.mem_of_getElem? (i := 213) (by decide +kernel)) rfl
theorem mlX12_292 : Cond.methodLink RX12 292 yX12_has ∈ px_tbl := px_c6 (List.mem_of_getElem? (i := 217) (by decide +kernel)) rfl
theorem mlL_60 : Cond.methodLink RL 60 yX12_lane ∈ px_tbl := px_c6 (List.mem_of_getElem? (i := 220) (by decide +kernel)) rfl
theorem mlX12_322 : Cond.methodLink RX12 322 yX12_goDays ∈ px_tbl := px_c6 (List.mem_of_getElem? (i := 224) (by decide +kernel)) rfl
theorem mlX12_319 : Cond.methodLink RX12 319 yX12_goDay ∈ px_tbl := px_c6 (List.mem_of_getElem? (i := 228) (by decide +kernel)) rfl
theorem mlX12_282 : Cond.methodLink RX12 282 yX12_vote ∈ px_tbl := px_c6 (List.mem_of_getElem? (i := 232) (by decide +kernel)) rfl
theorem mlX12_270 : Cond.methodLink RX12 270 yX12_moreLeft ∈ px_tbl := px_c6 (List.mem_of_getElem? (i := 236) (by decide +kernel)) rfl
theorem mlX12_285 : Cond.methodLink RX12 285 yX12_goJoy ∈ px_tbl := px_c7 (List.mem_of_getElem? (i := 0) (by decide +kernel)) rfl
theorem mlX12_273 : Cond.methodLink RX12 273 yX12_onGladSide ∈ px_tbl := px_c7 (List.mem_of_getElem? (i := 4) (by decide +kernel)) rfl
theorem mlX12_279 : Cond.methodLink RX12 279 yX12_waits ∈ px_tbl := px_c7 (List.mem_of_getElem? (i := 8) (by decide +kernel)) rfl
theorem mlX12_325 : Cond.methodLink RX12 325 yX12_gladPeople ∈ px_tbl := px_c7 (List.mem_of_getElem? (i := 12) (by decide +kernel)) rfl
theorem mlX12_328 : Cond.methodLink RX12 328 yX12_joysBy ∈ px_tbl := px_c7 (List.mem_of_getElem? (i := 16) (by decide +kernel)) rfl
theorem mlX12_289 : Cond.methodLink RX12 289 yX12_isHad ∈ px_tbl := px_c7 (List.mem_of_getElem? (i := 20) (by decide +kernel)) rfl
theorem mlX12_331 : Cond.methodLink RX12 331 yX12_worthsOf ∈ px_tbl := px_c7 (List.mem_of_getElem? (i := 24) (by decide +kernel)) rfl
theorem mlL_64 : Cond.methodLink RL 64 yX12_when ∈ px_tbl := px_c7 (List.mem_of_getElem? (i := 28) (by decide +kernel)) rfl
theorem mlL_68 : Cond.methodLink RL 68 yX12_move ∈ px_tbl := px_c7 (List.mem_of_getElem? (i := 32) (by decide +kernel)) rfl
theorem mlX12_334 : Cond.methodLink RX12 334 yX12_hadBehind ∈ px_tbl := px_c7 (List.mem_of_getElem? (i := 36) (by decide +kernel)) rfl
theorem mlL_72 : Cond.methodLink RL 72 yX12_over ∈ px_tbl := px_c7 (List.mem_of_getElem? (i := 40) (by decide +kernel)) rfl
theorem mlL_76 : Cond.methodLink RL 76 yX12_date ∈ px_tbl := px_c7 (List.mem_of_getElem? (i := 44) (by decide +kernel)) rfl
theorem mlL_80 : Cond.methodLink RL 80 yX12_judge ∈ px_tbl := px_c7 (List.mem_of_getElem? (i := 48) (by decide +kernel)) rfl
theorem mlX12_340 : Cond.methodLink RX12 340 yX12_rowFault ∈ px_tbl := px_c7 (List.mem_of_getElem? (i := 52) (by decide +kernel)) rfl
theorem mlX12_343 : Cond.methodLink RX12 343 yX12_wrongDay ∈ px_tbl := px_c7 (List.mem_of_getElem? (i := 56) (by decide +kernel)) rfl
theorem mlX12_337 : Cond.methodLink RX12 337 yX12_at ∈ px_tbl := px_c7 (List.mem_of_getElem? (i := 60) (by decide +kernel)) rfl
theorem mlL_84 : Cond.methodLink RL 84 yX12_fits ∈ px_tbl := px_c7 (List.mem_of_getElem? (i := 64) (by decide +kernel)) rfl
theorem mlX12_346 : Cond.methodLink RX12 346 yX12_dues ∈ px_tbl := px_c7 (List.mem_of_getElem? (i := 68) (by decide +kernel)) rfl
theorem mlX12_350 : Cond.methodLink RX12 350 yX12_lates ∈ px_tbl := px_c7 (List.mem_of_getElem? (i := 72) (by decide +kernel)) rfl
theorem mlL_88 : Cond.methodLink RL 88 yX12_who ∈ px_tbl := px_c7 (List.mem_of_getElem? (i := 76) (by decide +kernel)) rfl
theorem mlL_92 : Cond.methodLink RL 92 yX12_share ∈ px_tbl := px_c7 (List.mem_of_getElem? (i := 80) (by decide +kernel)) rfl
theorem mlL_96 : Cond.methodLink RL 96 yX12_near ∈ px_tbl := px_c7 (List.mem_of_getElem? (i := 84) (by decide +kernel)) rfl
theorem mlL_100 : Cond.methodLink RL 100 yX12_mates ∈ px_tbl := px_c7 (List.mem_of_getElem? (i := 88) (by decide +kernel)) rfl
theorem mlX12_353 : Cond.methodLink RX12 353 yX12_mostMates ∈ px_tbl := px_c7 (List.mem_of_getElem? (i := 92) (by decide +kernel)) rfl
theorem mlL_104 : Cond.methodLink RL 104 yX12_byTurns ∈ px_tbl := px_c7 (List.mem_of_getElem? (i := 96) (by decide +kernel)) rfl
theorem mlX12_359 : Cond.methodLink RX12 359 yX12_bestOf ∈ px_tbl := px_c7 (List.mem_of_getElem? (i := 101) (by decide +kernel)) rfl
theorem mlX12_356 : Cond.methodLink RX12 356 yX12_endsBy ∈ px_tbl := px_c7 (List.mem_of_getElem? (i := 105) (by decide +kernel)) rfl
theorem mlL_108 : Cond.methodLink RL 108 yX12_drawn ∈ px_tbl := px_c7 (List.mem_of_getElem? (i := 109) (by decide +kernel)) rfl
theorem mlL_112 : Cond.methodLink RL 112 yX12_moves ∈ px_tbl := px_c7 (List.mem_of_getElem? (i := 114) (by decide +kernel)) rfl
theorem mlL_116 : Cond.methodLink RL 116 yX12_day ∈ px_tbl := px_c7 (List.mem_of_getElem? (i := 118) (by decide +kernel)) rfl
theorem mlL_120 : Cond.methodLink RL 120 yX12_inspect ∈ px_tbl := px_c7 (List.mem_of_getElem? (i := 122) (by decide +kernel)) rfl
theorem mlX12_365 : Cond.methodLink RX12 365 yX12_livedIn ∈ px_tbl := px_c7 (List.mem_of_getElem? (i := 126) (by decide +kernel)) rfl
theorem mlL_124 : Cond.methodLink RL 124 yX12_led ∈ px_tbl := px_c7 (List.mem_of_getElem? (i := 130) (by decide +kernel)) rfl
theorem mlL_128 : Cond.methodLink RL 128 yX12_image ∈ px_tbl := px_c7 (List.mem_of_getElem? (i := 134) (by decide +kernel)) rfl
theorem mlL_132 : Cond.methodLink RL 132 yX12_back ∈ px_tbl := px_c7 (List.mem_of_getElem? (i := 138) (by decide +kernel)) rfl
theorem mlL_152 : Cond.methodLink RL 152 yX12_trace ∈ px_tbl := px_c7 (List.mem_of_getElem? (i := 142) (by decide +kernel)) rfl
theorem mlL_144 : Cond.methodLink RL 144 yX12_body ∈ px_tbl := px_c7 (List.mem_of_getElem? (i := 146) (by decide +kernel)) rfl
theorem mlL_148 : Cond.methodLink RL 148 yX12_act ∈ px_tbl := px_c7 (List.mem_of_getElem? (i := 150) (by decide +kernel)) rfl
theorem mlX12_425 : Cond.methodLink RX12 425 yX12_isBody ∈ px_tbl := px_c7 (List.mem_of_getElem? (i := 154) (by decide +kernel)) rfl
theorem mlX12_401 : Cond.methodLink RX12 401 yX12_opening ∈ px_tbl := px_c7 (List.mem_of_getElem? (i := 158) (by decide +kernel)) rfl
theorem mlX12_395 : Cond.methodLink RX12 395 yX12_isUnder ∈ px_tbl := px_c7 (List.mem_of_getElem? (i := 162) (by decide +kernel)) rfl
theorem mlX12_389 : Cond.methodLink RX12 389 yX12_ran ∈ px_tbl := px_c7 (List.mem_of_getElem? (i := 165) (by decide +kernel)) rfl
theorem mlX12_392 : Cond.methodLink RX12 392 yX12_plainOpens ∈ px_tbl := px_c7 (List.mem_of_getElem? (i := 169) (by decide +kernel)) rfl
theorem mlX12_398 : Cond.methodLink RX12 398 yX12_springOpens ∈ px_tbl := px_c7 (List.mem_of_getElem? (i := 173) (by decide +kernel)) rfl
theorem mlX12_419 : Cond.methodLink RX12 419 yX12_smelling ∈ px_tbl := px_c7 (List.mem_of_getElem? (i := 177) (by decide +kernel)) rfl
theorem mlX12_407 : Cond.methodLink RX12 407 yX12_weddingSmells ∈ px_tbl := px_c7 (List.mem_of_getElem? (i := 181) (by decide +kernel)) rfl
theorem mlX12_404 : Cond.methodLink RX12 404 yX12_plainSmells ∈ px_tbl := px_c7 (List.mem_of_getElem? (i := 185) (by decide +kernel)) rfl
theorem mlX12_410 : Cond.methodLink RX12 410 yX12_voting ∈ px_tbl := px_c7 (List.mem_of_getElem? (i := 189) (by decide +kernel)) rfl
theorem mlX12_416 : Cond.methodLink RX12 416 yX12_widowVotes ∈ px_tbl := px_c7 (List.mem_of_getElem? (i := 193) (by decide +kernel)) rfl
theorem mlX12_413 : Cond.methodLink RX12 413 yX12_plainVotes ∈ px_tbl := px_c7 (List.mem_of_getElem? (i := 197) (by decide +kernel)) rfl
theorem mlX12_428 : Cond.methodLink RX12 428 yX12_telling ∈ px_tbl := px_c7 (List.mem_of_getElem? (i := 201) (by decide +kernel)) rfl
theorem mlX12_422 : Cond.methodLink RX12 422 yX12_plainTells ∈ px_tbl := px_c7 (List.mem_of_getElem? (i := 205) (by decide +kernel)) rfl
theorem mlL_185 : Cond.methodLink RL 185 yX12_count ∈ px_tbl := px_c7 (List.mem_of_getElem? (i := 209) (by decide +kernel)) rfl
theorem mlL_156 : Cond.methodLink RL 156 yX12_keep ∈ px_tbl := px_c7 (List.mem_of_getElem? (i := 213) (by decide +kernel)) rfl
theorem mlL_160 : Cond.methodLink RL 160 yX12_row ∈ px_tbl := px_c7 (List.mem_of_getElem? (i := 217) (by decide +kernel)) rfl
theorem mlL_167 : Cond.methodLink RL 167 yX12_put ∈ px_tbl := px_c7 (List.mem_of_getElem? (i := 221) (by decide +kernel)) rfl
theorem mlX12_431 : Cond.methodLink RX12 431 yX12_whyNoPlace ∈ px_tbl := px_c7 (List.mem_of_getElem? (i := 225) (by decide +kernel)) rfl
theorem mlL_172 : Cond.methodLink RL 172 yX12_element ∈ px_tbl := px_c7 (List.mem_of_getElem? (i := 229) (by decide +kernel)) rfl
theorem mlL_177 : Cond.methodLink RL 177 yX12_shift ∈ px_tbl := px_c7 (List.mem_of_getElem? (i := 234) (by decide +kernel)) rfl
theorem mlL_181 : Cond.methodLink RL 181 yX12_taken ∈ px_tbl := px_c7 (List.mem_of_getElem? (i := 238) (by decide +kernel)) rfl
theorem csJ6_265 : Cond.constant RJ6 265 (1431655765) ∈ px_tbl := px_c3 (List.mem_of_getElem? (i := 179) (by decide +kernel)) rfl
theorem csJ6_266 : Cond.constant RJ6 266 (858993459) ∈ px_tbl := px_c3 (List.mem_of_getElem? (i := 180) (by decide +kernel)) rfl
theorem csJ6_267 : Cond.constant RJ6 267 (252645135) ∈ px_tbl := px_c3 (List.mem_of_getElem? (i := 181) (by decide +kernel)) rfl
theorem csX9_95 : Cond.constantLong RX9 95 (9) ∈ px_tbl := px_c4 (List.mem_of_getElem? (i := 71) (by decide +kernel)) rfl
theorem csX11_264 : Cond.constant RX11 264 (-2000000000) ∈ px_tbl := px_c4 (List.mem_of_getElem? (i := 126) (by decide +kernel)) rfl
theorem csX9_103 : Cond.constant RX9 103 (1103515245) ∈ px_tbl := px_c4 (List.mem_of_getElem? (i := 147) (by decide +kernel)) rfl
theorem csX11_346 : Cond.constantLong RX11 346 (-9223372036854775808) ∈ px_tbl := px_c5 (List.mem_of_getElem? (i := 49) (by decide +kernel)) rfl
theorem csX12_152 : Cond.constantLong RX12 152 (2) ∈ px_tbl := px_c6 (List.mem_of_getElem? (i := 54) (by decide +kernel)) rfl
theorem csX12_363 : Cond.constant RX12 363 (-2000000000) ∈ px_tbl := px_c7 (List.mem_of_getElem? (i := 100) (by decide +kernel)) rfl
theorem csX12_364 : Cond.constant RX12 364 (1103515245) ∈ px_tbl := px_c7 (List.mem_of_getElem? (i := 113) (by decide +kernel)) rfl
theorem csX12_436 : Cond.constantLong RX12 436 (-9223372036854775808) ∈ px_tbl := px_c7 (List.mem_of_getElem? (i := 233) (by decide +kernel)) rfl
theorem csL_161 : Cond.constantLong RL 161 (4294967295) ∈ px_tbl := px_c8 (List.mem_of_getElem? (i := 2) (by decide +kernel)) rfl
theorem js_max : Cond.static Lib.Math.max.name ∈ px_tbl := px_c3 (List.mem_of_getElem? (i := 148) (by decide +kernel)) rfl
theorem jc_max : Cond.code Lib.Math.max.name Lib.Math.max.code 2 (some .int) ∈ px_tbl := px_c3 (List.mem_of_getElem? (i := 149) (by decide +kernel)) rfl
theorem js_min : Cond.static Lib.Math.min.name ∈ px_tbl := px_c3 (List.mem_of_getElem? (i := 154) (by decide +kernel)) rfl
theorem jc_min : Cond.code Lib.Math.min.name Lib.Math.min.code 2 (some .int) ∈ px_tbl := px_c3 (List.mem_of_getElem? (i := 155) (by decide +kernel)) rfl
theorem js_abs : Cond.static Lib.Math.abs.name ∈ px_tbl := px_c3 (List.mem_of_getElem? (i := 121) (by decide +kernel)) rfl
theorem jc_abs : Cond.code Lib.Math.abs.name Lib.Math.abs.code 1 (some .int) ∈ px_tbl := px_c3 (List.mem_of_getElem? (i := 122) (by decide +kernel)) rfl
theorem ji_Math : Cond.initialized "java/lang/Math" ∈ px_tbl := px_c1 (List.mem_of_getElem? (i := 15) (by decide +kernel)) rfl
theorem jn_copy : Cond.native arraycopyName ∈ px_tbl := px_c3 (List.mem_of_getElem? (i := 12) (by decide +kernel)) rfl
theorem js_copy : Cond.static arraycopyName ∈ px_tbl := px_c3 (List.mem_of_getElem? (i := 11) (by decide +kernel)) rfl
theorem ji_System : Cond.initialized "java/lang/System" ∈ px_tbl := px_c1 (List.mem_of_getElem? (i := 14) (by decide +kernel)) rfl
theorem jm_obj : Cond.instanceMethod objectInit ∈ px_tbl := px_c1 (List.mem_of_getElem? (i := 23) (by decide +kernel)) rfl
theorem jc_obj : Cond.code objectInit ⟨#[0xb1]⟩ 1 none ∈ px_tbl := px_c1 (List.mem_of_getElem? (i := 24) (by decide +kernel)) rfl
theorem iiX11 : Cond.initialized RX11 ∈ px_tbl := px_c1 (List.mem_of_getElem? (i := 1) (by decide +kernel)) rfl
theorem iiX7 : Cond.initialized RX7 ∈ px_tbl := px_c1 (List.mem_of_getElem? (i := 2) (by decide +kernel)) rfl
theorem iiX2 : Cond.initialized RX2 ∈ px_tbl := px_c1 (List.mem_of_getElem? (i := 3) (by decide +kernel)) rfl
theorem iiX4 : Cond.initialized RX4 ∈ px_tbl := px_c1 (List.mem_of_getElem? (i := 4) (by decide +kernel)) rfl
theorem iiX3 : Cond.initialized RX3 ∈ px_tbl := px_c1 (List.mem_of_getElem? (i := 5) (by decide +kernel)) rfl
theorem iiX5 : Cond.initialized RX5 ∈ px_tbl := px_c1 (List.mem_of_getElem? (i := 6) (by decide +kernel)) rfl
theorem iiX1 : Cond.initialized RX1 ∈ px_tbl := px_c1 (List.mem_of_getElem? (i := 7) (by decide +kernel)) rfl
theorem iiX8 : Cond.initialized RX8 ∈ px_tbl := px_c1 (List.mem_of_getElem? (i := 8) (by decide +kernel)) rfl
theorem iiX6 : Cond.initialized RX6 ∈ px_tbl := px_c1 (List.mem_of_getElem? (i := 9) (by decide +kernel)) rfl
theorem iiX9 : Cond.initialized RX9 ∈ px_tbl := px_c1 (List.mem_of_getElem? (i := 10) (by decide +kernel)) rfl
theorem iiX10 : Cond.initialized RX10 ∈ px_tbl := px_c1 (List.mem_of_getElem? (i := 11) (by decide +kernel)) rfl
theorem iiX0 : Cond.initialized RX0 ∈ px_tbl := px_c1 (List.mem_of_getElem? (i := 12) (by decide +kernel)) rfl
theorem iiX12 : Cond.initialized RX12 ∈ px_tbl := px_c1 (List.mem_of_getElem? (i := 13) (by decide +kernel)) rfl
theorem clL_7 : Cond.classLink RL 7 RX11 ∈ px_tbl := px_c1 (List.mem_of_getElem? (i := 17) (by decide +kernel)) rfl
theorem iaX11 : Cond.instantiable RX11 15 ∈ px_tbl := px_c1 (List.mem_of_getElem? (i := 18) (by decide +kernel)) rfl
theorem clX11_7 : Cond.classLink RX11 7 RX7 ∈ px_tbl := px_c1 (List.mem_of_getElem? (i := 25) (by decide +kernel)) rfl
theorem iaX7 : Cond.instantiable RX7 10 ∈ px_tbl := px_c1 (List.mem_of_getElem? (i := 26) (by decide +kernel)) rfl
theorem ac_int : Cond.arrayClass .int ∈ px_tbl := px_c1 (List.mem_of_getElem? (i := 93) (by decide +kernel)) rfl
theorem clX11_10 : Cond.classLink RX11 10 RX2 ∈ px_tbl := px_c1 (List.mem_of_getElem? (i := 94) (by decide +kernel)) rfl
theorem iaX2 : Cond.instantiable RX2 7 ∈ px_tbl := px_c1 (List.mem_of_getElem? (i := 95) (by decide +kernel)) rfl
theorem clX11_15 : Cond.classLink RX11 15 RX4 ∈ px_tbl := px_c1 (List.mem_of_getElem? (i := 135) (by decide +kernel)) rfl
theorem iaX4 : Cond.instantiable RX4 2 ∈ px_tbl := px_c1 (List.mem_of_getElem? (i := 136) (by decide +kernel)) rfl
theorem clX11_20 : Cond.classLink RX11 20 RX3 ∈ px_tbl := px_c1 (List.mem_of_getElem? (i := 148) (by decide +kernel)) rfl
theorem iaX3 : Cond.instantiable RX3 5 ∈ px_tbl := px_c1 (List.mem_of_getElem? (i := 149) (by decide +kernel)) rfl
theorem clX11_23 : Cond.classLink RX11 23 RX5 ∈ px_tbl := px_c1 (List.mem_of_getElem? (i := 171) (by decide +kernel)) rfl
theorem iaX5 : Cond.instantiable RX5 3 ∈ px_tbl := px_c1 (List.mem_of_getElem? (i := 172) (by decide +kernel)) rfl
theorem ac_long : Cond.arrayClass .long ∈ px_tbl := px_c1 (List.mem_of_getElem? (i := 187) (by decide +kernel)) rfl
theorem clX11_43 : Cond.classLink RX11 43 RX1 ∈ px_tbl := px_c1 (List.mem_of_getElem? (i := 188) (by decide +kernel)) rfl
theorem iaX1 : Cond.instantiable RX1 7 ∈ px_tbl := px_c1 (List.mem_of_getElem? (i := 189) (by decide +kernel)) rfl
theorem clX11_52 : Cond.classLink RX11 52 RX8 ∈ px_tbl := px_c1 (List.mem_of_getElem? (i := 218) (by decide +kernel)) rfl
theorem iaX8 : Cond.instantiable RX8 5 ∈ px_tbl := px_c1 (List.mem_of_getElem? (i := 219) (by decide +kernel)) rfl
theorem clX8_7 : Cond.classLink RX8 7 RX3 ∈ px_tbl := px_c1 (List.mem_of_getElem? (i := 224) (by decide +kernel)) rfl
theorem clX11_63 : Cond.classLink RX11 63 RX6 ∈ px_tbl := px_c2 (List.mem_of_getElem? (i := 4) (by decide +kernel)) rfl
theorem iaX6 : Cond.instantiable RX6 4 ∈ px_tbl := px_c2 (List.mem_of_getElem? (i := 5) (by decide +kernel)) rfl
theorem clX11_72 : Cond.classLink RX11 72 RX9 ∈ px_tbl := px_c2 (List.mem_of_getElem? (i := 23) (by decide +kernel)) rfl
theorem iaX9 : Cond.instantiable RX9 6 ∈ px_tbl := px_c2 (List.mem_of_getElem? (i := 24) (by decide +kernel)) rfl
theorem clX9_23 : Cond.classLink RX9 23 RX2 ∈ px_tbl := px_c2 (List.mem_of_getElem? (i := 29) (by decide +kernel)) rfl
theorem clX11_81 : Cond.classLink RX11 81 RX10 ∈ px_tbl := px_c2 (List.mem_of_getElem? (i := 52) (by decide +kernel)) rfl
theorem iaX10 : Cond.instantiable RX10 6 ∈ px_tbl := px_c2 (List.mem_of_getElem? (i := 53) (by decide +kernel)) rfl
theorem ac_boolean : Cond.arrayClass .boolean ∈ px_tbl := px_c2 (List.mem_of_getElem? (i := 79) (by decide +kernel)) rfl
theorem clX11_88 : Cond.classLink RX11 88 RX0 ∈ px_tbl := px_c2 (List.mem_of_getElem? (i := 80) (by decide +kernel)) rfl
theorem iaX0 : Cond.instantiable RX0 5 ∈ px_tbl := px_c2 (List.mem_of_getElem? (i := 81) (by decide +kernel)) rfl
theorem clL_10 : Cond.classLink RL 10 RX12 ∈ px_tbl := px_c5 (List.mem_of_getElem? (i := 80) (by decide +kernel)) rfl
theorem iaX12 : Cond.instantiable RX12 59 ∈ px_tbl := px_c5 (List.mem_of_getElem? (i := 81) (by decide +kernel)) rfl
theorem ac_byte : Cond.arrayClass .byte ∈ px_tbl := px_c6 (List.mem_of_getElem? (i := 23) (by decide +kernel)) rfl
theorem ac_short : Cond.arrayClass .short ∈ px_tbl := px_c6 (List.mem_of_getElem? (i := 24) (by decide +kernel)) rfl
