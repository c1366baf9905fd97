theorem bg_mT {w : Cond} (i : Nat) (h : lw_tbl[i]? = some w) (hg : goodWord w = true) : w ∈ bg_T := List.mem_filter.mpr ⟨List.mem_of_getElem? h, hg⟩
set_option maxRecDepth 20000 in
theorem iC_RX6 : Cond.initialized RX6 ∈ bg_T := bg_mT 14 rfl rfl
set_option maxRecDepth 20000 in
theorem iC_RX0 : Cond.initialized RX0 ∈ bg_T := bg_mT 16 rfl rfl
set_option maxRecDepth 20000 in
theorem iC_RX1 : Cond.initialized RX1 ∈ bg_T := bg_mT 17 rfl rfl
set_option maxRecDepth 20000 in
theorem iC_RX2 : Cond.initialized RX2 ∈ bg_T := bg_mT 19 rfl rfl
set_option maxRecDepth 20000 in
theorem iC_RX3 : Cond.initialized RX3 ∈ bg_T := bg_mT 20 rfl rfl
set_option maxRecDepth 20000 in
theorem iC_RX4 : Cond.initialized RX4 ∈ bg_T := bg_mT 15 rfl rfl
set_option maxRecDepth 20000 in
theorem iC_RX5 : Cond.initialized RX5 ∈ bg_T := bg_mT 18 rfl rfl
set_option maxRecDepth 20000 in
theorem iC_RL : Cond.initialized RL ∈ bg_T := bg_mT 13 rfl rfl
def mX6_init : bg_P := (yX6_init, cX6_init, 2, (Option.none : Option FieldType))
set_option maxRecDepth 20000 in
theorem bX6_init : bg_mB mX6_init 0 := ⟨bg_mT 28 rfl rfl, iC_RX6, ⟨by decide +kernel, by decide +kernel, by decide +kernel⟩, by decide⟩
set_option maxRecDepth 20000 in
theorem nX6_init : Cond.instanceMethod yX6_init ∈ bg_T := bg_mT 27 rfl rfl
def mX4_init : bg_P := (yX4_init, cX4_init, 2, (Option.none : Option FieldType))
set_option maxRecDepth 20000 in
theorem bX4_init : bg_mB mX4_init 0 := ⟨bg_mT 36 rfl rfl, iC_RX4, ⟨by decide +kernel, by decide +kernel, by decide +kernel⟩, by decide⟩
set_option maxRecDepth 20000 in
theorem nX4_init : Cond.instanceMethod yX4_init ∈ bg_T := bg_mT 35 rfl rfl
def mX0_init : bg_P := (yX0_init, cX0_init, 1, (Option.none : Option FieldType))
set_option maxRecDepth 20000 in
theorem bX0_init : bg_mB mX0_init 0 := ⟨bg_mT 45 rfl rfl, iC_RX0, ⟨by decide +kernel, by decide +kernel, by decide +kernel⟩, by decide⟩
set_option maxRecDepth 20000 in
theorem nX0_init : Cond.instanceMethod yX0_init ∈ bg_T := bg_mT 44 rfl rfl
def mX1_init : bg_P := (yX1_init, cX1_init, 2, (Option.none : Option FieldType))
set_option maxRecDepth 20000 in
theorem bX1_init : bg_mB mX1_init 0 := ⟨bg_mT 78 rfl rfl, iC_RX1, ⟨by decide +kernel, by decide +kernel, by decide +kernel⟩, by decide⟩
set_option maxRecDepth 20000 in
theorem nX1_init : Cond.instanceMethod yX1_init ∈ bg_T := bg_mT 77 rfl rfl
def mX5_init : bg_P := (yX5_init, cX5_init, 1, (Option.none : Option FieldType))
set_option maxRecDepth 20000 in
theorem bX5_init : bg_mB mX5_init 0 := ⟨bg_mT 97 rfl rfl, iC_RX5, ⟨by decide +kernel, by decide +kernel, by decide +kernel⟩, by decide⟩
set_option maxRecDepth 20000 in
theorem nX5_init : Cond.instanceMethod yX5_init ∈ bg_T := bg_mT 96 rfl rfl
def mX2_init : bg_P := (yX2_init, cX2_init, 1, (Option.none : Option FieldType))
set_option maxRecDepth 20000 in
theorem bX2_init : bg_mB mX2_init 0 := ⟨bg_mT 123 rfl rfl, iC_RX2, ⟨by decide +kernel, by decide +kernel, by decide +kernel⟩, by decide⟩
set_option maxRecDepth 20000 in
theorem nX2_init : Cond.instanceMethod yX2_init ∈ bg_T := bg_mT 122 rfl rfl
def mX3_init : bg_P := (yX3_init, cX3_init, 1, (Option.none : Option FieldType))
set_option maxRecDepth 20000 in
theorem bX3_init : bg_mB mX3_init 0 := ⟨bg_mT 129 rfl rfl, iC_RX3, ⟨by decide +kernel, by decide +kernel, by decide +kernel⟩, by decide⟩
set_option maxRecDepth 20000 in
theorem nX3_init : Cond.instanceMethod yX3_init ∈ bg_T := bg_mT 128 rfl rfl
def mX6_count : bg_P := (yX6_count, cX6_count, 2, (Option.some Jvm.ClassFile.FieldType.int : Option FieldType))
set_option maxRecDepth 20000 in
theorem vX6_count : bg_mV mX6_count 6 1 := ⟨⟨bg_mT 205 rfl rfl, iC_RX6, ⟨by decide +kernel, by decide +kernel, by decide +kernel⟩, by decide⟩, bg_mT 203 rfl rfl, bg_mT 204 rfl rfl, rfl⟩
def mX4_numberOf : bg_P := (yX4_numberOf, cX4_numberOf, 2, (Option.some Jvm.ClassFile.FieldType.int : Option FieldType))
set_option maxRecDepth 20000 in
theorem vX4_numberOf : bg_mV mX4_numberOf 4 1 := ⟨⟨bg_mT 209 rfl rfl, iC_RX4, ⟨by decide +kernel, by decide +kernel, by decide +kernel⟩, by decide⟩, bg_mT 207 rfl rfl, bg_mT 208 rfl rfl, rfl⟩
def mX4_keyMarkCount : bg_P := (yX4_keyMarkCount, cX4_keyMarkCount, 1, (Option.some Jvm.ClassFile.FieldType.int : Option FieldType))
set_option maxRecDepth 20000 in
theorem vX4_keyMarkCount : bg_mV mX4_keyMarkCount 4 0 := ⟨⟨bg_mT 213 rfl rfl, iC_RX4, ⟨by decide +kernel, by decide +kernel, by decide +kernel⟩, by decide⟩, bg_mT 211 rfl rfl, bg_mT 212 rfl rfl, rfl⟩
def mX4_sumOfSizes : bg_P := (yX4_sumOfSizes, cX4_sumOfSizes, 3, (Option.some Jvm.ClassFile.FieldType.int : Option FieldType))
set_option maxRecDepth 20000 in
theorem vX4_sumOfSizes : bg_mV mX4_sumOfSizes 4 0 := ⟨⟨bg_mT 223 rfl rfl, iC_RX4, ⟨by decide +kernel, by decide +kernel, by decide +kernel⟩, by decide⟩, bg_mT 221 rfl rfl, bg_mT 222 rfl rfl, rfl⟩
def mX0_size : bg_P := (yX0_size, cX0_size, 1, (Option.some Jvm.ClassFile.FieldType.int : Option FieldType))
set_option maxRecDepth 20000 in
theorem vX0_size : bg_mV mX0_size 0 0 := ⟨⟨bg_mT 227 rfl rfl, iC_RX0, ⟨by decide +kernel, by decide +kernel, by decide +kernel⟩, by decide⟩, bg_mT 225 rfl rfl, bg_mT 226 rfl rfl, rfl⟩
def mX5_size : bg_P := (yX5_size, cX5_size, 1, (Option.some Jvm.ClassFile.FieldType.int : Option FieldType))
set_option maxRecDepth 20000 in
theorem vX5_size : bg_mV mX5_size 5 0 := ⟨⟨bg_mT 231 rfl rfl, iC_RX5, ⟨by decide +kernel, by decide +kernel, by decide +kernel⟩, by decide⟩, bg_mT 229 rfl rfl, bg_mT 230 rfl rfl, rfl⟩
def mX1_size : bg_P := (yX1_size, cX1_size, 1, (Option.some Jvm.ClassFile.FieldType.int : Option FieldType))
set_option maxRecDepth 20000 in
theorem vX1_size : bg_mV mX1_size 1 0 := ⟨⟨bg_mT 235 rfl rfl, iC_RX1, ⟨by decide +kernel, by decide +kernel, by decide +kernel⟩, by decide⟩, bg_mT 233 rfl rfl, bg_mT 234 rfl rfl, rfl⟩
def mX6_hole : bg_P := (yX6_hole, cX6_hole, 4, (Option.some Jvm.ClassFile.FieldType.int : Option FieldType))
set_option maxRecDepth 20000 in
theorem vX6_hole : bg_mV mX6_hole 6 2 := ⟨⟨bg_mT 240 rfl rfl, iC_RX6, ⟨by decide +kernel, by decide +kernel, by decide +kernel⟩, by decide⟩, bg_mT 238 rfl rfl, bg_mT 239 rfl rfl, rfl⟩
def mX6_isHole : bg_P := (yX6_isHole, cX6_isHole, 1, (Option.some Jvm.ClassFile.FieldType.boolean : Option FieldType))
set_option maxRecDepth 20000 in
theorem sX6_isHole : bg_mS mX6_isHole 1 := ⟨⟨bg_mT 243 rfl rfl, iC_RX6, ⟨by decide +kernel, by decide +kernel, by decide +kernel⟩, by decide⟩, bg_mT 242 rfl rfl⟩
def mX4_columnOf : bg_P := (yX4_columnOf, cX4_columnOf, 2, (Option.some (Jvm.ClassFile.FieldType.object "BoreholeColumns$Column") : Option FieldType))
set_option maxRecDepth 20000 in
theorem vX4_columnOf : bg_mV mX4_columnOf 4 1 := ⟨⟨bg_mT 247 rfl rfl, iC_RX4, ⟨by decide +kernel, by decide +kernel, by decide +kernel⟩, by decide⟩, bg_mT 245 rfl rfl, bg_mT 246 rfl rfl, rfl⟩
def mX0_collarElevation : bg_P := (yX0_collarElevation, cX0_collarElevation, 1, (Option.some Jvm.ClassFile.FieldType.int : Option FieldType))
set_option maxRecDepth 20000 in
theorem vX0_collarElevation : bg_mV mX0_collarElevation 0 0 := ⟨⟨bg_mT 252 rfl rfl, iC_RX0, ⟨by decide +kernel, by decide +kernel, by decide +kernel⟩, by decide⟩, bg_mT 250 rfl rfl, bg_mT 251 rfl rfl, rfl⟩
def mX0_totalThickness : bg_P := (yX0_totalThickness, cX0_totalThickness, 1, (Option.some Jvm.ClassFile.FieldType.int : Option FieldType))
set_option maxRecDepth 20000 in
theorem vX0_totalThickness : bg_mV mX0_totalThickness 0 0 := ⟨⟨bg_mT 257 rfl rfl, iC_RX0, ⟨by decide +kernel, by decide +kernel, by decide +kernel⟩, by decide⟩, bg_mT 255 rfl rfl, bg_mT 256 rfl rfl, rfl⟩
def mX0_depthOf : bg_P := (yX0_depthOf, cX0_depthOf, 4, (Option.some Jvm.ClassFile.FieldType.int : Option FieldType))
set_option maxRecDepth 20000 in
theorem vX0_depthOf : bg_mV mX0_depthOf 0 1 := ⟨⟨bg_mT 261 rfl rfl, iC_RX0, ⟨by decide +kernel, by decide +kernel, by decide +kernel⟩, by decide⟩, bg_mT 259 rfl rfl, bg_mT 260 rfl rfl, rfl⟩
def mX0_has : bg_P := (yX0_has, cX0_has, 2, (Option.some Jvm.ClassFile.FieldType.boolean : Option FieldType))
set_option maxRecDepth 20000 in
theorem vX0_has : bg_mV mX0_has 0 1 := ⟨⟨bg_mT 265 rfl rfl, iC_RX0, ⟨by decide +kernel, by decide +kernel, by decide +kernel⟩, by decide⟩, bg_mT 263 rfl rfl, bg_mT 264 rfl rfl, rfl⟩
def mX6_account : bg_P := (yX6_account, cX6_account, 2, (Option.some Jvm.ClassFile.FieldType.int : Option FieldType))
set_option maxRecDepth 20000 in
theorem vX6_account : bg_mV mX6_account 6 1 := ⟨⟨bg_mT 269 rfl rfl, iC_RX6, ⟨by decide +kernel, by decide +kernel, by decide +kernel⟩, by decide⟩, bg_mT 267 rfl rfl, bg_mT 268 rfl rfl, rfl⟩
def mX4_sumOfLengths : bg_P := (yX4_sumOfLengths, cX4_sumOfLengths, 3, (Option.some Jvm.ClassFile.FieldType.int : Option FieldType))
set_option maxRecDepth 20000 in
theorem vX4_sumOfLengths : bg_mV mX4_sumOfLengths 4 0 := ⟨⟨bg_mT 273 rfl rfl, iC_RX4, ⟨by decide +kernel, by decide +kernel, by decide +kernel⟩, by decide⟩, bg_mT 271 rfl rfl, bg_mT 272 rfl rfl, rfl⟩
def mX4_bookedIn : bg_P := (yX4_bookedIn, cX4_bookedIn, 2, (Option.some Jvm.ClassFile.FieldType.int : Option FieldType))
set_option maxRecDepth 20000 in
theorem vX4_bookedIn : bg_mV mX4_bookedIn 4 1 := ⟨⟨bg_mT 278 rfl rfl, iC_RX4, ⟨by decide +kernel, by decide +kernel, by decide +kernel⟩, by decide⟩, bg_mT 276 rfl rfl, bg_mT 277 rfl rfl, rfl⟩
def mL_cell : bg_P := (yL_cell, cL_cell, 2, (Option.some Jvm.ClassFile.FieldType.int : Option FieldType))
set_option maxRecDepth 20000 in
theorem sL_cell : bg_mS mL_cell 2 := ⟨⟨bg_mT 281 rfl rfl, iC_RL, ⟨by decide +kernel, by decide +kernel, by decide +kernel⟩, by decide⟩, bg_mT 280 rfl rfl⟩
def mL_low : bg_P := (yL_low, cL_low, 2, (Option.some Jvm.ClassFile.FieldType.int : Option FieldType))
set_option maxRecDepth 20000 in
theorem sL_low : bg_mS mL_low 2 := ⟨⟨bg_mT 285 rfl rfl, iC_RL, ⟨by decide +kernel, by decide +kernel, by decide +kernel⟩, by decide⟩, bg_mT 284 rfl rfl⟩
def mL_acts : bg_P := (yL_acts, cL_acts, 24, (Option.some Jvm.ClassFile.FieldType.boolean : Option FieldType))
set_option maxRecDepth 20000 in
theorem sL_acts : bg_mS mL_acts 4 := ⟨⟨bg_mT 289 rfl rfl, iC_RL, ⟨by decide +kernel, by decide +kernel, by decide +kernel⟩, by decide⟩, bg_mT 288 rfl rfl⟩
def mX6_setNumber : bg_P := (yX6_setNumber, cX6_setNumber, 4, (Option.some Jvm.ClassFile.FieldType.int : Option FieldType))
set_option maxRecDepth 20000 in
theorem vX6_setNumber : bg_mV mX6_setNumber 6 2 := ⟨⟨bg_mT 294 rfl rfl, iC_RX6, ⟨by decide +kernel, by decide +kernel, by decide +kernel⟩, by decide⟩, bg_mT 292 rfl rfl, bg_mT 293 rfl rfl, rfl⟩
def mX1_save : bg_P := (yX1_save, cX1_save, 2, (Option.none : Option FieldType))
set_option maxRecDepth 20000 in
theorem vX1_save : bg_mV mX1_save 1 1 := ⟨⟨bg_mT 302 rfl rfl, iC_RX1, ⟨by decide +kernel, by decide +kernel, by decide +kernel⟩, by decide⟩, bg_mT 300 rfl rfl, bg_mT 301 rfl rfl, rfl⟩
def mX4_copyFrom : bg_P := (yX4_copyFrom, cX4_copyFrom, 3, (Option.none : Option FieldType))
set_option maxRecDepth 20000 in
theorem vX4_copyFrom : bg_mV mX4_copyFrom 4 1 := ⟨⟨bg_mT 306 rfl rfl, iC_RX4, ⟨by decide +kernel, by decide +kernel, by decide +kernel⟩, by decide⟩, bg_mT 304 rfl rfl, bg_mT 305 rfl rfl, rfl⟩
def mX0_copyFrom : bg_P := (yX0_copyFrom, cX0_copyFrom, 2, (Option.none : Option FieldType))
set_option maxRecDepth 20000 in
theorem vX0_copyFrom : bg_mV mX0_copyFrom 0 1 := ⟨⟨bg_mT 313 rfl rfl, iC_RX0, ⟨by decide +kernel, by decide +kernel, by decide +kernel⟩, by decide⟩, bg_mT 311 rfl rfl, bg_mT 312 rfl rfl, rfl⟩
def mX0_takeBedsOf : bg_P := (yX0_takeBedsOf, cX0_takeBedsOf, 2, (Option.none : Option FieldType))
set_option maxRecDepth 20000 in
theorem vX0_takeBedsOf : bg_mV mX0_takeBedsOf 0 1 := ⟨⟨bg_mT 317 rfl rfl, iC_RX0, ⟨by decide +kernel, by decide +kernel, by decide +kernel⟩, by decide⟩, bg_mT 315 rfl rfl, bg_mT 316 rfl rfl, rfl⟩
def mX4_putNumber : bg_P := (yX4_putNumber, cX4_putNumber, 3, (Option.none : Option FieldType))
set_option maxRecDepth 20000 in
theorem vX4_putNumber : bg_mV mX4_putNumber 4 2 := ⟨⟨bg_mT 325 rfl rfl, iC_RX4, ⟨by decide +kernel, by decide +kernel, by decide +kernel⟩, by decide⟩, bg_mT 323 rfl rfl, bg_mT 324 rfl rfl, rfl⟩
def mX6_setKey : bg_P := (yX6_setKey, cX6_setKey, 4, (Option.some Jvm.ClassFile.FieldType.int : Option FieldType))
set_option maxRecDepth 20000 in
theorem vX6_setKey : bg_mV mX6_setKey 6 2 := ⟨⟨bg_mT 329 rfl rfl, iC_RX6, ⟨by decide +kernel, by decide +kernel, by decide +kernel⟩, by decide⟩, bg_mT 327 rfl rfl, bg_mT 328 rfl rfl, rfl⟩
def mX6_isMark : bg_P := (yX6_isMark, cX6_isMark, 1, (Option.some Jvm.ClassFile.FieldType.boolean : Option FieldType))
set_option maxRecDepth 20000 in
theorem sX6_isMark : bg_mS mX6_isMark 1 := ⟨⟨bg_mT 332 rfl rfl, iC_RX6, ⟨by decide +kernel, by decide +kernel, by decide +kernel⟩, by decide⟩, bg_mT 331 rfl rfl⟩
def mX4_isKey : bg_P := (yX4_isKey, cX4_isKey, 2, (Option.some Jvm.ClassFile.FieldType.boolean : Option FieldType))
set_option maxRecDepth 20000 in
theorem vX4_isKey : bg_mV mX4_isKey 4 1 := ⟨⟨bg_mT 336 rfl rfl, iC_RX4, ⟨by decide +kernel, by decide +kernel, by decide +kernel⟩, by decide⟩, bg_mT 334 rfl rfl, bg_mT 335 rfl rfl, rfl⟩
def mX4_putKey : bg_P := (yX4_putKey, cX4_putKey, 3, (Option.none : Option FieldType))
set_option maxRecDepth 20000 in
theorem vX4_putKey : bg_mV mX4_putKey 4 2 := ⟨⟨bg_mT 341 rfl rfl, iC_RX4, ⟨by decide +kernel, by decide +kernel, by decide +kernel⟩, by decide⟩, bg_mT 339 rfl rfl, bg_mT 340 rfl rfl, rfl⟩
def mX6_setCollar : bg_P := (yX6_setCollar, cX6_setCollar, 5, (Option.some Jvm.ClassFile.FieldType.int : Option FieldType))
set_option maxRecDepth 20000 in
theorem vX6_setCollar : bg_mV mX6_setCollar 6 2 := ⟨⟨bg_mT 345 rfl rfl, iC_RX6, ⟨by decide +kernel, by decide +kernel, by decide +kernel⟩, by decide⟩, bg_mT 343 rfl rfl, bg_mT 344 rfl rfl, rfl⟩
def mX0_putCollar : bg_P := (yX0_putCollar, cX0_putCollar, 2, (Option.none : Option FieldType))
set_option maxRecDepth 20000 in
theorem vX0_putCollar : bg_mV mX0_putCollar 0 1 := ⟨⟨bg_mT 349 rfl rfl, iC_RX0, ⟨by decide +kernel, by decide +kernel, by decide +kernel⟩, by decide⟩, bg_mT 347 rfl rfl, bg_mT 348 rfl rfl, rfl⟩
def mX6_removeBed : bg_P := (yX6_removeBed, cX6_removeBed, 5, (Option.some Jvm.ClassFile.FieldType.int : Option FieldType))
set_option maxRecDepth 20000 in
theorem vX6_removeBed : bg_mV mX6_removeBed 6 2 := ⟨⟨bg_mT 353 rfl rfl, iC_RX6, ⟨by decide +kernel, by decide +kernel, by decide +kernel⟩, by decide⟩, bg_mT 351 rfl rfl, bg_mT 352 rfl rfl, rfl⟩
def mX0_thicknessOf : bg_P := (yX0_thicknessOf, cX0_thicknessOf, 2, (Option.some Jvm.ClassFile.FieldType.int : Option FieldType))
set_option maxRecDepth 20000 in
theorem vX0_thicknessOf : bg_mV mX0_thicknessOf 0 1 := ⟨⟨bg_mT 358 rfl rfl, iC_RX0, ⟨by decide +kernel, by decide +kernel, by decide +kernel⟩, by decide⟩, bg_mT 356 rfl rfl, bg_mT 357 rfl rfl, rfl⟩
def mX0_takeOut : bg_P := (yX0_takeOut, cX0_takeOut, 3, (Option.none : Option FieldType))
set_option maxRecDepth 20000 in
theorem vX0_takeOut : bg_mV mX0_takeOut 0 1 := ⟨⟨bg_mT 362 rfl rfl, iC_RX0, ⟨by decide +kernel, by decide +kernel, by decide +kernel⟩, by decide⟩, bg_mT 360 rfl rfl, bg_mT 361 rfl rfl, rfl⟩
def mX4_book : bg_P := (yX4_book, cX4_book, 3, (Option.none : Option FieldType))
set_option maxRecDepth 20000 in
theorem vX4_book : bg_mV mX4_book 4 2 := ⟨⟨bg_mT 366 rfl rfl, iC_RX4, ⟨by decide +kernel, by decide +kernel, by decide +kernel⟩, by decide⟩, bg_mT 364 rfl rfl, bg_mT 365 rfl rfl, rfl⟩
def mX6_setThickness : bg_P := (yX6_setThickness, cX6_setThickness, 6, (Option.some Jvm.ClassFile.FieldType.int : Option FieldType))
set_option maxRecDepth 20000 in
theorem vX6_setThickness : bg_mV mX6_setThickness 6 3 := ⟨⟨bg_mT 371 rfl rfl, iC_RX6, ⟨by decide +kernel, by decide +kernel, by decide +kernel⟩, by decide⟩, bg_mT 369 rfl rfl, bg_mT 370 rfl rfl, rfl⟩
def mX6_isThickness : bg_P := (yX6_isThickness, cX6_isThickness, 1, (Option.some Jvm.ClassFile.FieldType.boolean : Option FieldType))
set_option maxRecDepth 20000 in
theorem sX6_isThickness : bg_mS mX6_isThickness 1 := ⟨⟨bg_mT 374 rfl rfl, iC_RX6, ⟨by decide +kernel, by decide +kernel, by decide +kernel⟩, by decide⟩, bg_mT 373 rfl rfl⟩
def mX0_putThickness : bg_P := (yX0_putThickness, cX0_putThickness, 3, (Option.none : Option FieldType))
set_option maxRecDepth 20000 in
theorem vX0_putThickness : bg_mV mX0_putThickness 0 2 := ⟨⟨bg_mT 378 rfl rfl, iC_RX0, ⟨by decide +kernel, by decide +kernel, by decide +kernel⟩, by decide⟩, bg_mT 376 rfl rfl, bg_mT 377 rfl rfl, rfl⟩
def mL_length : bg_P := (yL_length, cL_length, 5, (Option.some Jvm.ClassFile.FieldType.int : Option FieldType))
set_option maxRecDepth 20000 in
theorem sL_length : bg_mS mL_length 3 := ⟨⟨bg_mT 384 rfl rfl, iC_RL, ⟨by decide +kernel, by decide +kernel, by decide +kernel⟩, by decide⟩, bg_mT 383 rfl rfl⟩
def mX6_cut : bg_P := (yX6_cut, cX6_cut, 9, (Option.some Jvm.ClassFile.FieldType.int : Option FieldType))
set_option maxRecDepth 20000 in
theorem vX6_cut : bg_mV mX6_cut 6 3 := ⟨⟨bg_mT 388 rfl rfl, iC_RX6, ⟨by decide +kernel, by decide +kernel, by decide +kernel⟩, by decide⟩, bg_mT 386 rfl rfl, bg_mT 387 rfl rfl, rfl⟩
def mX0_clear : bg_P := (yX0_clear, cX0_clear, 1, (Option.none : Option FieldType))
set_option maxRecDepth 20000 in
theorem vX0_clear : bg_mV mX0_clear 0 0 := ⟨⟨bg_mT 393 rfl rfl, iC_RX0, ⟨by decide +kernel, by decide +kernel, by decide +kernel⟩, by decide⟩, bg_mT 391 rfl rfl, bg_mT 392 rfl rfl, rfl⟩
def mX0_appendPart : bg_P := (yX0_appendPart, cX0_appendPart, 8, (Option.some Jvm.ClassFile.FieldType.boolean : Option FieldType))
set_option maxRecDepth 20000 in
theorem vX0_appendPart : bg_mV mX0_appendPart 0 3 := ⟨⟨bg_mT 397 rfl rfl, iC_RX0, ⟨by decide +kernel, by decide +kernel, by decide +kernel⟩, by decide⟩, bg_mT 395 rfl rfl, bg_mT 396 rfl rfl, rfl⟩
def mX0_markOf : bg_P := (yX0_markOf, cX0_markOf, 2, (Option.some Jvm.ClassFile.FieldType.int : Option FieldType))
set_option maxRecDepth 20000 in
theorem vX0_markOf : bg_mV mX0_markOf 0 1 := ⟨⟨bg_mT 404 rfl rfl, iC_RX0, ⟨by decide +kernel, by decide +kernel, by decide +kernel⟩, by decide⟩, bg_mT 402 rfl rfl, bg_mT 403 rfl rfl, rfl⟩
def mX0_insert : bg_P := (yX0_insert, cX0_insert, 5, (Option.some Jvm.ClassFile.FieldType.boolean : Option FieldType))
set_option maxRecDepth 20000 in
theorem vX0_insert : bg_mV mX0_insert 0 3 := ⟨⟨bg_mT 409 rfl rfl, iC_RX0, ⟨by decide +kernel, by decide +kernel, by decide +kernel⟩, by decide⟩, bg_mT 407 rfl rfl, bg_mT 408 rfl rfl, rfl⟩
def mL_cuts : bg_P := (yL_cuts, cL_cuts, 15, (Option.some Jvm.ClassFile.FieldType.int : Option FieldType))
set_option maxRecDepth 20000 in
theorem sL_cuts : bg_mS mL_cuts 6 := ⟨⟨bg_mT 414 rfl rfl, iC_RL, ⟨by decide +kernel, by decide +kernel, by decide +kernel⟩, by decide⟩, bg_mT 413 rfl rfl⟩
def mL_depth : bg_P := (yL_depth, cL_depth, 5, (Option.some Jvm.ClassFile.FieldType.int : Option FieldType))
set_option maxRecDepth 20000 in
theorem sL_depth : bg_mS mL_depth 3 := ⟨⟨bg_mT 418 rfl rfl, iC_RL, ⟨by decide +kernel, by decide +kernel, by decide +kernel⟩, by decide⟩, bg_mT 417 rfl rfl⟩
def mX6_addBed : bg_P := (yX6_addBed, cX6_addBed, 6, (Option.some Jvm.ClassFile.FieldType.int : Option FieldType))
set_option maxRecDepth 20000 in
theorem vX6_addBed : bg_mV mX6_addBed 6 4 := ⟨⟨bg_mT 422 rfl rfl, iC_RX6, ⟨by decide +kernel, by decide +kernel, by decide +kernel⟩, by decide⟩, bg_mT 420 rfl rfl, bg_mT 421 rfl rfl, rfl⟩
def mL_starts : bg_P := (yL_starts, cL_starts, 1, (Option.none : Option FieldType))
set_option maxRecDepth 20000 in
theorem sL_starts : bg_mS mL_starts 1 := ⟨⟨bg_mT 426 rfl rfl, iC_RL, ⟨by decide +kernel, by decide +kernel, by decide +kernel⟩, by decide⟩, bg_mT 425 rfl rfl⟩
def mL_isSo : bg_P := (yL_isSo, cL_isSo, 15, (Option.some Jvm.ClassFile.FieldType.boolean : Option FieldType))
set_option maxRecDepth 20000 in
theorem sL_isSo : bg_mS mL_isSo 6 := ⟨⟨bg_mT 429 rfl rfl, iC_RL, ⟨by decide +kernel, by decide +kernel, by decide +kernel⟩, by decide⟩, bg_mT 428 rfl rfl⟩
def mX6_bed : bg_P := (yX6_bed, cX6_bed, 5, (Option.some Jvm.ClassFile.FieldType.int : Option FieldType))
set_option maxRecDepth 20000 in
theorem vX6_bed : bg_mV mX6_bed 6 3 := ⟨⟨bg_mT 433 rfl rfl, iC_RX6, ⟨by decide +kernel, by decide +kernel, by decide +kernel⟩, by decide⟩, bg_mT 431 rfl rfl, bg_mT 432 rfl rfl, rfl⟩
def mX0_elevationOf : bg_P := (yX0_elevationOf, cX0_elevationOf, 2, (Option.some Jvm.ClassFile.FieldType.int : Option FieldType))
set_option maxRecDepth 20000 in
theorem vX0_elevationOf : bg_mV mX0_elevationOf 0 1 := ⟨⟨bg_mT 440 rfl rfl, iC_RX0, ⟨by decide +kernel, by decide +kernel, by decide +kernel⟩, by decide⟩, bg_mT 438 rfl rfl, bg_mT 439 rfl rfl, rfl⟩
def mX6_find : bg_P := (yX6_find, cX6_find, 4, (Option.some Jvm.ClassFile.FieldType.int : Option FieldType))
set_option maxRecDepth 20000 in
theorem vX6_find : bg_mV mX6_find 6 3 := ⟨⟨bg_mT 445 rfl rfl, iC_RX6, ⟨by decide +kernel, by decide +kernel, by decide +kernel⟩, by decide⟩, bg_mT 443 rfl rfl, bg_mT 444 rfl rfl, rfl⟩
def mX0_bedWithMark : bg_P := (yX0_bedWithMark, cX0_bedWithMark, 5, (Option.some Jvm.ClassFile.FieldType.int : Option FieldType))
set_option maxRecDepth 20000 in
theorem vX0_bedWithMark : bg_mV mX0_bedWithMark 0 2 := ⟨⟨bg_mT 449 rfl rfl, iC_RX0, ⟨by decide +kernel, by decide +kernel, by decide +kernel⟩, by decide⟩, bg_mT 447 rfl rfl, bg_mT 448 rfl rfl, rfl⟩
def mL_arePaired : bg_P := (yL_arePaired, cL_arePaired, 13, (Option.some Jvm.ClassFile.FieldType.boolean : Option FieldType))
set_option maxRecDepth 20000 in
theorem sL_arePaired : bg_mS mL_arePaired 7 := ⟨⟨bg_mT 452 rfl rfl, iC_RL, ⟨by decide +kernel, by decide +kernel, by decide +kernel⟩, by decide⟩, bg_mT 451 rfl rfl⟩
def mL_walk : bg_P := (yL_walk, cL_walk, 15, (Option.none : Option FieldType))
set_option maxRecDepth 20000 in
theorem sL_walk : bg_mS mL_walk 6 := ⟨⟨bg_mT 455 rfl rfl, iC_RL, ⟨by decide +kernel, by decide +kernel, by decide +kernel⟩, by decide⟩, bg_mT 454 rfl rfl⟩
def mL_least : bg_P := (yL_least, cL_least, 13, (Option.some Jvm.ClassFile.FieldType.int : Option FieldType))
set_option maxRecDepth 20000 in
theorem sL_least : bg_mS mL_least 5 := ⟨⟨bg_mT 458 rfl rfl, iC_RL, ⟨by decide +kernel, by decide +kernel, by decide +kernel⟩, by decide⟩, bg_mT 457 rfl rfl⟩
def mL_added : bg_P := (yL_added, cL_added, 13, (Option.some Jvm.ClassFile.FieldType.int : Option FieldType))
set_option maxRecDepth 20000 in
theorem sL_added : bg_mS mL_added 7 := ⟨⟨bg_mT 462 rfl rfl, iC_RL, ⟨by decide +kernel, by decide +kernel, by decide +kernel⟩, by decide⟩, bg_mT 461 rfl rfl⟩
def mL_off : bg_P := (yL_off, cL_off, 2, (Option.some Jvm.ClassFile.FieldType.int : Option FieldType))
set_option maxRecDepth 20000 in
theorem sL_off : bg_mS mL_off 2 := ⟨⟨bg_mT 465 rfl rfl, iC_RL, ⟨by decide +kernel, by decide +kernel, by decide +kernel⟩, by decide⟩, bg_mT 464 rfl rfl⟩
def mL_alone : bg_P := (yL_alone, cL_alone, 2, (Option.some Jvm.ClassFile.FieldType.int : Option FieldType))
set_option maxRecDepth 20000 in
theorem sL_alone : bg_mS mL_alone 2 := ⟨⟨bg_mT 468 rfl rfl, iC_RL, ⟨by decide +kernel, by decide +kernel, by decide +kernel⟩, by decide⟩, bg_mT 467 rfl rfl⟩
def mL_twin : bg_P := (yL_twin, cL_twin, 7, (Option.some Jvm.ClassFile.FieldType.int : Option FieldType))
set_option maxRecDepth 20000 in
theorem sL_twin : bg_mS mL_twin 5 := ⟨⟨bg_mT 471 rfl rfl, iC_RL, ⟨by decide +kernel, by decide +kernel, by decide +kernel⟩, by decide⟩, bg_mT 470 rfl rfl⟩
def mX6_cost : bg_P := (yX6_cost, cX6_cost, 4, (Option.some Jvm.ClassFile.FieldType.int : Option FieldType))
set_option maxRecDepth 20000 in
theorem vX6_cost : bg_mV mX6_cost 6 3 := ⟨⟨bg_mT 475 rfl rfl, iC_RX6, ⟨by decide +kernel, by decide +kernel, by decide +kernel⟩, by decide⟩, bg_mT 473 rfl rfl, bg_mT 474 rfl rfl, rfl⟩
def mX6_arePair : bg_P := (yX6_arePair, cX6_arePair, 2, (Option.some Jvm.ClassFile.FieldType.boolean : Option FieldType))
set_option maxRecDepth 20000 in
theorem sX6_arePair : bg_mS mX6_arePair 2 := ⟨⟨bg_mT 478 rfl rfl, iC_RX6, ⟨by decide +kernel, by decide +kernel, by decide +kernel⟩, by decide⟩, bg_mT 477 rfl rfl⟩
def mX2_leastCost : bg_P := (yX2_leastCost, cX2_leastCost, 5, (Option.some Jvm.ClassFile.FieldType.int : Option FieldType))
set_option maxRecDepth 20000 in
theorem vX2_leastCost : bg_mV mX2_leastCost 2 4 := ⟨⟨bg_mT 482 rfl rfl, iC_RX2, ⟨by decide +kernel, by decide +kernel, by decide +kernel⟩, by decide⟩, bg_mT 480 rfl rfl, bg_mT 481 rfl rfl, rfl⟩
def mX3_take : bg_P := (yX3_take, cX3_take, 6, (Option.none : Option FieldType))
set_option maxRecDepth 20000 in
theorem vX3_take : bg_mV mX3_take 3 3 := ⟨⟨bg_mT 486 rfl rfl, iC_RX3, ⟨by decide +kernel, by decide +kernel, by decide +kernel⟩, by decide⟩, bg_mT 484 rfl rfl, bg_mT 485 rfl rfl, rfl⟩
def mX3_costFromTop : bg_P := (yX3_costFromTop, cX3_costFromTop, 5, (Option.some Jvm.ClassFile.FieldType.int : Option FieldType))
set_option maxRecDepth 20000 in
theorem vX3_costFromTop : bg_mV mX3_costFromTop 3 0 := ⟨⟨bg_mT 494 rfl rfl, iC_RX3, ⟨by decide +kernel, by decide +kernel, by decide +kernel⟩, by decide⟩, bg_mT 492 rfl rfl, bg_mT 493 rfl rfl, rfl⟩
def mX3_putLeast : bg_P := (yX3_putLeast, cX3_putLeast, 4, (Option.none : Option FieldType))
set_option maxRecDepth 20000 in
theorem vX3_putLeast : bg_mV mX3_putLeast 3 3 := ⟨⟨bg_mT 499 rfl rfl, iC_RX3, ⟨by decide +kernel, by decide +kernel, by decide +kernel⟩, by decide⟩, bg_mT 498 rfl rfl, bg_mT 0 rfl rfl, rfl⟩
def mX3_leastAt : bg_P := (yX3_leastAt, cX3_leastAt, 3, (Option.some Jvm.ClassFile.FieldType.int : Option FieldType))
set_option maxRecDepth 20000 in
theorem vX3_leastAt : bg_mV mX3_leastAt 3 2 := ⟨⟨bg_mT 504 rfl rfl, iC_RX3, ⟨by decide +kernel, by decide +kernel, by decide +kernel⟩, by decide⟩, bg_mT 503 rfl rfl, bg_mT 1 rfl rfl, rfl⟩
def mX3_stepCost : bg_P := (yX3_stepCost, cX3_stepCost, 5, (Option.some Jvm.ClassFile.FieldType.int : Option FieldType))
set_option maxRecDepth 20000 in
theorem vX3_stepCost : bg_mV mX3_stepCost 3 3 := ⟨⟨bg_mT 508 rfl rfl, iC_RX3, ⟨by decide +kernel, by decide +kernel, by decide +kernel⟩, by decide⟩, bg_mT 507 rfl rfl, bg_mT 2 rfl rfl, rfl⟩
def mX3_costOfDifference : bg_P := (yX3_costOfDifference, cX3_costOfDifference, 3, (Option.some Jvm.ClassFile.FieldType.int : Option FieldType))
set_option maxRecDepth 20000 in
theorem vX3_costOfDifference : bg_mV mX3_costOfDifference 3 2 := ⟨⟨bg_mT 514 rfl rfl, iC_RX3, ⟨by decide +kernel, by decide +kernel, by decide +kernel⟩, by decide⟩, bg_mT 513 rfl rfl, bg_mT 3 rfl rfl, rfl⟩
def mX3_missingCostOf : bg_P := (yX3_missingCostOf, cX3_missingCostOf, 2, (Option.some Jvm.ClassFile.FieldType.int : Option FieldType))
set_option maxRecDepth 20000 in
theorem vX3_missingCostOf : bg_mV mX3_missingCostOf 3 1 := ⟨⟨bg_mT 522 rfl rfl, iC_RX3, ⟨by decide +kernel, by decide +kernel, by decide +kernel⟩, by decide⟩, bg_mT 521 rfl rfl, bg_mT 4 rfl rfl, rfl⟩
def mX3_repeatedBed : bg_P := (yX3_repeatedBed, cX3_repeatedBed, 5, (Option.some Jvm.ClassFile.FieldType.int : Option FieldType))
set_option maxRecDepth 20000 in
theorem vX3_repeatedBed : bg_mV mX3_repeatedBed 3 2 := ⟨⟨bg_mT 527 rfl rfl, iC_RX3, ⟨by decide +kernel, by decide +kernel, by decide +kernel⟩, by decide⟩, bg_mT 525 rfl rfl, bg_mT 526 rfl rfl, rfl⟩
def mX3_leastAfter : bg_P := (yX3_leastAfter, cX3_leastAfter, 4, (Option.some Jvm.ClassFile.FieldType.int : Option FieldType))
set_option maxRecDepth 20000 in
theorem vX3_leastAfter : bg_mV mX3_leastAfter 3 3 := ⟨⟨bg_mT 532 rfl rfl, iC_RX3, ⟨by decide +kernel, by decide +kernel, by decide +kernel⟩, by decide⟩, bg_mT 531 rfl rfl, bg_mT 5 rfl rfl, rfl⟩
def mX3_nextOfA : bg_P := (yX3_nextOfA, cX3_nextOfA, 2, (Option.some Jvm.ClassFile.FieldType.int : Option FieldType))
set_option maxRecDepth 20000 in
theorem sX3_nextOfA : bg_mS mX3_nextOfA 2 := ⟨⟨bg_mT 535 rfl rfl, iC_RX3, ⟨by decide +kernel, by decide +kernel, by decide +kernel⟩, by decide⟩, bg_mT 534 rfl rfl⟩
def mX3_nextOfB : bg_P := (yX3_nextOfB, cX3_nextOfB, 2, (Option.some Jvm.ClassFile.FieldType.int : Option FieldType))
set_option maxRecDepth 20000 in
theorem sX3_nextOfB : bg_mS mX3_nextOfB 2 := ⟨⟨bg_mT 538 rfl rfl, iC_RX3, ⟨by decide +kernel, by decide +kernel, by decide +kernel⟩, by decide⟩, bg_mT 537 rfl rfl⟩
def mX3_costFromBottom : bg_P := (yX3_costFromBottom, cX3_costFromBottom, 5, (Option.some Jvm.ClassFile.FieldType.int : Option FieldType))
set_option maxRecDepth 20000 in
theorem vX3_costFromBottom : bg_mV mX3_costFromBottom 3 0 := ⟨⟨bg_mT 542 rfl rfl, iC_RX3, ⟨by decide +kernel, by decide +kernel, by decide +kernel⟩, by decide⟩, bg_mT 540 rfl rfl, bg_mT 541 rfl rfl, rfl⟩
def mX6_why : bg_P := (yX6_why, cX6_why, 5, (Option.some Jvm.ClassFile.FieldType.int : Option FieldType))
set_option maxRecDepth 20000 in
theorem vX6_why : bg_mV mX6_why 6 4 := ⟨⟨bg_mT 547 rfl rfl, iC_RX6, ⟨by decide +kernel, by decide +kernel, by decide +kernel⟩, by decide⟩, bg_mT 545 rfl rfl, bg_mT 546 rfl rfl, rfl⟩
def mX6_isBedOfPair : bg_P := (yX6_isBedOfPair, cX6_isBedOfPair, 5, (Option.some Jvm.ClassFile.FieldType.boolean : Option FieldType))
set_option maxRecDepth 20000 in
theorem vX6_isBedOfPair : bg_mV mX6_isBedOfPair 6 4 := ⟨⟨bg_mT 551 rfl rfl, iC_RX6, ⟨by decide +kernel, by decide +kernel, by decide +kernel⟩, by decide⟩, bg_mT 550 rfl rfl, bg_mT 6 rfl rfl, rfl⟩
def mX2_solve : bg_P := (yX2_solve, cX2_solve, 8, (Option.none : Option FieldType))
set_option maxRecDepth 20000 in
theorem vX2_solve : bg_mV mX2_solve 2 3 := ⟨⟨bg_mT 555 rfl rfl, iC_RX2, ⟨by decide +kernel, by decide +kernel, by decide +kernel⟩, by decide⟩, bg_mT 553 rfl rfl, bg_mT 554 rfl rfl, rfl⟩
def mX2_settleA : bg_P := (yX2_settleA, cX2_settleA, 4, (Option.none : Option FieldType))
set_option maxRecDepth 20000 in
theorem vX2_settleA : bg_mV mX2_settleA 2 3 := ⟨⟨bg_mT 561 rfl rfl, iC_RX2, ⟨by decide +kernel, by decide +kernel, by decide +kernel⟩, by decide⟩, bg_mT 560 rfl rfl, bg_mT 7 rfl rfl, rfl⟩
def mX2_settleB : bg_P := (yX2_settleB, cX2_settleB, 4, (Option.none : Option FieldType))
set_option maxRecDepth 20000 in
theorem vX2_settleB : bg_mV mX2_settleB 2 3 := ⟨⟨bg_mT 565 rfl rfl, iC_RX2, ⟨by decide +kernel, by decide +kernel, by decide +kernel⟩, by decide⟩, bg_mT 564 rfl rfl, bg_mT 8 rfl rfl, rfl⟩
def mX3_firstBestStep : bg_P := (yX3_firstBestStep, cX3_firstBestStep, 4, (Option.some Jvm.ClassFile.FieldType.int : Option FieldType))
set_option maxRecDepth 20000 in
theorem vX3_firstBestStep : bg_mV mX3_firstBestStep 3 2 := ⟨⟨bg_mT 569 rfl rfl, iC_RX3, ⟨by decide +kernel, by decide +kernel, by decide +kernel⟩, by decide⟩, bg_mT 567 rfl rfl, bg_mT 568 rfl rfl, rfl⟩
def mX2_settle : bg_P := (yX2_settle, cX2_settle, 4, (Option.none : Option FieldType))
set_option maxRecDepth 20000 in
theorem vX2_settle : bg_mV mX2_settle 2 3 := ⟨⟨bg_mT 573 rfl rfl, iC_RX2, ⟨by decide +kernel, by decide +kernel, by decide +kernel⟩, by decide⟩, bg_mT 572 rfl rfl, bg_mT 9 rfl rfl, rfl⟩
def mX2_fateOf : bg_P := (yX2_fateOf, cX2_fateOf, 3, (Option.some Jvm.ClassFile.FieldType.int : Option FieldType))
set_option maxRecDepth 20000 in
theorem vX2_fateOf : bg_mV mX2_fateOf 2 2 := ⟨⟨bg_mT 580 rfl rfl, iC_RX2, ⟨by decide +kernel, by decide +kernel, by decide +kernel⟩, by decide⟩, bg_mT 578 rfl rfl, bg_mT 579 rfl rfl, rfl⟩
def mX6_partner : bg_P := (yX6_partner, cX6_partner, 5, (Option.some Jvm.ClassFile.FieldType.int : Option FieldType))
set_option maxRecDepth 20000 in
theorem vX6_partner : bg_mV mX6_partner 6 4 := ⟨⟨bg_mT 584 rfl rfl, iC_RX6, ⟨by decide +kernel, by decide +kernel, by decide +kernel⟩, by decide⟩, bg_mT 582 rfl rfl, bg_mT 583 rfl rfl, rfl⟩
def mX2_partnerOf : bg_P := (yX2_partnerOf, cX2_partnerOf, 3, (Option.some Jvm.ClassFile.FieldType.int : Option FieldType))
set_option maxRecDepth 20000 in
theorem vX2_partnerOf : bg_mV mX2_partnerOf 2 2 := ⟨⟨bg_mT 588 rfl rfl, iC_RX2, ⟨by decide +kernel, by decide +kernel, by decide +kernel⟩, by decide⟩, bg_mT 586 rfl rfl, bg_mT 587 rfl rfl, rfl⟩
def mX6_fault : bg_P := (yX6_fault, cX6_fault, 6, (Option.some Jvm.ClassFile.FieldType.int : Option FieldType))
set_option maxRecDepth 20000 in
theorem vX6_fault : bg_mV mX6_fault 6 4 := ⟨⟨bg_mT 592 rfl rfl, iC_RX6, ⟨by decide +kernel, by decide +kernel, by decide +kernel⟩, by decide⟩, bg_mT 590 rfl rfl, bg_mT 591 rfl rfl, rfl⟩
def mX2_bedAheadOfFault : bg_P := (yX2_bedAheadOfFault, cX2_bedAheadOfFault, 4, (Option.some Jvm.ClassFile.FieldType.int : Option FieldType))
set_option maxRecDepth 20000 in
theorem vX2_bedAheadOfFault : bg_mV mX2_bedAheadOfFault 2 1 := ⟨⟨bg_mT 596 rfl rfl, iC_RX2, ⟨by decide +kernel, by decide +kernel, by decide +kernel⟩, by decide⟩, bg_mT 594 rfl rfl, bg_mT 595 rfl rfl, rfl⟩
def mX2_hasFault : bg_P := (yX2_hasFault, cX2_hasFault, 2, (Option.some Jvm.ClassFile.FieldType.boolean : Option FieldType))
set_option maxRecDepth 20000 in
theorem vX2_hasFault : bg_mV mX2_hasFault 2 1 := ⟨⟨bg_mT 600 rfl rfl, iC_RX2, ⟨by decide +kernel, by decide +kernel, by decide +kernel⟩, by decide⟩, bg_mT 599 rfl rfl, bg_mT 10 rfl rfl, rfl⟩
def mX2_hasThrow : bg_P := (yX2_hasThrow, cX2_hasThrow, 2, (Option.some Jvm.ClassFile.FieldType.boolean : Option FieldType))
set_option maxRecDepth 20000 in
theorem vX2_hasThrow : bg_mV mX2_hasThrow 2 1 := ⟨⟨bg_mT 604 rfl rfl, iC_RX2, ⟨by decide +kernel, by decide +kernel, by decide +kernel⟩, by decide⟩, bg_mT 603 rfl rfl, bg_mT 11 rfl rfl, rfl⟩
def mX2_nextMatch : bg_P := (yX2_nextMatch, cX2_nextMatch, 3, (Option.some Jvm.ClassFile.FieldType.int : Option FieldType))
set_option maxRecDepth 20000 in
theorem vX2_nextMatch : bg_mV mX2_nextMatch 2 1 := ⟨⟨bg_mT 609 rfl rfl, iC_RX2, ⟨by decide +kernel, by decide +kernel, by decide +kernel⟩, by decide⟩, bg_mT 607 rfl rfl, bg_mT 608 rfl rfl, rfl⟩
def mX2_throwBelow : bg_P := (yX2_throwBelow, cX2_throwBelow, 5, (Option.some Jvm.ClassFile.FieldType.int : Option FieldType))
set_option maxRecDepth 20000 in
theorem vX2_throwBelow : bg_mV mX2_throwBelow 2 1 := ⟨⟨bg_mT 613 rfl rfl, iC_RX2, ⟨by decide +kernel, by decide +kernel, by decide +kernel⟩, by decide⟩, bg_mT 611 rfl rfl, bg_mT 612 rfl rfl, rfl⟩
def mX3_columnA : bg_P := (yX3_columnA, cX3_columnA, 1, (Option.some (Jvm.ClassFile.FieldType.object "BoreholeColumns$Column") : Option FieldType))
set_option maxRecDepth 20000 in
theorem vX3_columnA : bg_mV mX3_columnA 3 0 := ⟨⟨bg_mT 617 rfl rfl, iC_RX3, ⟨by decide +kernel, by decide +kernel, by decide +kernel⟩, by decide⟩, bg_mT 615 rfl rfl, bg_mT 616 rfl rfl, rfl⟩
def mX3_columnB : bg_P := (yX3_columnB, cX3_columnB, 1, (Option.some (Jvm.ClassFile.FieldType.object "BoreholeColumns$Column") : Option FieldType))
set_option maxRecDepth 20000 in
theorem vX3_columnB : bg_mV mX3_columnB 3 0 := ⟨⟨bg_mT 622 rfl rfl, iC_RX3, ⟨by decide +kernel, by decide +kernel, by decide +kernel⟩, by decide⟩, bg_mT 620 rfl rfl, bg_mT 621 rfl rfl, rfl⟩
def mX2_reasonBelow : bg_P := (yX2_reasonBelow, cX2_reasonBelow, 6, (Option.some Jvm.ClassFile.FieldType.int : Option FieldType))
set_option maxRecDepth 20000 in
theorem vX2_reasonBelow : bg_mV mX2_reasonBelow 2 1 := ⟨⟨bg_mT 629 rfl rfl, iC_RX2, ⟨by decide +kernel, by decide +kernel, by decide +kernel⟩, by decide⟩, bg_mT 627 rfl rfl, bg_mT 628 rfl rfl, rfl⟩
def mX6_matched : bg_P := (yX6_matched, cX6_matched, 4, (Option.some Jvm.ClassFile.FieldType.int : Option FieldType))
set_option maxRecDepth 20000 in
theorem vX6_matched : bg_mV mX6_matched 6 3 := ⟨⟨bg_mT 634 rfl rfl, iC_RX6, ⟨by decide +kernel, by decide +kernel, by decide +kernel⟩, by decide⟩, bg_mT 632 rfl rfl, bg_mT 633 rfl rfl, rfl⟩
def mX2_countFates : bg_P := (yX2_countFates, cX2_countFates, 5, (Option.some Jvm.ClassFile.FieldType.int : Option FieldType))
set_option maxRecDepth 20000 in
theorem vX2_countFates : bg_mV mX2_countFates 2 2 := ⟨⟨bg_mT 638 rfl rfl, iC_RX2, ⟨by decide +kernel, by decide +kernel, by decide +kernel⟩, by decide⟩, bg_mT 636 rfl rfl, bg_mT 637 rfl rfl, rfl⟩
def mX2_faultCount : bg_P := (yX2_faultCount, cX2_faultCount, 3, (Option.some Jvm.ClassFile.FieldType.int : Option FieldType))
set_option maxRecDepth 20000 in
theorem vX2_faultCount : bg_mV mX2_faultCount 2 0 := ⟨⟨bg_mT 642 rfl rfl, iC_RX2, ⟨by decide +kernel, by decide +kernel, by decide +kernel⟩, by decide⟩, bg_mT 640 rfl rfl, bg_mT 641 rfl rfl, rfl⟩
def mX6_sumOfThrows : bg_P := (yX6_sumOfThrows, cX6_sumOfThrows, 4, (Option.some Jvm.ClassFile.FieldType.int : Option FieldType))
set_option maxRecDepth 20000 in
theorem vX6_sumOfThrows : bg_mV mX6_sumOfThrows 6 3 := ⟨⟨bg_mT 646 rfl rfl, iC_RX6, ⟨by decide +kernel, by decide +kernel, by decide +kernel⟩, by decide⟩, bg_mT 644 rfl rfl, bg_mT 645 rfl rfl, rfl⟩
def mX2_totalThrow : bg_P := (yX2_totalThrow, cX2_totalThrow, 4, (Option.some Jvm.ClassFile.FieldType.int : Option FieldType))
set_option maxRecDepth 20000 in
theorem vX2_totalThrow : bg_mV mX2_totalThrow 2 1 := ⟨⟨bg_mT 651 rfl rfl, iC_RX2, ⟨by decide +kernel, by decide +kernel, by decide +kernel⟩, by decide⟩, bg_mT 649 rfl rfl, bg_mT 650 rfl rfl, rfl⟩
def mX2_changeOfElevations : bg_P := (yX2_changeOfElevations, cX2_changeOfElevations, 4, (Option.some Jvm.ClassFile.FieldType.int : Option FieldType))
set_option maxRecDepth 20000 in
theorem vX2_changeOfElevations : bg_mV mX2_changeOfElevations 2 0 := ⟨⟨bg_mT 655 rfl rfl, iC_RX2, ⟨by decide +kernel, by decide +kernel, by decide +kernel⟩, by decide⟩, bg_mT 653 rfl rfl, bg_mT 654 rfl rfl, rfl⟩
def mX2_differenceOfElevations : bg_P := (yX2_differenceOfElevations, cX2_differenceOfElevations, 2, (Option.some Jvm.ClassFile.FieldType.int : Option FieldType))
set_option maxRecDepth 20000 in
theorem vX2_differenceOfElevations : bg_mV mX2_differenceOfElevations 2 1 := ⟨⟨bg_mT 659 rfl rfl, iC_RX2, ⟨by decide +kernel, by decide +kernel, by decide +kernel⟩, by decide⟩, bg_mT 658 rfl rfl, bg_mT 12 rfl rfl, rfl⟩
set_option maxRecDepth 20000 in
theorem lL_118 : Cond.methodLink RL 118 yX6_init ∈ bg_T := bg_mT 26 rfl rfl
set_option maxRecDepth 20000 in
theorem lX6_1 : Cond.methodLink RX6 1 Lib.objectInit ∈ bg_T := bg_mT 29 rfl rfl
set_option maxRecDepth 20000 in
theorem lX6_9 : Cond.methodLink RX6 9 yX4_init ∈ bg_T := bg_mT 34 rfl rfl
set_option maxRecDepth 20000 in
theorem lX4_3 : Cond.methodLink RX4 3 Lib.objectInit ∈ bg_T := bg_mT 37 rfl rfl
set_option maxRecDepth 20000 in
theorem lX4_28 : Cond.methodLink RX4 28 yX0_init ∈ bg_T := bg_mT 43 rfl rfl
set_option maxRecDepth 20000 in
theorem lX0_3 : Cond.methodLink RX0 3 Lib.objectInit ∈ bg_T := bg_mT 46 rfl rfl
set_option maxRecDepth 20000 in
theorem fX0_9 : bg_FL RX0 9 0 4 0 := ⟨_, _, rfl, by decide, bg_mT 47 rfl rfl⟩
set_option maxRecDepth 20000 in
theorem fX0_15 : bg_FL RX0 15 0 4 1 := ⟨_, _, rfl, by decide, bg_mT 48 rfl rfl⟩
set_option maxRecDepth 20000 in
theorem fX0_18 : bg_FL RX0 18 0 4 2 := ⟨_, _, rfl, by decide, bg_mT 49 rfl rfl⟩
set_option maxRecDepth 20000 in
theorem fX0_22 : bg_FL RX0 22 0 4 3 := ⟨_, _, rfl, by decide, bg_mT 50 rfl rfl⟩
set_option maxRecDepth 20000 in
theorem fX4_9 : bg_FL RX4 9 4 4 0 := ⟨_, _, rfl, by decide, bg_mT 61 rfl rfl⟩
set_option maxRecDepth 20000 in
theorem fX4_18 : bg_FL RX4 18 4 4 1 := ⟨_, _, rfl, by decide, bg_mT 62 rfl rfl⟩
set_option maxRecDepth 20000 in
theorem fX4_24 : bg_FL RX4 24 4 4 2 := ⟨_, _, rfl, by decide, bg_mT 63 rfl rfl⟩
set_option maxRecDepth 20000 in
theorem fX4_29 : bg_FL RX4 29 4 4 3 := ⟨_, _, rfl, by decide, bg_mT 64 rfl rfl⟩
set_option maxRecDepth 20000 in
theorem lX6_18 : Cond.methodLink RX6 18 yX1_init ∈ bg_T := bg_mT 76 rfl rfl
set_option maxRecDepth 20000 in
theorem lX1_3 : Cond.methodLink RX1 3 Lib.objectInit ∈ bg_T := bg_mT 79 rfl rfl
set_option maxRecDepth 20000 in
theorem lX1_17 : Cond.methodLink RX1 17 yX4_init ∈ bg_T := bg_mT 82 rfl rfl
set_option maxRecDepth 20000 in
theorem fX1_11 : bg_FL RX1 11 1 3 0 := ⟨_, _, rfl, by decide, bg_mT 83 rfl rfl⟩
set_option maxRecDepth 20000 in
theorem fX1_18 : bg_FL RX1 18 1 3 1 := ⟨_, _, rfl, by decide, bg_mT 84 rfl rfl⟩
set_option maxRecDepth 20000 in
theorem fX1_22 : bg_FL RX1 22 1 3 2 := ⟨_, _, rfl, by decide, bg_mT 85 rfl rfl⟩
set_option maxRecDepth 20000 in
theorem lX6_33 : Cond.methodLink RX6 33 yX5_init ∈ bg_T := bg_mT 95 rfl rfl
set_option maxRecDepth 20000 in
theorem lX5_3 : Cond.methodLink RX5 3 Lib.objectInit ∈ bg_T := bg_mT 98 rfl rfl
set_option maxRecDepth 20000 in
theorem lX5_27 : Cond.methodLink RX5 27 yX0_init ∈ bg_T := bg_mT 100 rfl rfl
set_option maxRecDepth 20000 in
theorem fX5_9 : bg_FL RX5 9 5 5 0 := ⟨_, _, rfl, by decide, bg_mT 101 rfl rfl⟩
set_option maxRecDepth 20000 in
theorem fX5_15 : bg_FL RX5 15 5 5 1 := ⟨_, _, rfl, by decide, bg_mT 102 rfl rfl⟩
set_option maxRecDepth 20000 in
theorem fX5_19 : bg_FL RX5 19 5 5 2 := ⟨_, _, rfl, by decide, bg_mT 103 rfl rfl⟩
set_option maxRecDepth 20000 in
theorem fX5_22 : bg_FL RX5 22 5 5 3 := ⟨_, _, rfl, by decide, bg_mT 104 rfl rfl⟩
set_option maxRecDepth 20000 in
theorem fX5_28 : bg_FL RX5 28 5 5 4 := ⟨_, _, rfl, by decide, bg_mT 105 rfl rfl⟩
set_option maxRecDepth 20000 in
theorem lX6_40 : Cond.methodLink RX6 40 yX0_init ∈ bg_T := bg_mT 118 rfl rfl
set_option maxRecDepth 20000 in
theorem lX6_47 : Cond.methodLink RX6 47 yX2_init ∈ bg_T := bg_mT 121 rfl rfl
set_option maxRecDepth 20000 in
theorem lX2_3 : Cond.methodLink RX2 3 Lib.objectInit ∈ bg_T := bg_mT 124 rfl rfl
set_option maxRecDepth 20000 in
theorem lX2_11 : Cond.methodLink RX2 11 yX3_init ∈ bg_T := bg_mT 127 rfl rfl
set_option maxRecDepth 20000 in
theorem lX3_3 : Cond.methodLink RX3 3 Lib.objectInit ∈ bg_T := bg_mT 130 rfl rfl
set_option maxRecDepth 20000 in
theorem lX3_11 : Cond.methodLink RX3 11 yX0_init ∈ bg_T := bg_mT 132 rfl rfl
set_option maxRecDepth 20000 in
theorem fX3_12 : bg_FL RX3 12 3 7 0 := ⟨_, _, rfl, by decide, bg_mT 133 rfl rfl⟩
set_option maxRecDepth 20000 in
theorem fX3_18 : bg_FL RX3 18 3 7 1 := ⟨_, _, rfl, by decide, bg_mT 134 rfl rfl⟩
set_option maxRecDepth 20000 in
theorem fX3_21 : bg_FL RX3 21 3 7 2 := ⟨_, _, rfl, by decide, bg_mT 135 rfl rfl⟩
set_option maxRecDepth 20000 in
theorem fX3_25 : bg_FL RX3 25 3 7 3 := ⟨_, _, rfl, by decide, bg_mT 136 rfl rfl⟩
set_option maxRecDepth 20000 in
theorem fX3_29 : bg_FL RX3 29 3 7 4 := ⟨_, _, rfl, by decide, bg_mT 137 rfl rfl⟩
set_option maxRecDepth 20000 in
theorem fX3_32 : bg_FL RX3 32 3 7 5 := ⟨_, _, rfl, by decide, bg_mT 138 rfl rfl⟩
set_option maxRecDepth 20000 in
theorem fX3_35 : bg_FL RX3 35 3 7 6 := ⟨_, _, rfl, by decide, bg_mT 139 rfl rfl⟩
set_option maxRecDepth 20000 in
theorem fX2_12 : bg_FL RX2 12 2 6 0 := ⟨_, _, rfl, by decide, bg_mT 155 rfl rfl⟩
set_option maxRecDepth 20000 in
theorem fX2_18 : bg_FL RX2 18 2 6 1 := ⟨_, _, rfl, by decide, bg_mT 156 rfl rfl⟩
set_option maxRecDepth 20000 in
theorem fX2_22 : bg_FL RX2 22 2 6 2 := ⟨_, _, rfl, by decide, bg_mT 157 rfl rfl⟩
set_option maxRecDepth 20000 in
theorem fX2_25 : bg_FL RX2 25 2 6 3 := ⟨_, _, rfl, by decide, bg_mT 158 rfl rfl⟩
set_option maxRecDepth 20000 in
theorem fX2_28 : bg_FL RX2 28 2 6 4 := ⟨_, _, rfl, by decide, bg_mT 159 rfl rfl⟩
set_option maxRecDepth 20000 in
theorem fX2_31 : bg_FL RX2 31 2 6 5 := ⟨_, _, rfl, by decide, bg_mT 160 rfl rfl⟩
set_option maxRecDepth 20000 in
theorem fX6_10 : bg_FL RX6 10 6 9 0 := ⟨_, _, rfl, by decide, bg_mT 174 rfl rfl⟩
set_option maxRecDepth 20000 in
theorem fX6_19 : bg_FL RX6 19 6 9 1 := ⟨_, _, rfl, by decide, bg_mT 175 rfl rfl⟩
set_option maxRecDepth 20000 in
theorem fX6_23 : bg_FL RX6 23 6 9 2 := ⟨_, _, rfl, by decide, bg_mT 176 rfl rfl⟩
set_option maxRecDepth 20000 in
theorem fX6_27 : bg_FL RX6 27 6 9 3 := ⟨_, _, rfl, by decide, bg_mT 177 rfl rfl⟩
set_option maxRecDepth 20000 in
theorem fX6_34 : bg_FL RX6 34 6 9 4 := ⟨_, _, rfl, by decide, bg_mT 178 rfl rfl⟩
set_option maxRecDepth 20000 in
theorem fX6_41 : bg_FL RX6 41 6 9 5 := ⟨_, _, rfl, by decide, bg_mT 179 rfl rfl⟩
set_option maxRecDepth 20000 in
theorem fX6_48 : bg_FL RX6 48 6 9 6 := ⟨_, _, rfl, by decide, bg_mT 180 rfl rfl⟩
set_option maxRecDepth 20000 in
theorem fX6_52 : bg_FL RX6 52 6 9 7 := ⟨_, _, rfl, by decide, bg_mT 181 rfl rfl⟩
set_option maxRecDepth 20000 in
theorem fX6_55 : bg_FL RX6 55 6 9 8 := ⟨_, _, rfl, by decide, bg_mT 182 rfl rfl⟩
set_option maxRecDepth 20000 in
theorem lL_98 : Cond.methodLink RL 98 yX6_count ∈ bg_T := bg_mT 202 rfl rfl
set_option maxRecDepth 20000 in
theorem lX6_70 : Cond.methodLink RX6 70 yX4_numberOf ∈ bg_T := bg_mT 206 rfl rfl
set_option maxRecDepth 20000 in
theorem lX6_188 : Cond.methodLink RX6 188 yX4_keyMarkCount ∈ bg_T := bg_mT 210 rfl rfl
set_option maxRecDepth 20000 in
theorem lX4_36 : Cond.methodLink RX4 36 yJ6_bitCount_0f7a4 ∈ bg_T := bg_mT 214 rfl rfl
set_option maxRecDepth 20000 in
theorem lX6_179 : Cond.methodLink RX6 179 yX4_sumOfSizes ∈ bg_T := bg_mT 220 rfl rfl
set_option maxRecDepth 20000 in
theorem lX4_45 : Cond.methodLink RX4 45 yX0_size ∈ bg_T := bg_mT 224 rfl rfl
set_option maxRecDepth 20000 in
theorem lX6_156 : Cond.methodLink RX6 156 yX5_size ∈ bg_T := bg_mT 228 rfl rfl
set_option maxRecDepth 20000 in
theorem lX6_187 : Cond.methodLink RX6 187 yX1_size ∈ bg_T := bg_mT 232 rfl rfl
set_option maxRecDepth 20000 in
theorem kX6_58 : Cond.constant RX6 58 (Int32.ofInt (-1000001)) ∈ bg_T := bg_mT 236 rfl rfl
set_option maxRecDepth 20000 in
theorem lL_102 : Cond.methodLink RL 102 yX6_hole ∈ bg_T := bg_mT 237 rfl rfl
set_option maxRecDepth 20000 in
theorem lX6_89 : Cond.methodLink RX6 89 yX6_isHole ∈ bg_T := bg_mT 241 rfl rfl
set_option maxRecDepth 20000 in
theorem lX6_92 : Cond.methodLink RX6 92 yX4_columnOf ∈ bg_T := bg_mT 244 rfl rfl
set_option maxRecDepth 20000 in
theorem lX6_96 : Cond.methodLink RX6 96 yX0_collarElevation ∈ bg_T := bg_mT 249 rfl rfl
set_option maxRecDepth 20000 in
theorem lX6_107 : Cond.methodLink RX6 107 yX0_size ∈ bg_T := bg_mT 253 rfl rfl
set_option maxRecDepth 20000 in
theorem lX6_136 : Cond.methodLink RX6 136 yX0_totalThickness ∈ bg_T := bg_mT 254 rfl rfl
set_option maxRecDepth 20000 in
theorem lX0_30 : Cond.methodLink RX0 30 yX0_depthOf ∈ bg_T := bg_mT 258 rfl rfl
set_option maxRecDepth 20000 in
theorem lX0_25 : Cond.methodLink RX0 25 yX0_has ∈ bg_T := bg_mT 262 rfl rfl
set_option maxRecDepth 20000 in
theorem lL_105 : Cond.methodLink RL 105 yX6_account ∈ bg_T := bg_mT 266 rfl rfl
set_option maxRecDepth 20000 in
theorem lX6_204 : Cond.methodLink RX6 204 yX4_sumOfLengths ∈ bg_T := bg_mT 270 rfl rfl
set_option maxRecDepth 20000 in
theorem lX4_49 : Cond.methodLink RX4 49 yX0_totalThickness ∈ bg_T := bg_mT 274 rfl rfl
set_option maxRecDepth 20000 in
theorem lX6_207 : Cond.methodLink RX6 207 yX4_bookedIn ∈ bg_T := bg_mT 275 rfl rfl
set_option maxRecDepth 20000 in
theorem lL_127 : Cond.methodLink RL 127 yL_cell ∈ bg_T := bg_mT 279 rfl rfl
set_option maxRecDepth 20000 in
theorem kL_7 : Cond.constant RL 7 (Int32.ofInt (40503)) ∈ bg_T := bg_mT 282 rfl rfl
set_option maxRecDepth 20000 in
theorem lL_39 : Cond.methodLink RL 39 yL_low ∈ bg_T := bg_mT 283 rfl rfl
set_option maxRecDepth 20000 in
theorem kL_8 : Cond.constant RL 8 (Int32.ofInt (2147483647)) ∈ bg_T := bg_mT 286 rfl rfl
set_option maxRecDepth 20000 in
theorem lL_130 : Cond.methodLink RL 130 yL_acts ∈ bg_T := bg_mT 287 rfl rfl
set_option maxRecDepth 20000 in
theorem kL_38 : Cond.constant RL 38 (Int32.ofInt (10000000)) ∈ bg_T := bg_mT 290 rfl rfl
set_option maxRecDepth 20000 in
theorem lL_42 : Cond.methodLink RL 42 yX6_setNumber ∈ bg_T := bg_mT 291 rfl rfl
set_option maxRecDepth 20000 in
theorem gX6_59 : Cond.fieldLink RX6 59 "BoreholeColumns" "LEAST_NUMBERS" "[I" ∈ bg_T := bg_mT 295 rfl rfl
set_option maxRecDepth 20000 in
theorem gX6_63 : Cond.fieldLink RX6 63 "BoreholeColumns" "GREATEST_NUMBERS" "[I" ∈ bg_T := bg_mT 297 rfl rfl
set_option maxRecDepth 20000 in
theorem lX6_66 : Cond.methodLink RX6 66 yX1_save ∈ bg_T := bg_mT 299 rfl rfl
set_option maxRecDepth 20000 in
theorem lX1_25 : Cond.methodLink RX1 25 yX4_copyFrom ∈ bg_T := bg_mT 303 rfl rfl
set_option maxRecDepth 20000 in
theorem lX4_52 : Cond.methodLink RX4 52 arraycopyName ∈ bg_T := bg_mT 307 rfl rfl
set_option maxRecDepth 20000 in
theorem lX4_58 : Cond.methodLink RX4 58 yX0_copyFrom ∈ bg_T := bg_mT 310 rfl rfl
set_option maxRecDepth 20000 in
theorem lX0_59 : Cond.methodLink RX0 59 yX0_takeBedsOf ∈ bg_T := bg_mT 314 rfl rfl
set_option maxRecDepth 20000 in
theorem lX0_53 : Cond.methodLink RX0 53 arraycopyName ∈ bg_T := bg_mT 318 rfl rfl
set_option maxRecDepth 20000 in
theorem lX1_29 : Cond.methodLink RX1 29 Lib.Math.min.name ∈ bg_T := bg_mT 319 rfl rfl
set_option maxRecDepth 20000 in
theorem lX6_74 : Cond.methodLink RX6 74 yX4_putNumber ∈ bg_T := bg_mT 322 rfl rfl
set_option maxRecDepth 20000 in
theorem lL_47 : Cond.methodLink RL 47 yX6_setKey ∈ bg_T := bg_mT 326 rfl rfl
set_option maxRecDepth 20000 in
theorem lX6_78 : Cond.methodLink RX6 78 yX6_isMark ∈ bg_T := bg_mT 330 rfl rfl
set_option maxRecDepth 20000 in
theorem lX6_82 : Cond.methodLink RX6 82 yX4_isKey ∈ bg_T := bg_mT 333 rfl rfl
set_option maxRecDepth 20000 in
theorem lX6_85 : Cond.methodLink RX6 85 yX4_putKey ∈ bg_T := bg_mT 338 rfl rfl
set_option maxRecDepth 20000 in
theorem lL_50 : Cond.methodLink RL 50 yX6_setCollar ∈ bg_T := bg_mT 342 rfl rfl
set_option maxRecDepth 20000 in
theorem lX6_100 : Cond.methodLink RX6 100 yX0_putCollar ∈ bg_T := bg_mT 346 rfl rfl
set_option maxRecDepth 20000 in
theorem lL_53 : Cond.methodLink RL 53 yX6_removeBed ∈ bg_T := bg_mT 350 rfl rfl
set_option maxRecDepth 20000 in
theorem lX6_118 : Cond.methodLink RX6 118 yX0_has ∈ bg_T := bg_mT 354 rfl rfl
set_option maxRecDepth 20000 in
theorem lX6_121 : Cond.methodLink RX6 121 yX0_thicknessOf ∈ bg_T := bg_mT 355 rfl rfl
set_option maxRecDepth 20000 in
theorem lX6_124 : Cond.methodLink RX6 124 yX0_takeOut ∈ bg_T := bg_mT 359 rfl rfl
set_option maxRecDepth 20000 in
theorem lX6_115 : Cond.methodLink RX6 115 yX4_book ∈ bg_T := bg_mT 363 rfl rfl
set_option maxRecDepth 20000 in
theorem kL_56 : Cond.constant RL 56 (Int32.ofInt (-1000001)) ∈ bg_T := bg_mT 367 rfl rfl
set_option maxRecDepth 20000 in
theorem lL_57 : Cond.methodLink RL 57 yX6_setThickness ∈ bg_T := bg_mT 368 rfl rfl
set_option maxRecDepth 20000 in
theorem lX6_104 : Cond.methodLink RX6 104 yX6_isThickness ∈ bg_T := bg_mT 372 rfl rfl
set_option maxRecDepth 20000 in
theorem lX6_127 : Cond.methodLink RX6 127 yX0_putThickness ∈ bg_T := bg_mT 375 rfl rfl
set_option maxRecDepth 20000 in
theorem lX6_130 : Cond.methodLink RX6 130 Lib.Math.max.name ∈ bg_T := bg_mT 379 rfl rfl
set_option maxRecDepth 20000 in
theorem lL_61 : Cond.methodLink RL 61 yL_length ∈ bg_T := bg_mT 382 rfl rfl
set_option maxRecDepth 20000 in
theorem lL_65 : Cond.methodLink RL 65 yX6_cut ∈ bg_T := bg_mT 385 rfl rfl
set_option maxRecDepth 20000 in
theorem lX6_139 : Cond.methodLink RX6 139 Lib.Math.min.name ∈ bg_T := bg_mT 389 rfl rfl
set_option maxRecDepth 20000 in
theorem lX6_142 : Cond.methodLink RX6 142 yX0_clear ∈ bg_T := bg_mT 390 rfl rfl
set_option maxRecDepth 20000 in
theorem lX6_145 : Cond.methodLink RX6 145 yX0_appendPart ∈ bg_T := bg_mT 394 rfl rfl
set_option maxRecDepth 20000 in
theorem lX0_34 : Cond.methodLink RX0 34 yX0_thicknessOf ∈ bg_T := bg_mT 398 rfl rfl
set_option maxRecDepth 20000 in
theorem lX0_37 : Cond.methodLink RX0 37 Lib.Math.min.name ∈ bg_T := bg_mT 399 rfl rfl
set_option maxRecDepth 20000 in
theorem lX0_43 : Cond.methodLink RX0 43 Lib.Math.max.name ∈ bg_T := bg_mT 400 rfl rfl
set_option maxRecDepth 20000 in
theorem lX0_46 : Cond.methodLink RX0 46 yX0_markOf ∈ bg_T := bg_mT 401 rfl rfl
set_option maxRecDepth 20000 in
theorem kX0_29 : Cond.constant RX0 29 (Int32.ofInt (-1000009)) ∈ bg_T := bg_mT 405 rfl rfl
set_option maxRecDepth 20000 in
theorem lX0_49 : Cond.methodLink RX0 49 yX0_insert ∈ bg_T := bg_mT 406 rfl rfl
set_option maxRecDepth 20000 in
theorem kX6_110 : Cond.constant RX6 110 (Int32.ofInt (-1000003)) ∈ bg_T := bg_mT 410 rfl rfl
set_option maxRecDepth 20000 in
theorem lX6_149 : Cond.methodLink RX6 149 yX0_takeBedsOf ∈ bg_T := bg_mT 411 rfl rfl
set_option maxRecDepth 20000 in
theorem lL_68 : Cond.methodLink RL 68 yL_cuts ∈ bg_T := bg_mT 412 rfl rfl
set_option maxRecDepth 20000 in
theorem kL_37 : Cond.constant RL 37 (Int32.ofInt (100000)) ∈ bg_T := bg_mT 415 rfl rfl
set_option maxRecDepth 20000 in
theorem lL_32 : Cond.methodLink RL 32 yL_depth ∈ bg_T := bg_mT 416 rfl rfl
set_option maxRecDepth 20000 in
theorem lL_72 : Cond.methodLink RL 72 yX6_addBed ∈ bg_T := bg_mT 419 rfl rfl
set_option maxRecDepth 20000 in
theorem lX6_111 : Cond.methodLink RX6 111 yX0_insert ∈ bg_T := bg_mT 423 rfl rfl
set_option maxRecDepth 20000 in
theorem lL_119 : Cond.methodLink RL 119 yL_starts ∈ bg_T := bg_mT 424 rfl rfl
set_option maxRecDepth 20000 in
theorem lL_123 : Cond.methodLink RL 123 yL_isSo ∈ bg_T := bg_mT 427 rfl rfl
set_option maxRecDepth 20000 in
theorem lL_108 : Cond.methodLink RL 108 yX6_bed ∈ bg_T := bg_mT 430 rfl rfl
set_option maxRecDepth 20000 in
theorem kX6_191 : Cond.constant RX6 191 (Int32.ofInt (-1000009)) ∈ bg_T := bg_mT 434 rfl rfl
set_option maxRecDepth 20000 in
theorem lX6_192 : Cond.methodLink RX6 192 yX0_markOf ∈ bg_T := bg_mT 435 rfl rfl
set_option maxRecDepth 20000 in
theorem lX6_195 : Cond.methodLink RX6 195 yX0_depthOf ∈ bg_T := bg_mT 436 rfl rfl
set_option maxRecDepth 20000 in
theorem lX6_198 : Cond.methodLink RX6 198 yX0_elevationOf ∈ bg_T := bg_mT 437 rfl rfl
set_option maxRecDepth 20000 in
theorem kL_36 : Cond.constant RL 36 (Int32.ofInt (-1000009)) ∈ bg_T := bg_mT 441 rfl rfl
set_option maxRecDepth 20000 in
theorem lL_111 : Cond.methodLink RL 111 yX6_find ∈ bg_T := bg_mT 442 rfl rfl
set_option maxRecDepth 20000 in
theorem lX6_201 : Cond.methodLink RX6 201 yX0_bedWithMark ∈ bg_T := bg_mT 446 rfl rfl
set_option maxRecDepth 20000 in
theorem lL_114 : Cond.methodLink RL 114 yL_arePaired ∈ bg_T := bg_mT 450 rfl rfl
set_option maxRecDepth 20000 in
theorem lL_76 : Cond.methodLink RL 76 yL_walk ∈ bg_T := bg_mT 453 rfl rfl
set_option maxRecDepth 20000 in
theorem lL_28 : Cond.methodLink RL 28 yL_least ∈ bg_T := bg_mT 456 rfl rfl
set_option maxRecDepth 20000 in
theorem kL_15 : Cond.constant RL 15 (Int32.ofInt (1000000)) ∈ bg_T := bg_mT 459 rfl rfl
set_option maxRecDepth 20000 in
theorem lL_24 : Cond.methodLink RL 24 yL_added ∈ bg_T := bg_mT 460 rfl rfl
set_option maxRecDepth 20000 in
theorem lL_9 : Cond.methodLink RL 9 yL_off ∈ bg_T := bg_mT 463 rfl rfl
set_option maxRecDepth 20000 in
theorem lL_16 : Cond.methodLink RL 16 yL_alone ∈ bg_T := bg_mT 466 rfl rfl
set_option maxRecDepth 20000 in
theorem lL_20 : Cond.methodLink RL 20 yL_twin ∈ bg_T := bg_mT 469 rfl rfl
set_option maxRecDepth 20000 in
theorem lL_80 : Cond.methodLink RL 80 yX6_cost ∈ bg_T := bg_mT 472 rfl rfl
set_option maxRecDepth 20000 in
theorem lX6_210 : Cond.methodLink RX6 210 yX6_arePair ∈ bg_T := bg_mT 476 rfl rfl
set_option maxRecDepth 20000 in
theorem lX6_214 : Cond.methodLink RX6 214 yX2_leastCost ∈ bg_T := bg_mT 479 rfl rfl
set_option maxRecDepth 20000 in
theorem lX2_35 : Cond.methodLink RX2 35 yX3_take ∈ bg_T := bg_mT 483 rfl rfl
set_option maxRecDepth 20000 in
theorem lX3_38 : Cond.methodLink RX3 38 yX4_columnOf ∈ bg_T := bg_mT 487 rfl rfl
set_option maxRecDepth 20000 in
theorem lX3_44 : Cond.methodLink RX3 44 yX0_copyFrom ∈ bg_T := bg_mT 488 rfl rfl
set_option maxRecDepth 20000 in
theorem lX3_48 : Cond.methodLink RX3 48 yX4_numberOf ∈ bg_T := bg_mT 489 rfl rfl
set_option maxRecDepth 20000 in
theorem lX3_52 : Cond.methodLink RX3 52 yX4_isKey ∈ bg_T := bg_mT 490 rfl rfl
set_option maxRecDepth 20000 in
theorem lX2_39 : Cond.methodLink RX2 39 yX3_costFromTop ∈ bg_T := bg_mT 491 rfl rfl
set_option maxRecDepth 20000 in
theorem kX3_67 : Cond.constant RX3 67 (Int32.ofInt (1000000)) ∈ bg_T := bg_mT 495 rfl rfl
set_option maxRecDepth 20000 in
theorem lX3_108 : Cond.methodLink RX3 108 yX3_putLeast ∈ bg_T := bg_mT 496 rfl rfl
set_option maxRecDepth 20000 in
theorem lX3_94 : Cond.methodLink RX3 94 yX0_size ∈ bg_T := bg_mT 500 rfl rfl
set_option maxRecDepth 20000 in
theorem lX3_91 : Cond.methodLink RX3 91 yX3_leastAt ∈ bg_T := bg_mT 501 rfl rfl
set_option maxRecDepth 20000 in
theorem lX3_98 : Cond.methodLink RX3 98 yX3_stepCost ∈ bg_T := bg_mT 505 rfl rfl
set_option maxRecDepth 20000 in
theorem lX3_56 : Cond.methodLink RX3 56 yX0_has ∈ bg_T := bg_mT 509 rfl rfl
set_option maxRecDepth 20000 in
theorem lX3_60 : Cond.methodLink RX3 60 yX0_markOf ∈ bg_T := bg_mT 510 rfl rfl
set_option maxRecDepth 20000 in
theorem lX3_63 : Cond.methodLink RX3 63 yX3_costOfDifference ∈ bg_T := bg_mT 511 rfl rfl
set_option maxRecDepth 20000 in
theorem lX3_77 : Cond.methodLink RX3 77 yX0_thicknessOf ∈ bg_T := bg_mT 515 rfl rfl
set_option maxRecDepth 20000 in
theorem lX3_80 : Cond.methodLink RX3 80 Lib.Math.abs.name ∈ bg_T := bg_mT 516 rfl rfl
set_option maxRecDepth 20000 in
theorem lX3_68 : Cond.methodLink RX3 68 yX3_missingCostOf ∈ bg_T := bg_mT 519 rfl rfl
set_option maxRecDepth 20000 in
theorem lX3_71 : Cond.methodLink RX3 71 yX3_repeatedBed ∈ bg_T := bg_mT 524 rfl rfl
set_option maxRecDepth 20000 in
theorem kX3_59 : Cond.constant RX3 59 (Int32.ofInt (-1000009)) ∈ bg_T := bg_mT 528 rfl rfl
set_option maxRecDepth 20000 in
theorem lX3_102 : Cond.methodLink RX3 102 yX3_leastAfter ∈ bg_T := bg_mT 529 rfl rfl
set_option maxRecDepth 20000 in
theorem lX3_85 : Cond.methodLink RX3 85 yX3_nextOfA ∈ bg_T := bg_mT 533 rfl rfl
set_option maxRecDepth 20000 in
theorem lX3_88 : Cond.methodLink RX3 88 yX3_nextOfB ∈ bg_T := bg_mT 536 rfl rfl
set_option maxRecDepth 20000 in
theorem lX2_43 : Cond.methodLink RX2 43 yX3_costFromBottom ∈ bg_T := bg_mT 539 rfl rfl
set_option maxRecDepth 20000 in
theorem lX3_105 : Cond.methodLink RX3 105 Lib.Math.min.name ∈ bg_T := bg_mT 543 rfl rfl
set_option maxRecDepth 20000 in
theorem lL_83 : Cond.methodLink RL 83 yX6_why ∈ bg_T := bg_mT 544 rfl rfl
set_option maxRecDepth 20000 in
theorem lX6_218 : Cond.methodLink RX6 218 yX6_isBedOfPair ∈ bg_T := bg_mT 548 rfl rfl
set_option maxRecDepth 20000 in
theorem lX6_222 : Cond.methodLink RX6 222 yX2_solve ∈ bg_T := bg_mT 552 rfl rfl
set_option maxRecDepth 20000 in
theorem lX2_46 : Cond.methodLink RX2 46 yX4_numberOf ∈ bg_T := bg_mT 556 rfl rfl
set_option maxRecDepth 20000 in
theorem kX2_52 : Cond.constant RX2 52 (Int32.ofInt (-1000009)) ∈ bg_T := bg_mT 557 rfl rfl
set_option maxRecDepth 20000 in
theorem lX2_53 : Cond.methodLink RX2 53 yX2_settleA ∈ bg_T := bg_mT 558 rfl rfl
set_option maxRecDepth 20000 in
theorem lX2_57 : Cond.methodLink RX2 57 yX2_settleB ∈ bg_T := bg_mT 562 rfl rfl
set_option maxRecDepth 20000 in
theorem lX2_60 : Cond.methodLink RX2 60 yX3_firstBestStep ∈ bg_T := bg_mT 566 rfl rfl
set_option maxRecDepth 20000 in
theorem lX2_64 : Cond.methodLink RX2 64 yX2_settle ∈ bg_T := bg_mT 570 rfl rfl
set_option maxRecDepth 20000 in
theorem lX2_73 : Cond.methodLink RX2 73 yX3_repeatedBed ∈ bg_T := bg_mT 574 rfl rfl
set_option maxRecDepth 20000 in
theorem lX2_67 : Cond.methodLink RX2 67 yX3_nextOfA ∈ bg_T := bg_mT 575 rfl rfl
set_option maxRecDepth 20000 in
theorem lX2_70 : Cond.methodLink RX2 70 yX3_nextOfB ∈ bg_T := bg_mT 576 rfl rfl
set_option maxRecDepth 20000 in
theorem lX6_226 : Cond.methodLink RX6 226 yX2_fateOf ∈ bg_T := bg_mT 577 rfl rfl
set_option maxRecDepth 20000 in
theorem lL_86 : Cond.methodLink RL 86 yX6_partner ∈ bg_T := bg_mT 581 rfl rfl
set_option maxRecDepth 20000 in
theorem lX6_229 : Cond.methodLink RX6 229 yX2_partnerOf ∈ bg_T := bg_mT 585 rfl rfl
set_option maxRecDepth 20000 in
theorem lL_89 : Cond.methodLink RL 89 yX6_fault ∈ bg_T := bg_mT 589 rfl rfl
set_option maxRecDepth 20000 in
theorem lX6_238 : Cond.methodLink RX6 238 yX2_bedAheadOfFault ∈ bg_T := bg_mT 593 rfl rfl
set_option maxRecDepth 20000 in
theorem lX2_112 : Cond.methodLink RX2 112 yX2_hasFault ∈ bg_T := bg_mT 597 rfl rfl
set_option maxRecDepth 20000 in
theorem lX2_82 : Cond.methodLink RX2 82 yX2_hasThrow ∈ bg_T := bg_mT 601 rfl rfl
set_option maxRecDepth 20000 in
theorem lX2_76 : Cond.methodLink RX2 76 yX2_fateOf ∈ bg_T := bg_mT 605 rfl rfl
set_option maxRecDepth 20000 in
theorem lX2_79 : Cond.methodLink RX2 79 yX2_nextMatch ∈ bg_T := bg_mT 606 rfl rfl
set_option maxRecDepth 20000 in
theorem lX2_101 : Cond.methodLink RX2 101 yX2_throwBelow ∈ bg_T := bg_mT 610 rfl rfl
set_option maxRecDepth 20000 in
theorem lX2_86 : Cond.methodLink RX2 86 yX3_columnA ∈ bg_T := bg_mT 614 rfl rfl
set_option maxRecDepth 20000 in
theorem lX2_90 : Cond.methodLink RX2 90 yX0_depthOf ∈ bg_T := bg_mT 618 rfl rfl
set_option maxRecDepth 20000 in
theorem lX2_95 : Cond.methodLink RX2 95 yX3_columnB ∈ bg_T := bg_mT 619 rfl rfl
set_option maxRecDepth 20000 in
theorem lX2_98 : Cond.methodLink RX2 98 yX2_partnerOf ∈ bg_T := bg_mT 623 rfl rfl
set_option maxRecDepth 20000 in
theorem lX2_104 : Cond.methodLink RX2 104 Lib.Math.abs.name ∈ bg_T := bg_mT 624 rfl rfl
set_option maxRecDepth 20000 in
theorem lX6_241 : Cond.methodLink RX6 241 yX2_throwBelow ∈ bg_T := bg_mT 625 rfl rfl
set_option maxRecDepth 20000 in
theorem lX6_244 : Cond.methodLink RX6 244 yX2_reasonBelow ∈ bg_T := bg_mT 626 rfl rfl
set_option maxRecDepth 20000 in
theorem lX2_109 : Cond.methodLink RX2 109 Lib.Math.min.name ∈ bg_T := bg_mT 630 rfl rfl
set_option maxRecDepth 20000 in
theorem lL_92 : Cond.methodLink RL 92 yX6_matched ∈ bg_T := bg_mT 631 rfl rfl
set_option maxRecDepth 20000 in
theorem lX6_232 : Cond.methodLink RX6 232 yX2_countFates ∈ bg_T := bg_mT 635 rfl rfl
set_option maxRecDepth 20000 in
theorem lX6_235 : Cond.methodLink RX6 235 yX2_faultCount ∈ bg_T := bg_mT 639 rfl rfl
set_option maxRecDepth 20000 in
theorem lL_95 : Cond.methodLink RL 95 yX6_sumOfThrows ∈ bg_T := bg_mT 643 rfl rfl
set_option maxRecDepth 20000 in
theorem lX6_247 : Cond.methodLink RX6 247 yX2_nextMatch ∈ bg_T := bg_mT 647 rfl rfl
set_option maxRecDepth 20000 in
theorem lX6_250 : Cond.methodLink RX6 250 yX2_totalThrow ∈ bg_T := bg_mT 648 rfl rfl
set_option maxRecDepth 20000 in
theorem lX6_254 : Cond.methodLink RX6 254 yX2_changeOfElevations ∈ bg_T := bg_mT 652 rfl rfl
set_option maxRecDepth 20000 in
theorem lX2_115 : Cond.methodLink RX2 115 yX2_differenceOfElevations ∈ bg_T := bg_mT 656 rfl rfl
set_option maxRecDepth 20000 in
theorem lX2_118 : Cond.methodLink RX2 118 yX0_elevationOf ∈ bg_T := bg_mT 660 rfl rfl
set_option maxRecDepth 20000 in
theorem jI_ini : Cond.initialized "java/lang/Integer" ∈ bg_T := bg_mT 21 rfl rfl
set_option maxRecDepth 20000 in
theorem jA_ini : Cond.initialized "java/lang/System" ∈ bg_T := bg_mT 22 rfl rfl
set_option maxRecDepth 20000 in
theorem jM_ini : Cond.initialized "java/lang/Math" ∈ bg_T := bg_mT 23 rfl rfl
set_option maxRecDepth 20000 in
theorem qL_43 : Cond.classLink RL 43 RX6 ∈ bg_T := bg_mT 24 rfl rfl
set_option maxRecDepth 20000 in
theorem qI_RX6 : Cond.instantiable RX6 9 ∈ bg_T := bg_mT 25 rfl rfl
set_option maxRecDepth 20000 in
theorem jO_inst : Cond.instanceMethod Lib.objectInit ∈ bg_T := bg_mT 30 rfl rfl
set_option maxRecDepth 20000 in
theorem jO_code : Cond.code Lib.objectInit ⟨#[0xb1]⟩ 1 none ∈ bg_T := bg_mT 31 rfl rfl
set_option maxRecDepth 20000 in
theorem qX6_7 : Cond.classLink RX6 7 RX4 ∈ bg_T := bg_mT 32 rfl rfl
set_option maxRecDepth 20000 in
theorem qI_RX4 : Cond.instantiable RX4 4 ∈ bg_T := bg_mT 33 rfl rfl
set_option maxRecDepth 20000 in
theorem qX4_22 : Cond.classLink RX4 22 RX0 ∈ bg_T := bg_mT 40 rfl rfl
set_option maxRecDepth 20000 in
theorem qI_RX0 : Cond.instantiable RX0 4 ∈ bg_T := bg_mT 42 rfl rfl
set_option maxRecDepth 20000 in
theorem qA_int : Cond.arrayClass .int ∈ bg_T := bg_mT 60 rfl rfl
set_option maxRecDepth 20000 in
theorem qX6_16 : Cond.classLink RX6 16 RX1 ∈ bg_T := bg_mT 74 rfl rfl
set_option maxRecDepth 20000 in
theorem qI_RX1 : Cond.instantiable RX1 3 ∈ bg_T := bg_mT 75 rfl rfl
set_option maxRecDepth 20000 in
theorem qX1_9 : Cond.classLink RX1 9 RX4 ∈ bg_T := bg_mT 80 rfl rfl
set_option maxRecDepth 20000 in
theorem qX6_31 : Cond.classLink RX6 31 RX5 ∈ bg_T := bg_mT 93 rfl rfl
set_option maxRecDepth 20000 in
theorem qI_RX5 : Cond.instantiable RX5 5 ∈ bg_T := bg_mT 94 rfl rfl
set_option maxRecDepth 20000 in
theorem qX5_25 : Cond.classLink RX5 25 RX0 ∈ bg_T := bg_mT 99 rfl rfl
set_option maxRecDepth 20000 in
theorem qX6_38 : Cond.classLink RX6 38 RX0 ∈ bg_T := bg_mT 117 rfl rfl
set_option maxRecDepth 20000 in
theorem qX6_45 : Cond.classLink RX6 45 RX2 ∈ bg_T := bg_mT 119 rfl rfl
set_option maxRecDepth 20000 in
theorem qI_RX2 : Cond.instantiable RX2 6 ∈ bg_T := bg_mT 120 rfl rfl
set_option maxRecDepth 20000 in
theorem qX2_9 : Cond.classLink RX2 9 RX3 ∈ bg_T := bg_mT 125 rfl rfl
set_option maxRecDepth 20000 in
theorem qI_RX3 : Cond.instantiable RX3 7 ∈ bg_T := bg_mT 126 rfl rfl
set_option maxRecDepth 20000 in
theorem qX3_9 : Cond.classLink RX3 9 RX0 ∈ bg_T := bg_mT 131 rfl rfl
set_option maxRecDepth 20000 in
theorem jA_stat : Cond.static arraycopyName ∈ bg_T := bg_mT 308 rfl rfl
set_option maxRecDepth 20000 in
theorem jA_nat : Cond.native arraycopyName ∈ bg_T := bg_mT 309 rfl rfl
set_option maxRecDepth 20000 in
theorem jM_stat_min : Cond.static Lib.Math.min.name ∈ bg_T := bg_mT 320 rfl rfl
set_option maxRecDepth 20000 in
theorem jM_code_min : Cond.code Lib.Math.min.name Lib.Math.min.code 2 (some .int) ∈ bg_T := bg_mT 321 rfl rfl
set_option maxRecDepth 20000 in
theorem jM_stat_max : Cond.static Lib.Math.max.name ∈ bg_T := bg_mT 380 rfl rfl
set_option maxRecDepth 20000 in
theorem jM_code_max : Cond.code Lib.Math.max.name Lib.Math.max.code 2 (some .int) ∈ bg_T := bg_mT 381 rfl rfl
set_option maxRecDepth 20000 in
theorem jM_stat_abs : Cond.static Lib.Math.abs.name ∈ bg_T := bg_mT 517 rfl rfl
set_option maxRecDepth 20000 in
theorem jM_code_abs : Cond.code Lib.Math.abs.name Lib.Math.abs.code 1 (some .int) ∈ bg_T := bg_mT 518 rfl rfl
theorem hX4_15 : (Jvm.Cond.fieldLinkNest "BoreholeColumns$State" (15 : Nat) "BoreholeColumns" "FIRST_NUMBERS" "[I" "BoreholeColumns") ∈ bg_NW := by decide +kernel
theorem hX4_42 : (Jvm.Cond.methodLinkNest "BoreholeColumns$State" (42 : Nat) ({ cls := "BoreholeColumns", name := "isHole", desc := "(I)Z" } : Jvm.MethodName) "BoreholeColumns") ∈ bg_NW := by decide +kernel
theorem hX4_32 : (Jvm.Cond.methodLinkNest "BoreholeColumns$State" (32 : Nat) ({ cls := "BoreholeColumns", name := "isMark", desc := "(I)Z" } : Jvm.MethodName) "BoreholeColumns") ∈ bg_NW := by decide +kernel
theorem hX3_74 : (Jvm.Cond.methodLinkNest "BoreholeColumns$Pair" (74 : Nat) ({ cls := "BoreholeColumns", name := "isMark", desc := "(I)Z" } : Jvm.MethodName) "BoreholeColumns") ∈ bg_NW := by decide +kernel
