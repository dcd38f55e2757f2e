theorem qz439 : Cond.methodLink RX8 3 objectInit ∈ TB := tb_of (List.mem_append_right _ (List.mem_append_right _ (List.mem_append_left _ (List.mem_of_getElem? (i := 199) rfl)))) (by decide +kernel)
theorem qz32 : Cond.instanceMethod objectInit ∈ TB := tb_of (List.mem_append_right _ (List.mem_append_left _ (List.mem_of_getElem? (i := 32) rfl))) (by decide +kernel)
theorem qz33 : Cond.code objectInit ⟨#[0xb1]⟩ 1 none ∈ TB := tb_of (List.mem_append_right _ (List.mem_append_left _ (List.mem_of_getElem? (i := 33) rfl))) (by decide +kernel)
theorem qz440 : Cond.fieldLink RX8 9 "WellPromises$Sentence" "kinds" "[I" ∈ TB := tb_of (List.mem_append_right _ (List.mem_append_right _ (List.mem_append_left _ (List.mem_of_getElem? (i := 200) rfl)))) (by decide +kernel)
theorem qz441 : Cond.fieldLink RX8 15 "WellPromises$Sentence" "signs" "[I" ∈ TB := tb_of (List.mem_append_right _ (List.mem_append_right _ (List.mem_append_left _ (List.mem_of_getElem? (i := 201) rfl)))) (by decide +kernel)
theorem qz442 : Cond.fieldLink RX8 18 "WellPromises$Sentence" "numbers" "[I" ∈ TB := tb_of (List.mem_append_right _ (List.mem_append_right _ (List.mem_append_left _ (List.mem_of_getElem? (i := 202) rfl)))) (by decide +kernel)
theorem qz443 : Cond.fieldLink RX8 21 "WellPromises$Sentence" "length" "I" ∈ TB := tb_of (List.mem_append_right _ (List.mem_append_right _ (List.mem_append_left _ (List.mem_of_getElem? (i := 203) rfl)))) (by decide +kernel)
theorem qz445 : Cond.fieldLink RX8 25 "WellPromises$Sentence" "ones" "I" ∈ TB := tb_of (List.mem_append_right _ (List.mem_append_right _ (List.mem_append_left _ (List.mem_of_getElem? (i := 205) rfl)))) (by decide +kernel)
theorem qz150 : Cond.methodLink RX2 3 objectInit ∈ TB := tb_of (List.mem_append_right _ (List.mem_append_left _ (List.mem_of_getElem? (i := 150) rfl))) (by decide +kernel)
theorem qz151 : Cond.fieldLink RX2 9 "WellPromises$House" "hours" "I" ∈ TB := tb_of (List.mem_append_right _ (List.mem_append_left _ (List.mem_of_getElem? (i := 151) rfl))) (by decide +kernel)
theorem qz157 : Cond.fieldLink RX2 15 "WellPromises$House" "places" "I" ∈ TB := tb_of (List.mem_append_right _ (List.mem_append_left _ (List.mem_of_getElem? (i := 157) rfl))) (by decide +kernel)
theorem qz162 : Cond.fieldLink RX2 18 "WellPromises$House" "ways" "I" ∈ TB := tb_of (List.mem_append_right _ (List.mem_append_left _ (List.mem_of_getElem? (i := 162) rfl))) (by decide +kernel)
theorem qz165 : Cond.fieldLink RX2 21 "WellPromises$House" "frogs" "I" ∈ TB := tb_of (List.mem_append_right _ (List.mem_append_left _ (List.mem_of_getElem? (i := 165) rfl))) (by decide +kernel)
theorem qz169 : Cond.fieldLink RX2 24 "WellPromises$House" "persons" "I" ∈ TB := tb_of (List.mem_append_right _ (List.mem_append_left _ (List.mem_of_getElem? (i := 169) rfl))) (by decide +kernel)
theorem qz173 : Cond.fieldLink RX2 27 "WellPromises$House" "deeds" "I" ∈ TB := tb_of (List.mem_append_right _ (List.mem_append_left _ (List.mem_of_getElem? (i := 173) rfl))) (by decide +kernel)
theorem qz178 : Cond.fieldLink RX2 30 "WellPromises$House" "promises" "I" ∈ TB := tb_of (List.mem_append_right _ (List.mem_append_left _ (List.mem_of_getElem? (i := 178) rfl))) (by decide +kernel)
theorem qz185 : Cond.fieldLink RX2 33 "WellPromises$House" "vows" "I" ∈ TB := tb_of (List.mem_append_right _ (List.mem_append_left _ (List.mem_of_getElem? (i := 185) rfl))) (by decide +kernel)
theorem qz188 : Cond.fieldLink RX2 36 "WellPromises$House" "names" "I" ∈ TB := tb_of (List.mem_append_right _ (List.mem_append_left _ (List.mem_of_getElem? (i := 188) rfl))) (by decide +kernel)
theorem qz189 : Cond.fieldLink RX2 39 "WellPromises$House" "near" "[I" ∈ TB := tb_of (List.mem_append_right _ (List.mem_append_left _ (List.mem_of_getElem? (i := 189) rfl))) (by decide +kernel)
theorem qz190 : Cond.fieldLink RX2 43 "WellPromises$House" "frogAt" "[I" ∈ TB := tb_of (List.mem_append_right _ (List.mem_append_left _ (List.mem_of_getElem? (i := 190) rfl))) (by decide +kernel)
theorem qz193 : Cond.fieldLink RX2 46 "WellPromises$House" "homes" "[I" ∈ TB := tb_of (List.mem_append_right _ (List.mem_append_left _ (List.mem_of_getElem? (i := 193) rfl))) (by decide +kernel)
theorem qz195 : Cond.fieldLink RX2 49 "WellPromises$House" "terms" "[I" ∈ TB := tb_of (List.mem_append_right _ (List.mem_append_left _ (List.mem_of_getElem? (i := 195) rfl))) (by decide +kernel)
theorem qz196 : Cond.fieldLink RX2 52 "WellPromises$House" "vowed" "[I" ∈ TB := tb_of (List.mem_append_right _ (List.mem_append_left _ (List.mem_of_getElem? (i := 196) rfl))) (by decide +kernel)
theorem qz197 : Cond.fieldLink RX2 55 "WellPromises$House" "nameWords" "[J" ∈ TB := tb_of (List.mem_append_right _ (List.mem_append_left _ (List.mem_of_getElem? (i := 197) rfl))) (by decide +kernel)
theorem qz198 : Cond.fieldLink RX2 59 "WellPromises$House" "nameSorts" "[I" ∈ TB := tb_of (List.mem_append_right _ (List.mem_append_left _ (List.mem_of_getElem? (i := 198) rfl))) (by decide +kernel)
theorem qz200 : Cond.fieldLink RX2 62 "WellPromises$House" "nameNumbers" "[I" ∈ TB := tb_of (List.mem_append_right _ (List.mem_append_left _ (List.mem_of_getElem? (i := 200) rfl))) (by decide +kernel)
theorem qz243 : Cond.methodLink RX3 3 objectInit ∈ TB := tb_of (List.mem_append_right _ (List.mem_append_right _ (List.mem_append_left _ (List.mem_of_getElem? (i := 3) rfl)))) (by decide +kernel)
theorem qz246 : Cond.fieldLink RX3 9 "WellPromises$HouseReader" "told" "[I" ∈ TB := tb_of (List.mem_append_right _ (List.mem_append_right _ (List.mem_append_left _ (List.mem_of_getElem? (i := 6) rfl)))) (by decide +kernel)
theorem qz247 : Cond.fieldLink RX3 15 "WellPromises$HouseReader" "lines" "I" ∈ TB := tb_of (List.mem_append_right _ (List.mem_append_right _ (List.mem_append_left _ (List.mem_of_getElem? (i := 7) rfl)))) (by decide +kernel)
theorem qz249 : Cond.fieldLink RX3 19 "WellPromises$HouseReader" "hoursTold" "Z" ∈ TB := tb_of (List.mem_append_right _ (List.mem_append_right _ (List.mem_append_left _ (List.mem_of_getElem? (i := 9) rfl)))) (by decide +kernel)
theorem qz244 : Cond.fieldLink RX3 23 "WellPromises$HouseReader" "tape" "LWellPromises$Tape;" ∈ TB := tb_of (List.mem_append_right _ (List.mem_append_right _ (List.mem_append_left _ (List.mem_of_getElem? (i := 4) rfl)))) (by decide +kernel)
theorem qz245 : Cond.fieldLink RX3 27 "WellPromises$HouseReader" "house" "LWellPromises$House;" ∈ TB := tb_of (List.mem_append_right _ (List.mem_append_right _ (List.mem_append_left _ (List.mem_of_getElem? (i := 5) rfl)))) (by decide +kernel)
theorem qz382 : Cond.methodLink RX1 1 objectInit ∈ TB := tb_of (List.mem_append_right _ (List.mem_append_right _ (List.mem_append_left _ (List.mem_of_getElem? (i := 142) rfl)))) (by decide +kernel)
theorem qz385 : Cond.fieldLink RX1 7 "WellPromises$Dice" "x" "I" ∈ TB := tb_of (List.mem_append_right _ (List.mem_append_right _ (List.mem_append_left _ (List.mem_of_getElem? (i := 145) rfl)))) (by decide +kernel)
theorem qz383 : Cond.fieldLink RX1 13 "WellPromises$Dice" "house" "LWellPromises$House;" ∈ TB := tb_of (List.mem_append_right _ (List.mem_append_right _ (List.mem_append_left _ (List.mem_of_getElem? (i := 143) rfl)))) (by decide +kernel)
theorem qz384 : Cond.fieldLink RX1 17 "WellPromises$Dice" "life" "LWellPromises$Life;" ∈ TB := tb_of (List.mem_append_right _ (List.mem_append_right _ (List.mem_append_left _ (List.mem_of_getElem? (i := 144) rfl)))) (by decide +kernel)
theorem qz305 : Cond.methodLink RX5 3 objectInit ∈ TB := tb_of (List.mem_append_right _ (List.mem_append_right _ (List.mem_append_left _ (List.mem_of_getElem? (i := 65) rfl)))) (by decide +kernel)
theorem qz308 : Cond.fieldLink RX5 9 "WellPromises$Judge" "counts" "[I" ∈ TB := tb_of (List.mem_append_right _ (List.mem_append_right _ (List.mem_append_left _ (List.mem_of_getElem? (i := 68) rfl)))) (by decide +kernel)
theorem qz309 : Cond.fieldLink RX5 15 "WellPromises$Judge" "hoursOf" "[I" ∈ TB := tb_of (List.mem_append_right _ (List.mem_append_right _ (List.mem_append_left _ (List.mem_of_getElem? (i := 69) rfl)))) (by decide +kernel)
theorem qz310 : Cond.fieldLink RX5 18 "WellPromises$Judge" "offDays" "I" ∈ TB := tb_of (List.mem_append_right _ (List.mem_append_right _ (List.mem_append_left _ (List.mem_of_getElem? (i := 70) rfl)))) (by decide +kernel)
theorem qz311 : Cond.fieldLink RX5 22 "WellPromises$Judge" "last" "I" ∈ TB := tb_of (List.mem_append_right _ (List.mem_append_right _ (List.mem_append_left _ (List.mem_of_getElem? (i := 71) rfl)))) (by decide +kernel)
theorem qz312 : Cond.fieldLink RX5 25 "WellPromises$Judge" "due" "I" ∈ TB := tb_of (List.mem_append_right _ (List.mem_append_right _ (List.mem_append_left _ (List.mem_of_getElem? (i := 72) rfl)))) (by decide +kernel)
theorem qz306 : Cond.fieldLink RX5 28 "WellPromises$Judge" "house" "LWellPromises$House;" ∈ TB := tb_of (List.mem_append_right _ (List.mem_append_right _ (List.mem_append_left _ (List.mem_of_getElem? (i := 66) rfl)))) (by decide +kernel)
theorem qz307 : Cond.fieldLink RX5 32 "WellPromises$Judge" "life" "LWellPromises$Life;" ∈ TB := tb_of (List.mem_append_right _ (List.mem_append_right _ (List.mem_append_left _ (List.mem_of_getElem? (i := 67) rfl)))) (by decide +kernel)
theorem qz398 : Cond.methodLink RX0 3 objectInit ∈ TB := tb_of (List.mem_append_right _ (List.mem_append_right _ (List.mem_append_left _ (List.mem_of_getElem? (i := 158) rfl)))) (by decide +kernel)
theorem qz402 : Cond.fieldLink RX0 9 "WellPromises$Daybook" "who" "[I" ∈ TB := tb_of (List.mem_append_right _ (List.mem_append_right _ (List.mem_append_left _ (List.mem_of_getElem? (i := 162) rfl)))) (by decide +kernel)
theorem qz403 : Cond.fieldLink RX0 15 "WellPromises$Daybook" "verb" "[I" ∈ TB := tb_of (List.mem_append_right _ (List.mem_append_right _ (List.mem_append_left _ (List.mem_of_getElem? (i := 163) rfl)))) (by decide +kernel)
theorem qz404 : Cond.fieldLink RX0 18 "WellPromises$Daybook" "what" "[I" ∈ TB := tb_of (List.mem_append_right _ (List.mem_append_right _ (List.mem_append_left _ (List.mem_of_getElem? (i := 164) rfl)))) (by decide +kernel)
theorem qz405 : Cond.fieldLink RX0 21 "WellPromises$Daybook" "lines" "I" ∈ TB := tb_of (List.mem_append_right _ (List.mem_append_right _ (List.mem_append_left _ (List.mem_of_getElem? (i := 165) rfl)))) (by decide +kernel)
theorem qz407 : Cond.fieldLink RX0 25 "WellPromises$Daybook" "why" "I" ∈ TB := tb_of (List.mem_append_right _ (List.mem_append_right _ (List.mem_append_left _ (List.mem_of_getElem? (i := 167) rfl)))) (by decide +kernel)
theorem qz409 : Cond.fieldLink RX0 28 "WellPromises$Daybook" "good" "I" ∈ TB := tb_of (List.mem_append_right _ (List.mem_append_right _ (List.mem_append_left _ (List.mem_of_getElem? (i := 169) rfl)))) (by decide +kernel)
theorem qz411 : Cond.fieldLink RX0 31 "WellPromises$Daybook" "then" "I" ∈ TB := tb_of (List.mem_append_right _ (List.mem_append_right _ (List.mem_append_left _ (List.mem_of_getElem? (i := 171) rfl)))) (by decide +kernel)
theorem qz399 : Cond.fieldLink RX0 34 "WellPromises$Daybook" "tape" "LWellPromises$Tape;" ∈ TB := tb_of (List.mem_append_right _ (List.mem_append_right _ (List.mem_append_left _ (List.mem_of_getElem? (i := 159) rfl)))) (by decide +kernel)
theorem qz400 : Cond.fieldLink RX0 38 "WellPromises$Daybook" "house" "LWellPromises$House;" ∈ TB := tb_of (List.mem_append_right _ (List.mem_append_right _ (List.mem_append_left _ (List.mem_of_getElem? (i := 160) rfl)))) (by decide +kernel)
theorem qz401 : Cond.fieldLink RX0 42 "WellPromises$Daybook" "life" "LWellPromises$Life;" ∈ TB := tb_of (List.mem_append_right _ (List.mem_append_right _ (List.mem_append_left _ (List.mem_of_getElem? (i := 161) rfl)))) (by decide +kernel)
theorem qz464 : Cond.methodLink RX9 3 objectInit ∈ TB := tb_of (List.mem_append_right _ (List.mem_append_right _ (List.mem_append_left _ (List.mem_of_getElem? (i := 224) rfl)))) (by decide +kernel)
theorem qz465 : Cond.fieldLink RX9 9 "WellPromises$SentenceReader" "tape" "LWellPromises$Tape;" ∈ TB := tb_of (List.mem_append_right _ (List.mem_append_right _ (List.mem_append_left _ (List.mem_of_getElem? (i := 225) rfl)))) (by decide +kernel)
theorem qz466 : Cond.fieldLink RX9 15 "WellPromises$SentenceReader" "house" "LWellPromises$House;" ∈ TB := tb_of (List.mem_append_right _ (List.mem_append_right _ (List.mem_append_left _ (List.mem_of_getElem? (i := 226) rfl)))) (by decide +kernel)
theorem qz467 : Cond.fieldLink RX9 19 "WellPromises$SentenceReader" "words" "LWellPromises$Sentence;" ∈ TB := tb_of (List.mem_append_right _ (List.mem_append_right _ (List.mem_append_left _ (List.mem_of_getElem? (i := 227) rfl)))) (by decide +kernel)
theorem qz333 : Cond.methodLink RX7 3 objectInit ∈ TB := tb_of (List.mem_append_right _ (List.mem_append_right _ (List.mem_append_left _ (List.mem_of_getElem? (i := 93) rfl)))) (by decide +kernel)
theorem qz337 : Cond.fieldLink RX7 9 "WellPromises$Planner" "dueOnes" "[I" ∈ TB := tb_of (List.mem_append_right _ (List.mem_append_right _ (List.mem_append_left _ (List.mem_of_getElem? (i := 97) rfl)))) (by decide +kernel)
theorem qz338 : Cond.fieldLink RX7 15 "WellPromises$Planner" "dueTimes" "[I" ∈ TB := tb_of (List.mem_append_right _ (List.mem_append_right _ (List.mem_append_left _ (List.mem_of_getElem? (i := 98) rfl)))) (by decide +kernel)
theorem qz339 : Cond.fieldLink RX7 18 "WellPromises$Planner" "states" "[I" ∈ TB := tb_of (List.mem_append_right _ (List.mem_append_right _ (List.mem_append_left _ (List.mem_of_getElem? (i := 99) rfl)))) (by decide +kernel)
theorem qz340 : Cond.fieldLink RX7 21 "WellPromises$Planner" "steps" "[I" ∈ TB := tb_of (List.mem_append_right _ (List.mem_append_right _ (List.mem_append_left _ (List.mem_of_getElem? (i := 100) rfl)))) (by decide +kernel)
theorem qz341 : Cond.fieldLink RX7 24 "WellPromises$Planner" "fewest" "[B" ∈ TB := tb_of (List.mem_append_right _ (List.mem_append_right _ (List.mem_append_left _ (List.mem_of_getElem? (i := 101) rfl)))) (by decide +kernel)
theorem qz342 : Cond.fieldLink RX7 28 "WellPromises$Planner" "dueCount" "I" ∈ TB := tb_of (List.mem_append_right _ (List.mem_append_right _ (List.mem_append_left _ (List.mem_of_getElem? (i := 102) rfl)))) (by decide +kernel)
theorem qz343 : Cond.fieldLink RX7 32 "WellPromises$Planner" "stateCount" "I" ∈ TB := tb_of (List.mem_append_right _ (List.mem_append_right _ (List.mem_append_left _ (List.mem_of_getElem? (i := 103) rfl)))) (by decide +kernel)
theorem qz344 : Cond.fieldLink RX7 35 "WellPromises$Planner" "person" "I" ∈ TB := tb_of (List.mem_append_right _ (List.mem_append_right _ (List.mem_append_left _ (List.mem_of_getElem? (i := 104) rfl)))) (by decide +kernel)
theorem qz345 : Cond.fieldLink RX7 38 "WellPromises$Planner" "start" "I" ∈ TB := tb_of (List.mem_append_right _ (List.mem_append_right _ (List.mem_append_left _ (List.mem_of_getElem? (i := 105) rfl)))) (by decide +kernel)
theorem qz346 : Cond.fieldLink RX7 41 "WellPromises$Planner" "stepFrom" "I" ∈ TB := tb_of (List.mem_append_right _ (List.mem_append_right _ (List.mem_append_left _ (List.mem_of_getElem? (i := 106) rfl)))) (by decide +kernel)
theorem qz347 : Cond.fieldLink RX7 44 "WellPromises$Planner" "stepEnd" "I" ∈ TB := tb_of (List.mem_append_right _ (List.mem_append_right _ (List.mem_append_left _ (List.mem_of_getElem? (i := 107) rfl)))) (by decide +kernel)
theorem qz334 : Cond.fieldLink RX7 47 "WellPromises$Planner" "house" "LWellPromises$House;" ∈ TB := tb_of (List.mem_append_right _ (List.mem_append_right _ (List.mem_append_left _ (List.mem_of_getElem? (i := 94) rfl)))) (by decide +kernel)
theorem qz335 : Cond.fieldLink RX7 51 "WellPromises$Planner" "life" "LWellPromises$Life;" ∈ TB := tb_of (List.mem_append_right _ (List.mem_append_right _ (List.mem_append_left _ (List.mem_of_getElem? (i := 95) rfl)))) (by decide +kernel)
theorem qz336 : Cond.fieldLink RX7 55 "WellPromises$Planner" "judge" "LWellPromises$Judge;" ∈ TB := tb_of (List.mem_append_right _ (List.mem_append_right _ (List.mem_append_left _ (List.mem_of_getElem? (i := 96) rfl)))) (by decide +kernel)
theorem qz481 : Cond.methodLink RX4 3 objectInit ∈ TB := tb_of (List.mem_append_right _ (List.mem_append_right _ (List.mem_append_right _ (List.mem_append_left _ (List.mem_of_getElem? (i := 1) rfl))))) (by decide +kernel)
theorem qz146 : Cond.instantiable RX2 17 ∈ TB := tb_of (List.mem_append_right _ (List.mem_append_left _ (List.mem_of_getElem? (i := 146) rfl))) (by decide +kernel)
theorem qz482 : Cond.classLink RX4 9 RX2 ∈ TB := tb_of (List.mem_append_right _ (List.mem_append_right _ (List.mem_append_right _ (List.mem_append_left _ (List.mem_of_getElem? (i := 2) rfl))))) (by decide +kernel)
theorem qz7 : Cond.initialized RX2 ∈ TB := tb_of (List.mem_append_right _ (List.mem_append_left _ (List.mem_of_getElem? (i := 7) rfl))) (by decide +kernel)
theorem qz149 : Cond.code yX2_init cX2_init 1 none ∈ TB := tb_of (List.mem_append_right _ (List.mem_append_left _ (List.mem_of_getElem? (i := 149) rfl))) (by decide +kernel)
theorem qz148 : Cond.instanceMethod yX2_init ∈ TB := tb_of (List.mem_append_right _ (List.mem_append_left _ (List.mem_of_getElem? (i := 148) rfl))) (by decide +kernel)
theorem qz486 : Cond.fieldLink RX4 12 "WellPromises$Image" "house" "LWellPromises$House;" ∈ TB := tb_of (List.mem_append_right _ (List.mem_append_right _ (List.mem_append_right _ (List.mem_append_left _ (List.mem_of_getElem? (i := 6) rfl))))) (by decide +kernel)
theorem qz435 : Cond.instantiable RX8 5 ∈ TB := tb_of (List.mem_append_right _ (List.mem_append_right _ (List.mem_append_left _ (List.mem_of_getElem? (i := 195) rfl)))) (by decide +kernel)
theorem qz484 : Cond.classLink RX4 18 RX8 ∈ TB := tb_of (List.mem_append_right _ (List.mem_append_right _ (List.mem_append_right _ (List.mem_append_left _ (List.mem_of_getElem? (i := 4) rfl))))) (by decide +kernel)
theorem qz14 : Cond.initialized RX8 ∈ TB := tb_of (List.mem_append_right _ (List.mem_append_left _ (List.mem_of_getElem? (i := 14) rfl))) (by decide +kernel)
theorem qz438 : Cond.code yX8_init cX8_init 1 none ∈ TB := tb_of (List.mem_append_right _ (List.mem_append_right _ (List.mem_append_left _ (List.mem_of_getElem? (i := 198) rfl)))) (by decide +kernel)
theorem qz437 : Cond.instanceMethod yX8_init ∈ TB := tb_of (List.mem_append_right _ (List.mem_append_right _ (List.mem_append_left _ (List.mem_of_getElem? (i := 197) rfl)))) (by decide +kernel)
theorem qz487 : Cond.fieldLink RX4 21 "WellPromises$Image" "words" "LWellPromises$Sentence;" ∈ TB := tb_of (List.mem_append_right _ (List.mem_append_right _ (List.mem_append_right _ (List.mem_append_left _ (List.mem_of_getElem? (i := 7) rfl))))) (by decide +kernel)
theorem qz488 : Cond.fieldLink RX4 25 "WellPromises$Image" "so" "[I" ∈ TB := tb_of (List.mem_append_right _ (List.mem_append_right _ (List.mem_append_right _ (List.mem_append_left _ (List.mem_of_getElem? (i := 8) rfl))))) (by decide +kernel)
theorem qz489 : Cond.fieldLink RX4 29 "WellPromises$Image" "marks" "[I" ∈ TB := tb_of (List.mem_append_right _ (List.mem_append_right _ (List.mem_append_right _ (List.mem_append_left _ (List.mem_of_getElem? (i := 9) rfl))))) (by decide +kernel)
theorem qz490 : Cond.fieldLink RX4 32 "WellPromises$Image" "taken" "Z" ∈ TB := tb_of (List.mem_append_right _ (List.mem_append_right _ (List.mem_append_right _ (List.mem_append_left _ (List.mem_of_getElem? (i := 10) rfl))))) (by decide +kernel)
theorem zf_X8 : ∀ j, j < 5 → defaultValue (tyX8 j) = vp_V [.null, .null, .null, .int 0, .int 0] j := by
  intro j hj
  rcases (show j = 0 ∨ j = 1 ∨ j = 2 ∨ j = 3 ∨ j = 4 by omega) with rfl | rfl | rfl | rfl | rfl <;> rfl
theorem zf_X2 : ∀ j, j < 17 → defaultValue (tyX2 j) = vp_V [.int 0, .int 0, .int 0, .int 0, .int 0, .int 0, .int 0, .int 0, .int 0, .null, .null, .null, .null, .null, .null, .null, .null] j := by
  intro j hj
  rcases (show j = 0 ∨ j = 1 ∨ j = 2 ∨ j = 3 ∨ j = 4 ∨ j = 5 ∨ j = 6 ∨ j = 7 ∨ j = 8 ∨ j = 9 ∨ j = 10 ∨ j = 11 ∨ j = 12 ∨ j = 13 ∨ j = 14 ∨ j = 15 ∨ j = 16 by omega) with rfl | rfl | rfl | rfl | rfl | rfl | rfl | rfl | rfl | rfl | rfl | rfl | rfl | rfl | rfl | rfl | rfl <;> rfl
theorem zf_X3 : ∀ j, j < 5 → defaultValue (tyX3 j) = vp_V [.null, .null, .null, .int 0, .int 0] j := by
  intro j hj
  rcases (show j = 0 ∨ j = 1 ∨ j = 2 ∨ j = 3 ∨ j = 4 by omega) with rfl | rfl | rfl | rfl | rfl <;> rfl
theorem zf_X1 : ∀ j, j < 3 → defaultValue (tyX1 j) = vp_V [.null, .null, .int 0] j := by
  intro j hj
  rcases (show j = 0 ∨ j = 1 ∨ j = 2 by omega) with rfl | rfl | rfl <;> rfl
theorem zf_X5 : ∀ j, j < 7 → defaultValue (tyX5 j) = vp_V [.null, .null, .null, .null, .int 0, .int 0, .int 0] j := by
  intro j hj
  rcases (show j = 0 ∨ j = 1 ∨ j = 2 ∨ j = 3 ∨ j = 4 ∨ j = 5 ∨ j = 6 by omega) with rfl | rfl | rfl | rfl | rfl | rfl | rfl <;> rfl
theorem zf_X0 : ∀ j, j < 10 → defaultValue (tyX0 j) = vp_V [.null, .null, .null, .null, .null, .null, .int 0, .int 0, .int 0, .int 0] j := by
  intro j hj
  rcases (show j = 0 ∨ j = 1 ∨ j = 2 ∨ j = 3 ∨ j = 4 ∨ j = 5 ∨ j = 6 ∨ j = 7 ∨ j = 8 ∨ j = 9 by omega) with rfl | rfl | rfl | rfl | rfl | rfl | rfl | rfl | rfl | rfl <;> rfl
theorem zf_X9 : ∀ j, j < 3 → defaultValue (tyX9 j) = vp_V [.null, .null, .null] j := by
  intro j hj
  rcases (show j = 0 ∨ j = 1 ∨ j = 2 by omega) with rfl | rfl | rfl <;> rfl
theorem zf_X7 : ∀ j, j < 14 → defaultValue (tyX7 j) = vp_V [.null, .null, .null, .null, .null, .null, .null, .null, .int 0, .int 0, .int 0, .int 0, .int 0, .int 0] j := by
  intro j hj
  rcases (show j = 0 ∨ j = 1 ∨ j = 2 ∨ j = 3 ∨ j = 4 ∨ j = 5 ∨ j = 6 ∨ j = 7 ∨ j = 8 ∨ j = 9 ∨ j = 10 ∨ j = 11 ∨ j = 12 ∨ j = 13 by omega) with rfl | rfl | rfl | rfl | rfl | rfl | rfl | rfl | rfl | rfl | rfl | rfl | rfl | rfl <;> rfl
theorem zf_X10 : ∀ j, j < 12 → defaultValue (tyX10 j) = vp_V [.null, .null, .int 0, .int 0, .int 0, .int 0, .int 0, .long 0, .int 0, .int 0, .int 0, .int 0] j := by
  intro j hj
  rcases (show j = 0 ∨ j = 1 ∨ j = 2 ∨ j = 3 ∨ j = 4 ∨ j = 5 ∨ j = 6 ∨ j = 7 ∨ j = 8 ∨ j = 9 ∨ j = 10 ∨ j = 11 by omega) with rfl | rfl | rfl | rfl | rfl | rfl | rfl | rfl | rfl | rfl | rfl | rfl <;> rfl
theorem zf_X6 : ∀ j, j < 7 → defaultValue (tyX6 j) = vp_V [.null, .null, .null, .null, .null, .int 0, .int 0] j := by
  intro j hj
  rcases (show j = 0 ∨ j = 1 ∨ j = 2 ∨ j = 3 ∨ j = 4 ∨ j = 5 ∨ j = 6 by omega) with rfl | rfl | rfl | rfl | rfl | rfl | rfl <;> rfl
theorem zf_X4 : ∀ j, j < 5 → defaultValue (tyX4 j) = vp_V [.null, .null, .null, .null, .int 0] j := by
  intro j hj
  rcases (show j = 0 ∨ j = 1 ∨ j = 2 ∨ j = 3 ∨ j = 4 by omega) with rfl | rfl | rfl | rfl | rfl <;> rfl
theorem zf_X11 : ∀ j, j < 15 → defaultValue (tyX11 j) = vp_V [.null, .null, .null, .null, .null, .null, .null, .null, .null, .null, .null, .null, .null, .int 0, .int 0] j := by
  intro j hj
  rcases (show j = 0 ∨ j = 1 ∨ j = 2 ∨ j = 3 ∨ j = 4 ∨ j = 5 ∨ j = 6 ∨ j = 7 ∨ j = 8 ∨ j = 9 ∨ j = 10 ∨ j = 11 ∨ j = 12 ∨ j = 13 ∨ j = 14 by omega) with rfl | rfl | rfl | rfl | rfl | rfl | rfl | rfl | rfl | rfl | rfl | rfl | rfl | rfl | rfl <;> rfl
theorem zf_X12 : ∀ j, j < 48 → defaultValue (tyX12 j) = vp_V [.int 0, .null, .int 0, .int 0, .int 0, .int 0, .null, .null, .null, .null, .null, .int 0, .int 0, .int 0, .int 0, .int 0, .int 0, .long 0, .int 0, .int 0, .int 0, .null, .null, .null, .int 0, .null, .null, .null, .int 0, .int 0, .int 0, .null, .int 0, .int 0, .int 0, .int 0, .null, .int 0, .null, .int 0, .int 0, .int 0, .int 0, .int 0, .null, .null, .null, .null] j := by
  intro j hj
  rcases (show j = 0 ∨ j = 1 ∨ j = 2 ∨ j = 3 ∨ j = 4 ∨ j = 5 ∨ j = 6 ∨ j = 7 ∨ j = 8 ∨ j = 9 ∨ j = 10 ∨ j = 11 ∨ j = 12 ∨ j = 13 ∨ j = 14 ∨ j = 15 ∨ j = 16 ∨ j = 17 ∨ j = 18 ∨ j = 19 ∨ j = 20 ∨ j = 21 ∨ j = 22 ∨ j = 23 ∨ j = 24 ∨ j = 25 ∨ j = 26 ∨ j = 27 ∨ j = 28 ∨ j = 29 ∨ j = 30 ∨ j = 31 ∨ j = 32 ∨ j = 33 ∨ j = 34 ∨ j = 35 ∨ j = 36 ∨ j = 37 ∨ j = 38 ∨ j = 39 ∨ j = 40 ∨ j = 41 ∨ j = 42 ∨ j = 43 ∨ j = 44 ∨ j = 45 ∨ j = 46 ∨ j = 47 by omega) with rfl | rfl | rfl | rfl | rfl | rfl | rfl | rfl | rfl | rfl | rfl | rfl | rfl | rfl | rfl | rfl | rfl | rfl | rfl | rfl | rfl | rfl | rfl | rfl | rfl | rfl | rfl | rfl | rfl | rfl | rfl | rfl | rfl | rfl | rfl | rfl | rfl | rfl | rfl | rfl | rfl | rfl | rfl | rfl | rfl | rfl | rfl | rfl <;> rfl
def w_X8_init (cA : Nat → ClassId) (a : Nat) (q : Nat → Nat) : va_W := (a, .inr (8, [.ref (q 0), .ref (q 1), .ref (q 2), .int (0 : Int32), .int (0 : Int32)])) :: (([(q 0, aI cA 40)] ++ [(q 1, aI cA 40)]) ++ [(q 2, aI cA 40)])
set_option maxHeartbeats 1000000 in
set_option maxRecDepth 100000 in
theorem t_X8_init (l : Launch) (dC : Nat → ClassId) (dI : Nat → Nat → Nat) (cA : Nat → ClassId) (a : Nat) : ct_M l yX8_init (.code yX8_init cX8_init 1 none :: TB) 2 3 120 (dC, dI) cA (fun _ _ => True) [.ref a] [(a, .inr (8, [.null, .null, .null, .int 0, .int 0]))] (w_X8_init cA a) := by
  refine ct_M.of (cc := cX8_init) (maxL := 1) (by decide) rfl (Nat.le_of_ble_eq_true rfl) ?_
  intro p e s m below meth c A ls F hml hr hlocks hin _ hA hP hD hS hl
  have F : ac_X p s m [.ref a].toArray c cX8_init RX8 TB (dC, dI) vwCl (ac_ty cA) := ⟨F.1, F.2.1, fun w h => F.2.2.1 w (List.mem_cons_of_mem _ h), F.2.2.2.1, F.2.2.2.2⟩
  have hl : lv_has ls 1 [(0, .ref a)] := hl
  refine lv_aload_n F.1 F.2.1 dX8_init_0 rfl (lv_at hl 0 rfl) ?_
  refine ct_obj F hml hl.1 qz439 qz32 qz33 dX8_init_1 (Nat.le_of_ble_eq_true rfl) (Nat.le_of_ble_eq_true rfl) ?_
  refine lv_aload_n F.1 F.2.1 dX8_init_4 rfl (lv_at hl 0 rfl) ?_
  refine a_bp F (40 : Int32) dX8_init_5 (by decide) ?_
  refine ct_newI F hA hP hD hS 40 (by decide) (by decide) (Nat.le_of_ble_eq_true rfl) (Nat.le_of_ble_eq_true rfl) (Nat.le_of_ble_eq_true rfl) dX8_init_7 (fun q1 H hP hD hS => ?_)
  have hP : va_P (dC, dI) vwCl ((a, .inr (8, [.null, .null, .null, .int 0, .int 0])) :: [(q1, aI cA 40)]) H := hP
  have hD : va_D A ((a, .inr (8, [.null, .null, .null, .int 0, .int 0])) :: [(q1, aI cA 40)]) := hD
  refine va_putF (ci := 8) (v := .ref q1) (C := RX8) (T := TX8) (N := 5) F.1 F.2.1 F.2.2.1 inX8 tyX8 tyX8_ok nmX8 F.2.2.2.1 F.2.2.2.2 hP hD hS 0 rfl rfl 0 (by decide) (F.2.2.1 _ qz440) (fun _ h9 => h9) rfl hin rfl (tyX8_ok 0 (by decide)) rfl rfl (Nat.le_of_ble_eq_true rfl) dX8_init_9 (fun H locs hP hD hS => ?_)
  have hP : va_P (dC, dI) vwCl ((a, .inr (8, [.ref q1, .null, .null, .int 0, .int 0])) :: [(q1, aI cA 40)]) H := hP
  have hD : va_D A ((a, .inr (8, [.ref q1, .null, .null, .int 0, .int 0])) :: [(q1, aI cA 40)]) := hD
  refine lv_aload_n F.1 F.2.1 dX8_init_12 rfl (lv_at hl 0 rfl) ?_
  refine a_bp F (40 : Int32) dX8_init_13 (by decide) ?_
  refine ct_newI F hA hP hD hS 40 (by decide) (by decide) (Nat.le_of_ble_eq_true rfl) (Nat.le_of_ble_eq_true rfl) (Nat.le_of_ble_eq_true rfl) dX8_init_15 (fun q2 H hP hD hS => ?_)
  have hP : va_P (dC, dI) vwCl ((a, .inr (8, [.ref q1, .null, .null, .int 0, .int 0])) :: ([(q1, aI cA 40)] ++ [(q2, aI cA 40)])) H := hP
  have hD : va_D A ((a, .inr (8, [.ref q1, .null, .null, .int 0, .int 0])) :: ([(q1, aI cA 40)] ++ [(q2, aI cA 40)])) := hD
  refine va_putF (ci := 8) (v := .ref q2) (C := RX8) (T := TX8) (N := 5) F.1 F.2.1 F.2.2.1 inX8 tyX8 tyX8_ok nmX8 F.2.2.2.1 F.2.2.2.2 hP hD hS 0 rfl rfl 1 (by decide) (F.2.2.1 _ qz441) (fun _ h9 => h9) rfl hin rfl (tyX8_ok 1 (by decide)) rfl rfl (Nat.le_of_ble_eq_true rfl) dX8_init_17 (fun H locs hP hD hS => ?_)
  have hP : va_P (dC, dI) vwCl ((a, .inr (8, [.ref q1, .ref q2, .null, .int 0, .int 0])) :: ([(q1, aI cA 40)] ++ [(q2, aI cA 40)])) H := hP
  have hD : va_D A ((a, .inr (8, [.ref q1, .ref q2, .null, .int 0, .int 0])) :: ([(q1, aI cA 40)] ++ [(q2, aI cA 40)])) := hD
  refine lv_aload_n F.1 F.2.1 dX8_init_20 rfl (lv_at hl 0 rfl) ?_
  refine a_bp F (40 : Int32) dX8_init_21 (by decide) ?_
  refine ct_newI F hA hP hD hS 40 (by decide) (by decide) (Nat.le_of_ble_eq_true rfl) (Nat.le_of_ble_eq_true rfl) (Nat.le_of_ble_eq_true rfl) dX8_init_23 (fun q3 H hP hD hS => ?_)
  have hP : va_P (dC, dI) vwCl ((a, .inr (8, [.ref q1, .ref q2, .null, .int 0, .int 0])) :: (([(q1, aI cA 40)] ++ [(q2, aI cA 40)]) ++ [(q3, aI cA 40)])) H := hP
  have hD : va_D A ((a, .inr (8, [.ref q1, .ref q2, .null, .int 0, .int 0])) :: (([(q1, aI cA 40)] ++ [(q2, aI cA 40)]) ++ [(q3, aI cA 40)])) := hD
  refine va_putF (ci := 8) (v := .ref q3) (C := RX8) (T := TX8) (N := 5) F.1 F.2.1 F.2.2.1 inX8 tyX8 tyX8_ok nmX8 F.2.2.2.1 F.2.2.2.2 hP hD hS 0 rfl rfl 2 (by decide) (F.2.2.1 _ qz442) (fun _ h9 => h9) rfl hin rfl (tyX8_ok 2 (by decide)) rfl rfl (Nat.le_of_ble_eq_true rfl) dX8_init_25 (fun H locs hP hD hS => ?_)
  have hP : va_P (dC, dI) vwCl ((a, .inr (8, [.ref q1, .ref q2, .ref q3, .int 0, .int 0])) :: (([(q1, aI cA 40)] ++ [(q2, aI cA 40)]) ++ [(q3, aI cA 40)])) H := hP
  have hD : va_D A ((a, .inr (8, [.ref q1, .ref q2, .ref q3, .int 0, .int 0])) :: (([(q1, aI cA 40)] ++ [(q2, aI cA 40)]) ++ [(q3, aI cA 40)])) := hD
  refine lv_aload_n F.1 F.2.1 dX8_init_28 rfl (lv_at hl 0 rfl) ?_
  refine a_ic F (0 : Int32) dX8_init_29 (by decide) ?_
  refine va_put (ci := 8) (v := .int (0 : Int32)) (C := RX8) (T := TX8) (N := 5) F.1 F.2.1 F.2.2.1 inX8 tyX8 tyX8_ok nmX8 F.2.2.2.1 F.2.2.2.2 hP hD hS 0 rfl rfl 3 (by decide) (F.2.2.1 _ qz443) (fun _ h9 => h9) rfl (tyX8_ok 3 (by decide)) rfl rfl (Nat.le_of_ble_eq_true rfl) dX8_init_30 (fun H locs hP hD hS => ?_)
  have hP : va_P (dC, dI) vwCl ((a, .inr (8, [.ref q1, .ref q2, .ref q3, .int (0 : Int32), .int 0])) :: (([(q1, aI cA 40)] ++ [(q2, aI cA 40)]) ++ [(q3, aI cA 40)])) H := hP
  have hD : va_D A ((a, .inr (8, [.ref q1, .ref q2, .ref q3, .int (0 : Int32), .int 0])) :: (([(q1, aI cA 40)] ++ [(q2, aI cA 40)]) ++ [(q3, aI cA 40)])) := hD
  refine lv_aload_n F.1 F.2.1 dX8_init_33 rfl (lv_at hl 0 rfl) ?_
  refine a_ic F (0 : Int32) dX8_init_34 (by decide) ?_
  refine va_put (ci := 8) (v := .int (0 : Int32)) (C := RX8) (T := TX8) (N := 5) F.1 F.2.1 F.2.2.1 inX8 tyX8 tyX8_ok nmX8 F.2.2.2.1 F.2.2.2.2 hP hD hS 0 rfl rfl 4 (by decide) (F.2.2.1 _ qz445) (fun _ h9 => h9) rfl (tyX8_ok 4 (by decide)) rfl rfl (Nat.le_of_ble_eq_true rfl) dX8_init_35 (fun H locs hP hD hS => ?_)
  have hP : va_P (dC, dI) vwCl ((a, .inr (8, [.ref q1, .ref q2, .ref q3, .int (0 : Int32), .int (0 : Int32)])) :: (([(q1, aI cA 40)] ++ [(q2, aI cA 40)]) ++ [(q3, aI cA 40)])) H := hP
  have hD : va_D A ((a, .inr (8, [.ref q1, .ref q2, .ref q3, .int (0 : Int32), .int (0 : Int32)])) :: (([(q1, aI cA 40)] ++ [(q2, aI cA 40)]) ++ [(q3, aI cA 40)])) := hD
  exact ct_ret (fun i => ([q1, q2, q3] : List Nat).getD i 0) F hr hlocks hP hD hS rfl (Nat.le_of_ble_eq_true rfl) (Nat.le_of_ble_eq_true rfl) dX8_init_38
def w_X2_init (cA : Nat → ClassId) (a : Nat) (q : Nat → Nat) : va_W := (a, .inr (2, [.int (24 : Int32), .int (0 : Int32), .int (0 : Int32), .int (0 : Int32), .int (0 : Int32), .int (0 : Int32), .int (0 : Int32), .int (0 : Int32), .int (0 : Int32), .ref (q 0), .ref (q 1), .ref (q 2), .ref (q 3), .ref (q 4), .ref (q 5), .ref (q 6), .ref (q 7)])) :: ((((((([(q 0, aI cA 8)] ++ [(q 1, aI cA 6)]) ++ [(q 2, aI cA 4)]) ++ [(q 3, aI cA 64)]) ++ [(q 4, aI cA 8)]) ++ [(q 5, aL cA 26)]) ++ [(q 6, aI cA 26)]) ++ [(q 7, aI cA 26)])
set_option maxHeartbeats 1000000 in
set_option maxRecDepth 100000 in
theorem t_X2_init (l : Launch) (dC : Nat → ClassId) (dI : Nat → Nat → Nat) (cA : Nat → ClassId) (a : Nat) : ct_M l yX2_init (.code yX2_init cX2_init 1 none :: TB) 2 8 168 (dC, dI) cA (fun _ _ => True) [.ref a] [(a, .inr (2, [.int 0, .int 0, .int 0, .int 0, .int 0, .int 0, .int 0, .int 0, .int 0, .null, .null, .null, .null, .null, .null, .null, .null]))] (w_X2_init cA a) := by
  refine ct_M.of (cc := cX2_init) (maxL := 1) (by decide) rfl (Nat.le_of_ble_eq_true rfl) ?_
  intro p e s m below meth c A ls F hml hr hlocks hin _ hA hP hD hS hl
  have F : ac_X p s m [.ref a].toArray c cX2_init RX2 TB (dC, dI) vwCl (ac_ty cA) := ⟨F.1, F.2.1, fun w h => F.2.2.1 w (List.mem_cons_of_mem _ h), F.2.2.2.1, F.2.2.2.2⟩
  have hl : lv_has ls 1 [(0, .ref a)] := hl
  refine lv_aload_n F.1 F.2.1 dX2_init_0 rfl (lv_at hl 0 rfl) ?_
  refine ct_obj F hml hl.1 qz150 qz32 qz33 dX2_init_1 (Nat.le_of_ble_eq_true rfl) (Nat.le_of_ble_eq_true rfl) ?_
  refine lv_aload_n F.1 F.2.1 dX2_init_4 rfl (lv_at hl 0 rfl) ?_
  refine a_bp F (24 : Int32) dX2_init_5 (by decide) ?_
  refine va_put (ci := 2) (v := .int (24 : Int32)) (C := RX2) (T := TX2) (N := 17) F.1 F.2.1 F.2.2.1 inX2 tyX2 tyX2_ok nmX2 F.2.2.2.1 F.2.2.2.2 hP hD hS 0 rfl rfl 0 (by decide) (F.2.2.1 _ qz151) (fun _ h9 => h9) rfl (tyX2_ok 0 (by decide)) rfl rfl (Nat.le_of_ble_eq_true rfl) dX2_init_7 (fun H locs hP hD hS => ?_)
  have hP : va_P (dC, dI) vwCl ((a, .inr (2, [.int (24 : Int32), .int 0, .int 0, .int 0, .int 0, .int 0, .int 0, .int 0, .int 0, .null, .null, .null, .null, .null, .null, .null, .null])) :: []) H := hP
  have hD : va_D A ((a, .inr (2, [.int (24 : Int32), .int 0, .int 0, .int 0, .int 0, .int 0, .int 0, .int 0, .int 0, .null, .null, .null, .null, .null, .null, .null, .null])) :: []) := hD
  refine lv_aload_n F.1 F.2.1 dX2_init_10 rfl (lv_at hl 0 rfl) ?_
  refine a_ic F (0 : Int32) dX2_init_11 (by decide) ?_
  refine va_put (ci := 2) (v := .int (0 : Int32)) (C := RX2) (T := TX2) (N := 17) F.1 F.2.1 F.2.2.1 inX2 tyX2 tyX2_ok nmX2 F.2.2.2.1 F.2.2.2.2 hP hD hS 0 rfl rfl 1 (by decide) (F.2.2.1 _ qz157) (fun _ h9 => h9) rfl (tyX2_ok 1 (by decide)) rfl rfl (Nat.le_of_ble_eq_true rfl) dX2_init_12 (fun H locs hP hD hS => ?_)
  have hP : va_P (dC, dI) vwCl ((a, .inr (2, [.int (24 : Int32), .int (0 : Int32), .int 0, .int 0, .int 0, .int 0, .int 0, .int 0, .int 0, .null, .null, .null, .null, .null, .null, .null, .null])) :: []) H := hP
  have hD : va_D A ((a, .inr (2, [.int (24 : Int32), .int (0 : Int32), .int 0, .int 0, .int 0, .int 0, .int 0, .int 0, .int 0, .null, .null, .null, .null, .null, .null, .null, .null])) :: []) := hD
  refine lv_aload_n F.1 F.2.1 dX2_init_15 rfl (lv_at hl 0 rfl) ?_
  refine a_ic F (0 : Int32) dX2_init_16 (by decide) ?_
  refine va_put (ci := 2) (v := .int (0 : Int32)) (C := RX2) (T := TX2) (N := 17) F.1 F.2.1 F.2.2.1 inX2 tyX2 tyX2_ok nmX2 F.2.2.2.1 F.2.2.2.2 hP hD hS 0 rfl rfl 2 (by decide) (F.2.2.1 _ qz162) (fun _ h9 => h9) rfl (tyX2_ok 2 (by decide)) rfl rfl (Nat.le_of_ble_eq_true rfl) dX2_init_17 (fun H locs hP hD hS => ?_)
  have hP : va_P (dC, dI) vwCl ((a, .inr (2, [.int (24 : Int32), .int (0 : Int32), .int (0 : Int32), .int 0, .int 0, .int 0, .int 0, .int 0, .int 0, .null, .null, .null, .null, .null, .null, .null, .null])) :: []) H := hP
  have hD : va_D A ((a, .inr (2, [.int (24 : Int32), .int (0 : Int32), .int (0 : Int32), .int 0, .int 0, .int 0, .int 0, .int 0, .int 0, .null, .null, .null, .null, .null, .null, .null, .null])) :: []) := hD
  refine lv_aload_n F.1 F.2.1 dX2_init_20 rfl (lv_at hl 0 rfl) ?_
  refine a_ic F (0 : Int32) dX2_init_21 (by decide) ?_
  refine va_put (ci := 2) (v := .int (0 : Int32)) (C := RX2) (T := TX2) (N := 17) F.1 F.2.1 F.2.2.1 inX2 tyX2 tyX2_ok nmX2 F.2.2.2.1 F.2.2.2.2 hP hD hS 0 rfl rfl 3 (by decide) (F.2.2.1 _ qz165) (fun _ h9 => h9) rfl (tyX2_ok 3 (by decide)) rfl rfl (Nat.le_of_ble_eq_true rfl) dX2_init_22 (fun H locs hP hD hS => ?_)
  have hP : va_P (dC, dI) vwCl ((a, .inr (2, [.int (24 : Int32), .int (0 : Int32), .int (0 : Int32), .int (0 : Int32), .int 0, .int 0, .int 0, .int 0, .int 0, .null, .null, .null, .null, .null, .null, .null, .null])) :: []) H := hP
  have hD : va_D A ((a, .inr (2, [.int (24 : Int32), .int (0 : Int32), .int (0 : Int32), .int (0 : Int32), .int 0, .int 0, .int 0, .int 0, .int 0, .null, .null, .null, .null, .null, .null, .null, .null])) :: []) := hD
  refine lv_aload_n F.1 F.2.1 dX2_init_25 rfl (lv_at hl 0 rfl) ?_
  refine a_ic F (0 : Int32) dX2_init_26 (by decide) ?_
  refine va_put (ci := 2) (v := .int (0 : Int32)) (C := RX2) (T := TX2) (N := 17) F.1 F.2.1 F.2.2.1 inX2 tyX2 tyX2_ok nmX2 F.2.2.2.1 F.2.2.2.2 hP hD hS 0 rfl rfl 4 (by decide) (F.2.2.1 _ qz169) (fun _ h9 => h9) rfl (tyX2_ok 4 (by decide)) rfl rfl (Nat.le_of_ble_eq_true rfl) dX2_init_27 (fun H locs hP hD hS => ?_)
  have hP : va_P (dC, dI) vwCl ((a, .inr (2, [.int (24 : Int32), .int (0 : Int32), .int (0 : Int32), .int (0 : Int32), .int (0 : Int32), .int 0, .int 0, .int 0, .int 0, .null, .null, .null, .null, .null, .null, .null, .null])) :: []) H := hP
  have hD : va_D A ((a, .inr (2, [.int (24 : Int32), .int (0 : Int32), .int (0 : Int32), .int (0 : Int32), .int (0 : Int32), .int 0, .int 0, .int 0, .int 0, .null, .null, .null, .null, .null, .null, .null, .null])) :: []) := hD
  refine lv_aload_n F.1 F.2.1 dX2_init_30 rfl (lv_at hl 0 rfl) ?_
  refine a_ic F (0 : Int32) dX2_init_31 (by decide) ?_
  refine va_put (ci := 2) (v := .int (0 : Int32)) (C := RX2) (T := TX2) (N := 17) F.1 F.2.1 F.2.2.1 inX2 tyX2 tyX2_ok nmX2 F.2.2.2.1 F.2.2.2.2 hP hD hS 0 rfl rfl 5 (by decide) (F.2.2.1 _ qz173) (fun _ h9 => h9) rfl (tyX2_ok 5 (by decide)) rfl rfl (Nat.le_of_ble_eq_true rfl) dX2_init_32 (fun H locs hP hD hS => ?_)
  have hP : va_P (dC, dI) vwCl ((a, .inr (2, [.int (24 : Int32), .int (0 : Int32), .int (0 : Int32), .int (0 : Int32), .int (0 : Int32), .int (0 : Int32), .int 0, .int 0, .int 0, .null, .null, .null, .null, .null, .null, .null, .null])) :: []) H := hP
  have hD : va_D A ((a, .inr (2, [.int (24 : Int32), .int (0 : Int32), .int (0 : Int32), .int (0 : Int32), .int (0 : Int32), .int (0 : Int32), .int 0, .int 0, .int 0, .null, .null, .null, .null, .null, .null, .null, .null])) :: []) := hD
  refine lv_aload_n F.1 F.2.1 dX2_init_35 rfl (lv_at hl 0 rfl) ?_
  refine a_ic F (0 : Int32) dX2_init_36 (by decide) ?_
  refine va_put (ci := 2) (v := .int (0 : Int32)) (C := RX2) (T := TX2) (N := 17) F.1 F.2.1 F.2.2.1 inX2 tyX2 tyX2_ok nmX2 F.2.2.2.1 F.2.2.2.2 hP hD hS 0 rfl rfl 6 (by decide) (F.2.2.1 _ qz178) (fun _ h9 => h9) rfl (tyX2_ok 6 (by decide)) rfl rfl (Nat.le_of_ble_eq_true rfl) dX2_init_37 (fun H locs hP hD hS => ?_)
  have hP : va_P (dC, dI) vwCl ((a, .inr (2, [.int (24 : Int32), .int (0 : Int32), .int (0 : Int32), .int (0 : Int32), .int (0 : Int32), .int (0 : Int32), .int (0 : Int32), .int 0, .int 0, .null, .null, .null, .null, .null, .null, .null, .null])) :: []) H := hP
  have hD : va_D A ((a, .inr (2, [.int (24 : Int32), .int (0 : Int32), .int (0 : Int32), .int (0 : Int32), .int (0 : Int32), .int (0 : Int32), .int (0 : Int32), .int 0, .int 0, .null, .null, .null, .null, .null, .null, .null, .null])) :: []) := hD
  refine lv_aload_n F.1 F.2.1 dX2_init_40 rfl (lv_at hl 0 rfl) ?_
  refine a_ic F (0 : Int32) dX2_init_41 (by decide) ?_
  refine va_put (ci := 2) (v := .int (0 : Int32)) (C := RX2) (T := TX2) (N := 17) F.1 F.2.1 F.2.2.1 inX2 tyX2 tyX2_ok nmX2 F.2.2.2.1 F.2.2.2.2 hP hD hS 0 rfl rfl 7 (by decide) (F.2.2.1 _ qz185) (fun _ h9 => h9) rfl (tyX2_ok 7 (by decide)) rfl rfl (Nat.le_of_ble_eq_true rfl) dX2_init_42 (fun H locs hP hD hS => ?_)
  have hP : va_P (dC, dI) vwCl ((a, .inr (2, [.int (24 : Int32), .int (0 : Int32), .int (0 : Int32), .int (0 : Int32), .int (0 : Int32), .int (0 : Int32), .int (0 : Int32), .int (0 : Int32), .int 0, .null, .null, .null, .null, .null, .null, .null, .null])) :: []) H := hP
  have hD : va_D A ((a, .inr (2, [.int (24 : Int32), .int (0 : Int32), .int (0 : Int32), .int (0 : Int32), .int (0 : Int32), .int (0 : Int32), .int (0 : Int32), .int (0 : Int32), .int 0, .null, .null, .null, .null, .null, .null, .null, .null])) :: []) := hD
  refine lv_aload_n F.1 F.2.1 dX2_init_45 rfl (lv_at hl 0 rfl) ?_
  refine a_ic F (0 : Int32) dX2_init_46 (by decide) ?_
  refine va_put (ci := 2) (v := .int (0 : Int32)) (C := RX2) (T := TX2) (N := 17) F.1 F.2.1 F.2.2.1 inX2 tyX2 tyX2_ok nmX2 F.2.2.2.1 F.2.2.2.2 hP hD hS 0 rfl rfl 8 (by decide) (F.2.2.1 _ qz188) (fun _ h9 => h9) rfl (tyX2_ok 8 (by decide)) rfl rfl (Nat.le_of_ble_eq_true rfl) dX2_init_47 (fun H locs hP hD hS => ?_)
  have hP : va_P (dC, dI) vwCl ((a, .inr (2, [.int (24 : Int32), .int (0 : Int32), .int (0 : Int32), .int (0 : Int32), .int (0 : Int32), .int (0 : Int32), .int (0 : Int32), .int (0 : Int32), .int (0 : Int32), .null, .null, .null, .null, .null, .null, .null, .null])) :: []) H := hP
  have hD : va_D A ((a, .inr (2, [.int (24 : Int32), .int (0 : Int32), .int (0 : Int32), .int (0 : Int32), .int (0 : Int32), .int (0 : Int32), .int (0 : Int32), .int (0 : Int32), .int (0 : Int32), .null, .null, .null, .null, .null, .null, .null, .null])) :: []) := hD
  refine lv_aload_n F.1 F.2.1 dX2_init_50 rfl (lv_at hl 0 rfl) ?_
  refine a_bp F (8 : Int32) dX2_init_51 (by decide) ?_
  refine ct_newI F hA hP hD hS 8 (by decide) (by decide) (Nat.le_of_ble_eq_true rfl) (Nat.le_of_ble_eq_true rfl) (Nat.le_of_ble_eq_true rfl) dX2_init_53 (fun q1 H hP hD hS => ?_)
  have hP : va_P (dC, dI) vwCl ((a, .inr (2, [.int (24 : Int32), .int (0 : Int32), .int (0 : Int32), .int (0 : Int32), .int (0 : Int32), .int (0 : Int32), .int (0 : Int32), .int (0 : Int32), .int (0 : Int32), .null, .null, .null, .null, .null, .null, .null, .null])) :: [(q1, aI cA 8)]) H := hP
  have hD : va_D A ((a, .inr (2, [.int (24 : Int32), .int (0 : Int32), .int (0 : Int32), .int (0 : Int32), .int (0 : Int32), .int (0 : Int32), .int (0 : Int32), .int (0 : Int32), .int (0 : Int32), .null, .null, .null, .null, .null, .null, .null, .null])) :: [(q1, aI cA 8)]) := hD
  refine va_putF (ci := 2) (v := .ref q1) (C := RX2) (T := TX2) (N := 17) F.1 F.2.1 F.2.2.1 inX2 tyX2 tyX2_ok nmX2 F.2.2.2.1 F.2.2.2.2 hP hD hS 0 rfl rfl 9 (by decide) (F.2.2.1 _ qz189) (fun _ h9 => h9) rfl hin rfl (tyX2_ok 9 (by decide)) rfl rfl (Nat.le_of_ble_eq_true rfl) dX2_init_55 (fun H locs hP hD hS => ?_)
  have hP : va_P (dC, dI) vwCl ((a, .inr (2, [.int (24 : Int32), .int (0 : Int32), .int (0 : Int32), .int (0 : Int32), .int (0 : Int32), .int (0 : Int32), .int (0 : Int32), .int (0 : Int32), .int (0 : Int32), .ref q1, .null, .null, .null, .null, .null, .null, .null])) :: [(q1, aI cA 8)]) H := hP
  have hD : va_D A ((a, .inr (2, [.int (24 : Int32), .int (0 : Int32), .int (0 : Int32), .int (0 : Int32), .int (0 : Int32), .int (0 : Int32), .int (0 : Int32), .int (0 : Int32), .int (0 : Int32), .ref q1, .null, .null, .null, .null, .null, .null, .null])) :: [(q1, aI cA 8)]) := hD
  refine lv_aload_n F.1 F.2.1 dX2_init_58 rfl (lv_at hl 0 rfl) ?_
  refine a_bp F (6 : Int32) dX2_init_59 (by decide) ?_
  refine ct_newI F hA hP hD hS 6 (by decide) (by decide) (Nat.le_of_ble_eq_true rfl) (Nat.le_of_ble_eq_true rfl) (Nat.le_of_ble_eq_true rfl) dX2_init_61 (fun q2 H hP hD hS => ?_)
  have hP : va_P (dC, dI) vwCl ((a, .inr (2, [.int (24 : Int32), .int (0 : Int32), .int (0 : Int32), .int (0 : Int32), .int (0 : Int32), .int (0 : Int32), .int (0 : Int32), .int (0 : Int32), .int (0 : Int32), .ref q1, .null, .null, .null, .null, .null, .null, .null])) :: ([(q1, aI cA 8)] ++ [(q2, aI cA 6)])) H := hP
  have hD : va_D A ((a, .inr (2, [.int (24 : Int32), .int (0 : Int32), .int (0 : Int32), .int (0 : Int32), .int (0 : Int32), .int (0 : Int32), .int (0 : Int32), .int (0 : Int32), .int (0 : Int32), .ref q1, .null, .null, .null, .null, .null, .null, .null])) :: ([(q1, aI cA 8)] ++ [(q2, aI cA 6)])) := hD
  refine va_putF (ci := 2) (v := .ref q2) (C := RX2) (T := TX2) (N := 17) F.1 F.2.1 F.2.2.1 inX2 tyX2 tyX2_ok nmX2 F.2.2.2.1 F.2.2.2.2 hP hD hS 0 rfl rfl 10 (by decide) (F.2.2.1 _ qz190) (fun _ h9 => h9) rfl hin rfl (tyX2_ok 10 (by decide)) rfl rfl (Nat.le_of_ble_eq_true rfl) dX2_init_63 (fun H locs hP hD hS => ?_)
  have hP : va_P (dC, dI) vwCl ((a, .inr (2, [.int (24 : Int32), .int (0 : Int32), .int (0 : Int32), .int (0 : Int32), .int (0 : Int32), .int (0 : Int32), .int (0 : Int32), .int (0 : Int32), .int (0 : Int32), .ref q1, .ref q2, .null, .null, .null, .null, .null, .null])) :: ([(q1, aI cA 8)] ++ [(q2, aI cA 6)])) H := hP
  have hD : va_D A ((a, .inr (2, [.int (24 : Int32), .int (0 : Int32), .int (0 : Int32), .int (0 : Int32), .int (0 : Int32), .int (0 : Int32), .int (0 : Int32), .int (0 : Int32), .int (0 : Int32), .ref q1, .ref q2, .null, .null, .null, .null, .null, .null])) :: ([(q1, aI cA 8)] ++ [(q2, aI cA 6)])) := hD
  refine lv_aload_n F.1 F.2.1 dX2_init_66 rfl (lv_at hl 0 rfl) ?_
  refine a_ic F (4 : Int32) dX2_init_67 (by decide) ?_
  refine ct_newI F hA hP hD hS 4 (by decide) (by decide) (Nat.le_of_ble_eq_true rfl) (Nat.le_of_ble_eq_true rfl) (Nat.le_of_ble_eq_true rfl) dX2_init_68 (fun q3 H hP hD hS => ?_)
  have hP : va_P (dC, dI) vwCl ((a, .inr (2, [.int (24 : Int32), .int (0 : Int32), .int (0 : Int32), .int (0 : Int32), .int (0 : Int32), .int (0 : Int32), .int (0 : Int32), .int (0 : Int32), .int (0 : Int32), .ref q1, .ref q2, .null, .null, .null, .null, .null, .null])) :: (([(q1, aI cA 8)] ++ [(q2, aI cA 6)]) ++ [(q3, aI cA 4)])) H := hP
  have hD : va_D A ((a, .inr (2, [.int (24 : Int32), .int (0 : Int32), .int (0 : Int32), .int (0 : Int32), .int (0 : Int32), .int (0 : Int32), .int (0 : Int32), .int (0 : Int32), .int (0 : Int32), .ref q1, .ref q2, .null, .null, .null, .null, .null, .null])) :: (([(q1, aI cA 8)] ++ [(q2, aI cA 6)]) ++ [(q3, aI cA 4)])) := hD
  refine va_putF (ci := 2) (v := .ref q3) (C := RX2) (T := TX2) (N := 17) F.1 F.2.1 F.2.2.1 inX2 tyX2 tyX2_ok nmX2 F.2.2.2.1 F.2.2.2.2 hP hD hS 0 rfl rfl 11 (by decide) (F.2.2.1 _ qz193) (fun _ h9 => h9) rfl hin rfl (tyX2_ok 11 (by decide)) rfl rfl (Nat.le_of_ble_eq_true rfl) dX2_init_70 (fun H locs hP hD hS => ?_)
  have hP : va_P (dC, dI) vwCl ((a, .inr (2, [.int (24 : Int32), .int (0 : Int32), .int (0 : Int32), .int (0 : Int32), .int (0 : Int32), .int (0 : Int32), .int (0 : Int32), .int (0 : Int32), .int (0 : Int32), .ref q1, .ref q2, .ref q3, .null, .null, .null, .null, .null])) :: (([(q1, aI cA 8)] ++ [(q2, aI cA 6)]) ++ [(q3, aI cA 4)])) H := hP
  have hD : va_D A ((a, .inr (2, [.int (24 : Int32), .int (0 : Int32), .int (0 : Int32), .int (0 : Int32), .int (0 : Int32), .int (0 : Int32), .int (0 : Int32), .int (0 : Int32), .int (0 : Int32), .ref q1, .ref q2, .ref q3, .null, .null, .null, .null, .null])) :: (([(q1, aI cA 8)] ++ [(q2, aI cA 6)]) ++ [(q3, aI cA 4)])) := hD
  refine lv_aload_n F.1 F.2.1 dX2_init_73 rfl (lv_at hl 0 rfl) ?_
  refine a_bp F (64 : Int32) dX2_init_74 (by decide) ?_
  refine ct_newI F hA hP hD hS 64 (by decide) (by decide) (Nat.le_of_ble_eq_true rfl) (Nat.le_of_ble_eq_true rfl) (Nat.le_of_ble_eq_true rfl) dX2_init_76 (fun q4 H hP hD hS => ?_)
  have hP : va_P (dC, dI) vwCl ((a, .inr (2, [.int (24 : Int32), .int (0 : Int32), .int (0 : Int32), .int (0 : Int32), .int (0 : Int32), .int (0 : Int32), .int (0 : Int32), .int (0 : Int32), .int (0 : Int32), .ref q1, .ref q2, .ref q3, .null, .null, .null, .null, .null])) :: ((([(q1, aI cA 8)] ++ [(q2, aI cA 6)]) ++ [(q3, aI cA 4)]) ++ [(q4, aI cA 64)])) H := hP
  have hD : va_D A ((a, .inr (2, [.int (24 : Int32), .int (0 : Int32), .int (0 : Int32), .int (0 : Int32), .int (0 : Int32), .int (0 : Int32), .int (0 : Int32), .int (0 : Int32), .int (0 : Int32), .ref q1, .ref q2, .ref q3, .null, .null, .null, .null, .null])) :: ((([(q1, aI cA 8)] ++ [(q2, aI cA 6)]) ++ [(q3, aI cA 4)]) ++ [(q4, aI cA 64)])) := hD
  refine va_putF (ci := 2) (v := .ref q4) (C := RX2) (T := TX2) (N := 17) F.1 F.2.1 F.2.2.1 inX2 tyX2 tyX2_ok nmX2 F.2.2.2.1 F.2.2.2.2 hP hD hS 0 rfl rfl 12 (by decide) (F.2.2.1 _ qz195) (fun _ h9 => h9) rfl hin rfl (tyX2_ok 12 (by decide)) rfl rfl (Nat.le_of_ble_eq_true rfl) dX2_init_78 (fun H locs hP hD hS => ?_)
  have hP : va_P (dC, dI) vwCl ((a, .inr (2, [.int (24 : Int32), .int (0 : Int32), .int (0 : Int32), .int (0 : Int32), .int (0 : Int32), .int (0 : Int32), .int (0 : Int32), .int (0 : Int32), .int (0 : Int32), .ref q1, .ref q2, .ref q3, .ref q4, .null, .null, .null, .null])) :: ((([(q1, aI cA 8)] ++ [(q2, aI cA 6)]) ++ [(q3, aI cA 4)]) ++ [(q4, aI cA 64)])) H := hP
  have hD : va_D A ((a, .inr (2, [.int (24 : Int32), .int (0 : Int32), .int (0 : Int32), .int (0 : Int32), .int (0 : Int32), .int (0 : Int32), .int (0 : Int32), .int (0 : Int32), .int (0 : Int32), .ref q1, .ref q2, .ref q3, .ref q4, .null, .null, .null, .null])) :: ((([(q1, aI cA 8)] ++ [(q2, aI cA 6)]) ++ [(q3, aI cA 4)]) ++ [(q4, aI cA 64)])) := hD
  refine lv_aload_n F.1 F.2.1 dX2_init_81 rfl (lv_at hl 0 rfl) ?_
  refine a_bp F (8 : Int32) dX2_init_82 (by decide) ?_
  refine ct_newI F hA hP hD hS 8 (by decide) (by decide) (Nat.le_of_ble_eq_true rfl) (Nat.le_of_ble_eq_true rfl) (Nat.le_of_ble_eq_true rfl) dX2_init_84 (fun q5 H hP hD hS => ?_)
  have hP : va_P (dC, dI) vwCl ((a, .inr (2, [.int (24 : Int32), .int (0 : Int32), .int (0 : Int32), .int (0 : Int32), .int (0 : Int32), .int (0 : Int32), .int (0 : Int32), .int (0 : Int32), .int (0 : Int32), .ref q1, .ref q2, .ref q3, .ref q4, .null, .null, .null, .null])) :: (((([(q1, aI cA 8)] ++ [(q2, aI cA 6)]) ++ [(q3, aI cA 4)]) ++ [(q4, aI cA 64)]) ++ [(q5, aI cA 8)])) H := hP
  have hD : va_D A ((a, .inr (2, [.int (24 : Int32), .int (0 : Int32), .int (0 : Int32), .int (0 : Int32), .int (0 : Int32), .int (0 : Int32), .int (0 : Int32), .int (0 : Int32), .int (0 : Int32), .ref q1, .ref q2, .ref q3, .ref q4, .null, .null, .null, .null])) :: (((([(q1, aI cA 8)] ++ [(q2, aI cA 6)]) ++ [(q3, aI cA 4)]) ++ [(q4, aI cA 64)]) ++ [(q5, aI cA 8)])) := hD
  refine va_putF (ci := 2) (v := .ref q5) (C := RX2) (T := TX2) (N := 17) F.1 F.2.1 F.2.2.1 inX2 tyX2 tyX2_ok nmX2 F.2.2.2.1 F.2.2.2.2 hP hD hS 0 rfl rfl 13 (by decide) (F.2.2.1 _ qz196) (fun _ h9 => h9) rfl hin rfl (tyX2_ok 13 (by decide)) rfl rfl (Nat.le_of_ble_eq_true rfl) dX2_init_86 (fun H locs hP hD hS => ?_)
  have hP : va_P (dC, dI) vwCl ((a, .inr (2, [.int (24 : Int32), .int (0 : Int32), .int (0 : Int32), .int (0 : Int32), .int (0 : Int32), .int (0 : Int32), .int (0 : Int32), .int (0 : Int32), .int (0 : Int32), .ref q1, .ref q2, .ref q3, .ref q4, .ref q5, .null, .null, .null])) :: (((([(q1, aI cA 8)] ++ [(q2, aI cA 6)]) ++ [(q3, aI cA 4)]) ++ [(q4, aI cA 64)]) ++ [(q5, aI cA 8)])) H := hP
  have hD : va_D A ((a, .inr (2, [.int (24 : Int32), .int (0 : Int32), .int (0 : Int32), .int (0 : Int32), .int (0 : Int32), .int (0 : Int32), .int (0 : Int32), .int (0 : Int32), .int (0 : Int32), .ref q1, .ref q2, .ref q3, .ref q4, .ref q5, .null, .null, .null])) :: (((([(q1, aI cA 8)] ++ [(q2, aI cA 6)]) ++ [(q3, aI cA 4)]) ++ [(q4, aI cA 64)]) ++ [(q5, aI cA 8)])) := hD
  refine lv_aload_n F.1 F.2.1 dX2_init_89 rfl (lv_at hl 0 rfl) ?_
  refine a_bp F (26 : Int32) dX2_init_90 (by decide) ?_
  refine ct_newL F hA hP hD hS 26 (by decide) (by decide) (Nat.le_of_ble_eq_true rfl) (Nat.le_of_ble_eq_true rfl) (Nat.le_of_ble_eq_true rfl) dX2_init_92 (fun q6 H hP hD hS => ?_)
  have hP : va_P (dC, dI) vwCl ((a, .inr (2, [.int (24 : Int32), .int (0 : Int32), .int (0 : Int32), .int (0 : Int32), .int (0 : Int32), .int (0 : Int32), .int (0 : Int32), .int (0 : Int32), .int (0 : Int32), .ref q1, .ref q2, .ref q3, .ref q4, .ref q5, .null, .null, .null])) :: ((((([(q1, aI cA 8)] ++ [(q2, aI cA 6)]) ++ [(q3, aI cA 4)]) ++ [(q4, aI cA 64)]) ++ [(q5, aI cA 8)]) ++ [(q6, aL cA 26)])) H := hP
  have hD : va_D A ((a, .inr (2, [.int (24 : Int32), .int (0 : Int32), .int (0 : Int32), .int (0 : Int32), .int (0 : Int32), .int (0 : Int32), .int (0 : Int32), .int (0 : Int32), .int (0 : Int32), .ref q1, .ref q2, .ref q3, .ref q4, .ref q5, .null, .null, .null])) :: ((((([(q1, aI cA 8)] ++ [(q2, aI cA 6)]) ++ [(q3, aI cA 4)]) ++ [(q4, aI cA 64)]) ++ [(q5, aI cA 8)]) ++ [(q6, aL cA 26)])) := hD
  refine va_putF (ci := 2) (v := .ref q6) (C := RX2) (T := TX2) (N := 17) F.1 F.2.1 F.2.2.1 inX2 tyX2 tyX2_ok nmX2 F.2.2.2.1 F.2.2.2.2 hP hD hS 0 rfl rfl 14 (by decide) (F.2.2.1 _ qz197) (fun _ h9 => h9) rfl hin rfl (tyX2_ok 14 (by decide)) rfl rfl (Nat.le_of_ble_eq_true rfl) dX2_init_94 (fun H locs hP hD hS => ?_)
  have hP : va_P (dC, dI) vwCl ((a, .inr (2, [.int (24 : Int32), .int (0 : Int32), .int (0 : Int32), .int (0 : Int32), .int (0 : Int32), .int (0 : Int32), .int (0 : Int32), .int (0 : Int32), .int (0 : Int32), .ref q1, .ref q2, .ref q3, .ref q4, .ref q5, .ref q6, .null, .null])) :: ((((([(q1, aI cA 8)] ++ [(q2, aI cA 6)]) ++ [(q3, aI cA 4)]) ++ [(q4, aI cA 64)]) ++ [(q5, aI cA 8)]) ++ [(q6, aL cA 26)])) H := hP
  have hD : va_D A ((a, .inr (2, [.int (24 : Int32), .int (0 : Int32), .int (0 : Int32), .int (0 : Int32), .int (0 : Int32), .int (0 : Int32), .int (0 : Int32), .int (0 : Int32), .int (0 : Int32), .ref q1, .ref q2, .ref q3, .ref q4, .ref q5, .ref q6, .null, .null])) :: ((((([(q1, aI cA 8)] ++ [(q2, aI cA 6)]) ++ [(q3, aI cA 4)]) ++ [(q4, aI cA 64)]) ++ [(q5, aI cA 8)]) ++ [(q6, aL cA 26)])) := hD
  refine lv_aload_n F.1 F.2.1 dX2_init_97 rfl (lv_at hl 0 rfl) ?_
  refine a_bp F (26 : Int32) dX2_init_98 (by decide) ?_
  refine ct_newI F hA hP hD hS 26 (by decide) (by decide) (Nat.le_of_ble_eq_true rfl) (Nat.le_of_ble_eq_true rfl) (Nat.le_of_ble_eq_true rfl) dX2_init_100 (fun q7 H hP hD hS => ?_)
  have hP : va_P (dC, dI) vwCl ((a, .inr (2, [.int (24 : Int32), .int (0 : Int32), .int (0 : Int32), .int (0 : Int32), .int (0 : Int32), .int (0 : Int32), .int (0 : Int32), .int (0 : Int32), .int (0 : Int32), .ref q1, .ref q2, .ref q3, .ref q4, .ref q5, .ref q6, .null, .null])) :: (((((([(q1, aI cA 8)] ++ [(q2, aI cA 6)]) ++ [(q3, aI cA 4)]) ++ [(q4, aI cA 64)]) ++ [(q5, aI cA 8)]) ++ [(q6, aL cA 26)]) ++ [(q7, aI cA 26)])) H := hP
  have hD : va_D A ((a, .inr (2, [.int (24 : Int32), .int (0 : Int32), .int (0 : Int32), .int (0 : Int32), .int (0 : Int32), .int (0 : Int32), .int (0 : Int32), .int (0 : Int32), .int (0 : Int32), .ref q1, .ref q2, .ref q3, .ref q4, .ref q5, .ref q6, .null, .null])) :: (((((([(q1, aI cA 8)] ++ [(q2, aI cA 6)]) ++ [(q3, aI cA 4)]) ++ [(q4, aI cA 64)]) ++ [(q5, aI cA 8)]) ++ [(q6, aL cA 26)]) ++ [(q7, aI cA 26)])) := hD
  refine va_putF (ci := 2) (v := .ref q7) (C := RX2) (T := TX2) (N := 17) F.1 F.2.1 F.2.2.1 inX2 tyX2 tyX2_ok nmX2 F.2.2.2.1 F.2.2.2.2 hP hD hS 0 rfl rfl 15 (by decide) (F.2.2.1 _ qz198) (fun _ h9 => h9) rfl hin rfl (tyX2_ok 15 (by decide)) rfl rfl (Nat.le_of_ble_eq_true rfl) dX2_init_102 (fun H locs hP hD hS => ?_)
  have hP : va_P (dC, dI) vwCl ((a, .inr (2, [.int (24 : Int32), .int (0 : Int32), .int (0 : Int32), .int (0 : Int32), .int (0 : Int32), .int (0 : Int32), .int (0 : Int32), .int (0 : Int32), .int (0 : Int32), .ref q1, .ref q2, .ref q3, .ref q4, .ref q5, .ref q6, .ref q7, .null])) :: (((((([(q1, aI cA 8)] ++ [(q2, aI cA 6)]) ++ [(q3, aI cA 4)]) ++ [(q4, aI cA 64)]) ++ [(q5, aI cA 8)]) ++ [(q6, aL cA 26)]) ++ [(q7, aI cA 26)])) H := hP
  have hD : va_D A ((a, .inr (2, [.int (24 : Int32), .int (0 : Int32), .int (0 : Int32), .int (0 : Int32), .int (0 : Int32), .int (0 : Int32), .int (0 : Int32), .int (0 : Int32), .int (0 : Int32), .ref q1, .ref q2, .ref q3, .ref q4, .ref q5, .ref q6, .ref q7, .null])) :: (((((([(q1, aI cA 8)] ++ [(q2, aI cA 6)]) ++ [(q3, aI cA 4)]) ++ [(q4, aI cA 64)]) ++ [(q5, aI cA 8)]) ++ [(q6, aL cA 26)]) ++ [(q7, aI cA 26)])) := hD
  refine lv_aload_n F.1 F.2.1 dX2_init_105 rfl (lv_at hl 0 rfl) ?_
  refine a_bp F (26 : Int32) dX2_init_106 (by decide) ?_
  refine ct_newI F hA hP hD hS 26 (by decide) (by decide) (Nat.le_of_ble_eq_true rfl) (Nat.le_of_ble_eq_true rfl) (Nat.le_of_ble_eq_true rfl) dX2_init_108 (fun q8 H hP hD hS => ?_)
  have hP : va_P (dC, dI) vwCl ((a, .inr (2, [.int (24 : Int32), .int (0 : Int32), .int (0 : Int32), .int (0 : Int32), .int (0 : Int32), .int (0 : Int32), .int (0 : Int32), .int (0 : Int32), .int (0 : Int32), .ref q1, .ref q2, .ref q3, .ref q4, .ref q5, .ref q6, .ref q7, .null])) :: ((((((([(q1, aI cA 8)] ++ [(q2, aI cA 6)]) ++ [(q3, aI cA 4)]) ++ [(q4, aI cA 64)]) ++ [(q5, aI cA 8)]) ++ [(q6, aL cA 26)]) ++ [(q7, aI cA 26)]) ++ [(q8, aI cA 26)])) H := hP
  have hD : va_D A ((a, .inr (2, [.int (24 : Int32), .int (0 : Int32), .int (0 : Int32), .int (0 : Int32), .int (0 : Int32), .int (0 : Int32), .int (0 : Int32), .int (0 : Int32), .int (0 : Int32), .ref q1, .ref q2, .ref q3, .ref q4, .ref q5, .ref q6, .ref q7, .null])) :: ((((((([(q1, aI cA 8)] ++ [(q2, aI cA 6)]) ++ [(q3, aI cA 4)]) ++ [(q4, aI cA 64)]) ++ [(q5, aI cA 8)]) ++ [(q6, aL cA 26)]) ++ [(q7, aI cA 26)]) ++ [(q8, aI cA 26)])) := hD
  refine va_putF (ci := 2) (v := .ref q8) (C := RX2) (T := TX2) (N := 17) F.1 F.2.1 F.2.2.1 inX2 tyX2 tyX2_ok nmX2 F.2.2.2.1 F.2.2.2.2 hP hD hS 0 rfl rfl 16 (by decide) (F.2.2.1 _ qz200) (fun _ h9 => h9) rfl hin rfl (tyX2_ok 16 (by decide)) rfl rfl (Nat.le_of_ble_eq_true rfl) dX2_init_110 (fun H locs hP hD hS => ?_)
  have hP : va_P (dC, dI) vwCl ((a, .inr (2, [.int (24 : Int32), .int (0 : Int32), .int (0 : Int32), .int (0 : Int32), .int (0 : Int32), .int (0 : Int32), .int (0 : Int32), .int (0 : Int32), .int (0 : Int32), .ref q1, .ref q2, .ref q3, .ref q4, .ref q5, .ref q6, .ref q7, .ref q8])) :: ((((((([(q1, aI cA 8)] ++ [(q2, aI cA 6)]) ++ [(q3, aI cA 4)]) ++ [(q4, aI cA 64)]) ++ [(q5, aI cA 8)]) ++ [(q6, aL cA 26)]) ++ [(q7, aI cA 26)]) ++ [(q8, aI cA 26)])) H := hP
  have hD : va_D A ((a, .inr (2, [.int (24 : Int32), .int (0 : Int32), .int (0 : Int32), .int (0 : Int32), .int (0 : Int32), .int (0 : Int32), .int (0 : Int32), .int (0 : Int32), .int (0 : Int32), .ref q1, .ref q2, .ref q3, .ref q4, .ref q5, .ref q6, .ref q7, .ref q8])) :: ((((((([(q1, aI cA 8)] ++ [(q2, aI cA 6)]) ++ [(q3, aI cA 4)]) ++ [(q4, aI cA 64)]) ++ [(q5, aI cA 8)]) ++ [(q6, aL cA 26)]) ++ [(q7, aI cA 26)]) ++ [(q8, aI cA 26)])) := hD
  exact ct_ret (fun i => ([q1, q2, q3, q4, q5, q6, q7, q8] : List Nat).getD i 0) F hr hlocks hP hD hS rfl (Nat.le_of_ble_eq_true rfl) (Nat.le_of_ble_eq_true rfl) dX2_init_113
def w_X3_init (cA : Nat → ClassId) (a : Nat) (r1 : Nat) (r2 : Nat) (q : Nat → Nat) : va_W := (a, .inr (3, [.ref r1, .ref r2, .ref (q 0), .int (0 : Int32), .int (0 : Int32)])) :: [(q 0, aI cA 8)]
set_option maxHeartbeats 1000000 in
set_option maxRecDepth 100000 in
theorem t_X3_init (l : Launch) (dC : Nat → ClassId) (dI : Nat → Nat → Nat) (cA : Nat → ClassId) (a : Nat) (r1 : Nat) (r2 : Nat) : ct_M l yX3_init (.code yX3_init cX3_init 3 none :: TB) 2 1 8 (dC, dI) cA (fun _ _ => True) [.ref a, .ref r1, .ref r2] [(a, .inr (3, [.null, .null, .null, .int 0, .int 0]))] (w_X3_init cA a r1 r2) := by
  refine ct_M.of (cc := cX3_init) (maxL := 3) (by decide) rfl (Nat.le_of_ble_eq_true rfl) ?_
  intro p e s m below meth c A ls F hml hr hlocks hin _ hA hP hD hS hl
  have F : ac_X p s m [.ref a, .ref r1, .ref r2].toArray c cX3_init RX3 TB (dC, dI) vwCl (ac_ty cA) := ⟨F.1, F.2.1, fun w h => F.2.2.1 w (List.mem_cons_of_mem _ h), F.2.2.2.1, F.2.2.2.2⟩
  have hl : lv_has ls 3 [(0, .ref a), (1, .ref r1), (2, .ref r2)] := hl
  refine lv_aload_n F.1 F.2.1 dX3_init_0 rfl (lv_at hl 0 rfl) ?_
  refine ct_obj F hml hl.1 qz243 qz32 qz33 dX3_init_1 (Nat.le_of_ble_eq_true rfl) (Nat.le_of_ble_eq_true rfl) ?_
  refine lv_aload_n F.1 F.2.1 dX3_init_4 rfl (lv_at hl 0 rfl) ?_
  refine a_bp F (8 : Int32) dX3_init_5 (by decide) ?_
  refine ct_newI F hA hP hD hS 8 (by decide) (by decide) (Nat.le_of_ble_eq_true rfl) (Nat.le_of_ble_eq_true rfl) (Nat.le_of_ble_eq_true rfl) dX3_init_7 (fun q1 H hP hD hS => ?_)
  have hP : va_P (dC, dI) vwCl ((a, .inr (3, [.null, .null, .null, .int 0, .int 0])) :: [(q1, aI cA 8)]) H := hP
  have hD : va_D A ((a, .inr (3, [.null, .null, .null, .int 0, .int 0])) :: [(q1, aI cA 8)]) := hD
  refine va_putF (ci := 3) (v := .ref q1) (C := RX3) (T := TX3) (N := 5) F.1 F.2.1 F.2.2.1 inX3 tyX3 tyX3_ok nmX3 F.2.2.2.1 F.2.2.2.2 hP hD hS 0 rfl rfl 2 (by decide) (F.2.2.1 _ qz246) (fun _ h9 => h9) rfl hin rfl (tyX3_ok 2 (by decide)) rfl rfl (Nat.le_of_ble_eq_true rfl) dX3_init_9 (fun H locs hP hD hS => ?_)
  have hP : va_P (dC, dI) vwCl ((a, .inr (3, [.null, .null, .ref q1, .int 0, .int 0])) :: [(q1, aI cA 8)]) H := hP
  have hD : va_D A ((a, .inr (3, [.null, .null, .ref q1, .int 0, .int 0])) :: [(q1, aI cA 8)]) := hD
  refine lv_aload_n F.1 F.2.1 dX3_init_12 rfl (lv_at hl 0 rfl) ?_
  refine a_ic F (0 : Int32) dX3_init_13 (by decide) ?_
  refine va_put (ci := 3) (v := .int (0 : Int32)) (C := RX3) (T := TX3) (N := 5) F.1 F.2.1 F.2.2.1 inX3 tyX3 tyX3_ok nmX3 F.2.2.2.1 F.2.2.2.2 hP hD hS 0 rfl rfl 3 (by decide) (F.2.2.1 _ qz247) (fun _ h9 => h9) rfl (tyX3_ok 3 (by decide)) rfl rfl (Nat.le_of_ble_eq_true rfl) dX3_init_14 (fun H locs hP hD hS => ?_)
  have hP : va_P (dC, dI) vwCl ((a, .inr (3, [.null, .null, .ref q1, .int (0 : Int32), .int 0])) :: [(q1, aI cA 8)]) H := hP
  have hD : va_D A ((a, .inr (3, [.null, .null, .ref q1, .int (0 : Int32), .int 0])) :: [(q1, aI cA 8)]) := hD
  refine lv_aload_n F.1 F.2.1 dX3_init_17 rfl (lv_at hl 0 rfl) ?_
  refine a_ic F (0 : Int32) dX3_init_18 (by decide) ?_
  refine va_put (ci := 3) (v := .int (0 : Int32)) (C := RX3) (T := TX3) (N := 5) F.1 F.2.1 F.2.2.1 inX3 tyX3 tyX3_ok nmX3 F.2.2.2.1 F.2.2.2.2 hP hD hS 0 rfl rfl 4 (by decide) (F.2.2.1 _ qz249) (fun _ h9 => h9) rfl (tyX3_ok 4 (by decide)) rfl rfl (Nat.le_of_ble_eq_true rfl) dX3_init_19 (fun H locs hP hD hS => ?_)
  have hP : va_P (dC, dI) vwCl ((a, .inr (3, [.null, .null, .ref q1, .int (0 : Int32), .int (0 : Int32)])) :: [(q1, aI cA 8)]) H := hP
  have hD : va_D A ((a, .inr (3, [.null, .null, .ref q1, .int (0 : Int32), .int (0 : Int32)])) :: [(q1, aI cA 8)]) := hD
  refine lv_aload_n F.1 F.2.1 dX3_init_22 rfl (lv_at hl 0 rfl) ?_
  refine lv_aload_n F.1 F.2.1 dX3_init_23 rfl (lv_at hl 1 rfl) ?_
  refine va_putF (ci := 3) (v := .ref r1) (C := RX3) (T := TX3) (N := 5) F.1 F.2.1 F.2.2.1 inX3 tyX3 tyX3_ok nmX3 F.2.2.2.1 F.2.2.2.2 hP hD hS 0 rfl rfl 0 (by decide) (F.2.2.1 _ qz244) (fun _ h9 => h9) rfl hin rfl (tyX3_ok 0 (by decide)) rfl rfl (Nat.le_of_ble_eq_true rfl) dX3_init_24 (fun H locs hP hD hS => ?_)
  have hP : va_P (dC, dI) vwCl ((a, .inr (3, [.ref r1, .null, .ref q1, .int (0 : Int32), .int (0 : Int32)])) :: [(q1, aI cA 8)]) H := hP
  have hD : va_D A ((a, .inr (3, [.ref r1, .null, .ref q1, .int (0 : Int32), .int (0 : Int32)])) :: [(q1, aI cA 8)]) := hD
  refine lv_aload_n F.1 F.2.1 dX3_init_27 rfl (lv_at hl 0 rfl) ?_
  refine lv_aload_n F.1 F.2.1 dX3_init_28 rfl (lv_at hl 2 rfl) ?_
  refine va_putF (ci := 3) (v := .ref r2) (C := RX3) (T := TX3) (N := 5) F.1 F.2.1 F.2.2.1 inX3 tyX3 tyX3_ok nmX3 F.2.2.2.1 F.2.2.2.2 hP hD hS 0 rfl rfl 1 (by decide) (F.2.2.1 _ qz245) (fun _ h9 => h9) rfl hin rfl (tyX3_ok 1 (by decide)) rfl rfl (Nat.le_of_ble_eq_true rfl) dX3_init_29 (fun H locs hP hD hS => ?_)
  have hP : va_P (dC, dI) vwCl ((a, .inr (3, [.ref r1, .ref r2, .ref q1, .int (0 : Int32), .int (0 : Int32)])) :: [(q1, aI cA 8)]) H := hP
  have hD : va_D A ((a, .inr (3, [.ref r1, .ref r2, .ref q1, .int (0 : Int32), .int (0 : Int32)])) :: [(q1, aI cA 8)]) := hD
  exact ct_ret (fun i => ([q1] : List Nat).getD i 0) F hr hlocks hP hD hS rfl (Nat.le_of_ble_eq_true rfl) (Nat.le_of_ble_eq_true rfl) dX3_init_32
def w_X1_init (cA : Nat → ClassId) (a : Nat) (r1 : Nat) (r2 : Nat) (q : Nat → Nat) : va_W := (a, .inr (1, [.ref r1, .ref r2, .int (0 : Int32)])) :: []
set_option maxHeartbeats 1000000 in
set_option maxRecDepth 100000 in
theorem t_X1_init (l : Launch) (dC : Nat → ClassId) (dI : Nat → Nat → Nat) (cA : Nat → ClassId) (a : Nat) (r1 : Nat) (r2 : Nat) : ct_M l yX1_init (.code yX1_init cX1_init 3 none :: TB) 2 0 0 (dC, dI) cA (fun _ _ => True) [.ref a, .ref r1, .ref r2] [(a, .inr (1, [.null, .null, .int 0]))] (w_X1_init cA a r1 r2) := by
  refine ct_M.of (cc := cX1_init) (maxL := 3) (by decide) rfl (Nat.le_of_ble_eq_true rfl) ?_
  intro p e s m below meth c A ls F hml hr hlocks hin _ hA hP hD hS hl
  have F : ac_X p s m [.ref a, .ref r1, .ref r2].toArray c cX1_init RX1 TB (dC, dI) vwCl (ac_ty cA) := ⟨F.1, F.2.1, fun w h => F.2.2.1 w (List.mem_cons_of_mem _ h), F.2.2.2.1, F.2.2.2.2⟩
  have hl : lv_has ls 3 [(0, .ref a), (1, .ref r1), (2, .ref r2)] := hl
  refine lv_aload_n F.1 F.2.1 dX1_init_0 rfl (lv_at hl 0 rfl) ?_
  refine ct_obj F hml hl.1 qz382 qz32 qz33 dX1_init_1 (Nat.le_of_ble_eq_true rfl) (Nat.le_of_ble_eq_true rfl) ?_
  refine lv_aload_n F.1 F.2.1 dX1_init_4 rfl (lv_at hl 0 rfl) ?_
  refine a_ic F (0 : Int32) dX1_init_5 (by decide) ?_
  refine va_put (ci := 1) (v := .int (0 : Int32)) (C := RX1) (T := TX1) (N := 3) F.1 F.2.1 F.2.2.1 inX1 tyX1 tyX1_ok nmX1 F.2.2.2.1 F.2.2.2.2 hP hD hS 0 rfl rfl 2 (by decide) (F.2.2.1 _ qz385) (fun _ h9 => h9) rfl (tyX1_ok 2 (by decide)) rfl rfl (Nat.le_of_ble_eq_true rfl) dX1_init_6 (fun H locs hP hD hS => ?_)
  have hP : va_P (dC, dI) vwCl ((a, .inr (1, [.null, .null, .int (0 : Int32)])) :: []) H := hP
  have hD : va_D A ((a, .inr (1, [.null, .null, .int (0 : Int32)])) :: []) := hD
  refine lv_aload_n F.1 F.2.1 dX1_init_9 rfl (lv_at hl 0 rfl) ?_
  refine lv_aload_n F.1 F.2.1 dX1_init_10 rfl (lv_at hl 1 rfl) ?_
  refine va_putF (ci := 1) (v := .ref r1) (C := RX1) (T := TX1) (N := 3) F.1 F.2.1 F.2.2.1 inX1 tyX1 tyX1_ok nmX1 F.2.2.2.1 F.2.2.2.2 hP hD hS 0 rfl rfl 0 (by decide) (F.2.2.1 _ qz383) (fun _ h9 => h9) rfl hin rfl (tyX1_ok 0 (by decide)) rfl rfl (Nat.le_of_ble_eq_true rfl) dX1_init_11 (fun H locs hP hD hS => ?_)
  have hP : va_P (dC, dI) vwCl ((a, .inr (1, [.ref r1, .null, .int (0 : Int32)])) :: []) H := hP
  have hD : va_D A ((a, .inr (1, [.ref r1, .null, .int (0 : Int32)])) :: []) := hD
  refine lv_aload_n F.1 F.2.1 dX1_init_14 rfl (lv_at hl 0 rfl) ?_
  refine lv_aload_n F.1 F.2.1 dX1_init_15 rfl (lv_at hl 2 rfl) ?_
  refine va_putF (ci := 1) (v := .ref r2) (C := RX1) (T := TX1) (N := 3) F.1 F.2.1 F.2.2.1 inX1 tyX1 tyX1_ok nmX1 F.2.2.2.1 F.2.2.2.2 hP hD hS 0 rfl rfl 1 (by decide) (F.2.2.1 _ qz384) (fun _ h9 => h9) rfl hin rfl (tyX1_ok 1 (by decide)) rfl rfl (Nat.le_of_ble_eq_true rfl) dX1_init_16 (fun H locs hP hD hS => ?_)
  have hP : va_P (dC, dI) vwCl ((a, .inr (1, [.ref r1, .ref r2, .int (0 : Int32)])) :: []) H := hP
  have hD : va_D A ((a, .inr (1, [.ref r1, .ref r2, .int (0 : Int32)])) :: []) := hD
  exact ct_ret (fun i => ([] : List Nat).getD i 0) F hr hlocks hP hD hS rfl (Nat.le_of_ble_eq_true rfl) (Nat.le_of_ble_eq_true rfl) dX1_init_19
def w_X5_init (cA : Nat → ClassId) (a : Nat) (r1 : Nat) (r2 : Nat) (q : Nat → Nat) : va_W := (a, .inr (5, [.ref r1, .ref r2, .ref (q 0), .ref (q 1), .int (0 : Int32), .int (0 : Int32), .int (0 : Int32)])) :: ([(q 0, aI cA 20)] ++ [(q 1, aI cA 20)])
set_option maxHeartbeats 1000000 in
set_option maxRecDepth 100000 in
theorem t_X5_init (l : Launch) (dC : Nat → ClassId) (dI : Nat → Nat → Nat) (cA : Nat → ClassId) (a : Nat) (r1 : Nat) (r2 : Nat) : ct_M l yX5_init (.code yX5_init cX5_init 3 none :: TB) 2 2 40 (dC, dI) cA (fun _ _ => True) [.ref a, .ref r1, .ref r2] [(a, .inr (5, [.null, .null, .null, .null, .int 0, .int 0, .int 0]))] (w_X5_init cA a r1 r2) := by
  refine ct_M.of (cc := cX5_init) (maxL := 3) (by decide) rfl (Nat.le_of_ble_eq_true rfl) ?_
  intro p e s m below meth c A ls F hml hr hlocks hin _ hA hP hD hS hl
  have F : ac_X p s m [.ref a, .ref r1, .ref r2].toArray c cX5_init RX5 TB (dC, dI) vwCl (ac_ty cA) := ⟨F.1, F.2.1, fun w h => F.2.2.1 w (List.mem_cons_of_mem _ h), F.2.2.2.1, F.2.2.2.2⟩
  have hl : lv_has ls 3 [(0, .ref a), (1, .ref r1), (2, .ref r2)] := hl
  refine lv_aload_n F.1 F.2.1 dX5_init_0 rfl (lv_at hl 0 rfl) ?_
  refine ct_obj F hml hl.1 qz305 qz32 qz33 dX5_init_1 (Nat.le_of_ble_eq_true rfl) (Nat.le_of_ble_eq_true rfl) ?_
  refine lv_aload_n F.1 F.2.1 dX5_init_4 rfl (lv_at hl 0 rfl) ?_
  refine a_bp F (20 : Int32) dX5_init_5 (by decide) ?_
  refine ct_newI F hA hP hD hS 20 (by decide) (by decide) (Nat.le_of_ble_eq_true rfl) (Nat.le_of_ble_eq_true rfl) (Nat.le_of_ble_eq_true rfl) dX5_init_7 (fun q1 H hP hD hS => ?_)
  have hP : va_P (dC, dI) vwCl ((a, .inr (5, [.null, .null, .null, .null, .int 0, .int 0, .int 0])) :: [(q1, aI cA 20)]) H := hP
  have hD : va_D A ((a, .inr (5, [.null, .null, .null, .null, .int 0, .int 0, .int 0])) :: [(q1, aI cA 20)]) := hD
  refine va_putF (ci := 5) (v := .ref q1) (C := RX5) (T := TX5) (N := 7) F.1 F.2.1 F.2.2.1 inX5 tyX5 tyX5_ok nmX5 F.2.2.2.1 F.2.2.2.2 hP hD hS 0 rfl rfl 2 (by decide) (F.2.2.1 _ qz308) (fun _ h9 => h9) rfl hin rfl (tyX5_ok 2 (by decide)) rfl rfl (Nat.le_of_ble_eq_true rfl) dX5_init_9 (fun H locs hP hD hS => ?_)
  have hP : va_P (dC, dI) vwCl ((a, .inr (5, [.null, .null, .ref q1, .null, .int 0, .int 0, .int 0])) :: [(q1, aI cA 20)]) H := hP
  have hD : va_D A ((a, .inr (5, [.null, .null, .ref q1, .null, .int 0, .int 0, .int 0])) :: [(q1, aI cA 20)]) := hD
  refine lv_aload_n F.1 F.2.1 dX5_init_12 rfl (lv_at hl 0 rfl) ?_
  refine a_bp F (20 : Int32) dX5_init_13 (by decide) ?_
  refine ct_newI F hA hP hD hS 20 (by decide) (by decide) (Nat.le_of_ble_eq_true rfl) (Nat.le_of_ble_eq_true rfl) (Nat.le_of_ble_eq_true rfl) dX5_init_15 (fun q2 H hP hD hS => ?_)
  have hP : va_P (dC, dI) vwCl ((a, .inr (5, [.null, .null, .ref q1, .null, .int 0, .int 0, .int 0])) :: ([(q1, aI cA 20)] ++ [(q2, aI cA 20)])) H := hP
  have hD : va_D A ((a, .inr (5, [.null, .null, .ref q1, .null, .int 0, .int 0, .int 0])) :: ([(q1, aI cA 20)] ++ [(q2, aI cA 20)])) := hD
  refine va_putF (ci := 5) (v := .ref q2) (C := RX5) (T := TX5) (N := 7) F.1 F.2.1 F.2.2.1 inX5 tyX5 tyX5_ok nmX5 F.2.2.2.1 F.2.2.2.2 hP hD hS 0 rfl rfl 3 (by decide) (F.2.2.1 _ qz309) (fun _ h9 => h9) rfl hin rfl (tyX5_ok 3 (by decide)) rfl rfl (Nat.le_of_ble_eq_true rfl) dX5_init_17 (fun H locs hP hD hS => ?_)
  have hP : va_P (dC, dI) vwCl ((a, .inr (5, [.null, .null, .ref q1, .ref q2, .int 0, .int 0, .int 0])) :: ([(q1, aI cA 20)] ++ [(q2, aI cA 20)])) H := hP
  have hD : va_D A ((a, .inr (5, [.null, .null, .ref q1, .ref q2, .int 0, .int 0, .int 0])) :: ([(q1, aI cA 20)] ++ [(q2, aI cA 20)])) := hD
  refine lv_aload_n F.1 F.2.1 dX5_init_20 rfl (lv_at hl 0 rfl) ?_
  refine a_ic F (0 : Int32) dX5_init_21 (by decide) ?_
  refine va_put (ci := 5) (v := .int (0 : Int32)) (C := RX5) (T := TX5) (N := 7) F.1 F.2.1 F.2.2.1 inX5 tyX5 tyX5_ok nmX5 F.2.2.2.1 F.2.2.2.2 hP hD hS 0 rfl rfl 4 (by decide) (F.2.2.1 _ qz310) (fun _ h9 => h9) rfl (tyX5_ok 4 (by decide)) rfl rfl (Nat.le_of_ble_eq_true rfl) dX5_init_22 (fun H locs hP hD hS => ?_)
  have hP : va_P (dC, dI) vwCl ((a, .inr (5, [.null, .null, .ref q1, .ref q2, .int (0 : Int32), .int 0, .int 0])) :: ([(q1, aI cA 20)] ++ [(q2, aI cA 20)])) H := hP
  have hD : va_D A ((a, .inr (5, [.null, .null, .ref q1, .ref q2, .int (0 : Int32), .int 0, .int 0])) :: ([(q1, aI cA 20)] ++ [(q2, aI cA 20)])) := hD
  refine lv_aload_n F.1 F.2.1 dX5_init_25 rfl (lv_at hl 0 rfl) ?_
  refine a_ic F (0 : Int32) dX5_init_26 (by decide) ?_
  refine va_put (ci := 5) (v := .int (0 : Int32)) (C := RX5) (T := TX5) (N := 7) F.1 F.2.1 F.2.2.1 inX5 tyX5 tyX5_ok nmX5 F.2.2.2.1 F.2.2.2.2 hP hD hS 0 rfl rfl 5 (by decide) (F.2.2.1 _ qz311) (fun _ h9 => h9) rfl (tyX5_ok 5 (by decide)) rfl rfl (Nat.le_of_ble_eq_true rfl) dX5_init_27 (fun H locs hP hD hS => ?_)
  have hP : va_P (dC, dI) vwCl ((a, .inr (5, [.null, .null, .ref q1, .ref q2, .int (0 : Int32), .int (0 : Int32), .int 0])) :: ([(q1, aI cA 20)] ++ [(q2, aI cA 20)])) H := hP
  have hD : va_D A ((a, .inr (5, [.null, .null, .ref q1, .ref q2, .int (0 : Int32), .int (0 : Int32), .int 0])) :: ([(q1, aI cA 20)] ++ [(q2, aI cA 20)])) := hD
  refine lv_aload_n F.1 F.2.1 dX5_init_30 rfl (lv_at hl 0 rfl) ?_
  refine a_ic F (0 : Int32) dX5_init_31 (by decide) ?_
  refine va_put (ci := 5) (v := .int (0 : Int32)) (C := RX5) (T := TX5) (N := 7) F.1 F.2.1 F.2.2.1 inX5 tyX5 tyX5_ok nmX5 F.2.2.2.1 F.2.2.2.2 hP hD hS 0 rfl rfl 6 (by decide) (F.2.2.1 _ qz312) (fun _ h9 => h9) rfl (tyX5_ok 6 (by decide)) rfl rfl (Nat.le_of_ble_eq_true rfl) dX5_init_32 (fun H locs hP hD hS => ?_)
  have hP : va_P (dC, dI) vwCl ((a, .inr (5, [.null, .null, .ref q1, .ref q2, .int (0 : Int32), .int (0 : Int32), .int (0 : Int32)])) :: ([(q1, aI cA 20)] ++ [(q2, aI cA 20)])) H := hP
  have hD : va_D A ((a, .inr (5, [.null, .null, .ref q1, .ref q2, .int (0 : Int32), .int (0 : Int32), .int (0 : Int32)])) :: ([(q1, aI cA 20)] ++ [(q2, aI cA 20)])) := hD
  refine lv_aload_n F.1 F.2.1 dX5_init_35 rfl (lv_at hl 0 rfl) ?_
  refine lv_aload_n F.1 F.2.1 dX5_init_36 rfl (lv_at hl 1 rfl) ?_
  refine va_putF (ci := 5) (v := .ref r1) (C := RX5) (T := TX5) (N := 7) F.1 F.2.1 F.2.2.1 inX5 tyX5 tyX5_ok nmX5 F.2.2.2.1 F.2.2.2.2 hP hD hS 0 rfl rfl 0 (by decide) (F.2.2.1 _ qz306) (fun _ h9 => h9) rfl hin rfl (tyX5_ok 0 (by decide)) rfl rfl (Nat.le_of_ble_eq_true rfl) dX5_init_37 (fun H locs hP hD hS => ?_)
  have hP : va_P (dC, dI) vwCl ((a, .inr (5, [.ref r1, .null, .ref q1, .ref q2, .int (0 : Int32), .int (0 : Int32), .int (0 : Int32)])) :: ([(q1, aI cA 20)] ++ [(q2, aI cA 20)])) H := hP
  have hD : va_D A ((a, .inr (5, [.ref r1, .null, .ref q1, .ref q2, .int (0 : Int32), .int (0 : Int32), .int (0 : Int32)])) :: ([(q1, aI cA 20)] ++ [(q2, aI cA 20)])) := hD
  refine lv_aload_n F.1 F.2.1 dX5_init_40 rfl (lv_at hl 0 rfl) ?_
  refine lv_aload_n F.1 F.2.1 dX5_init_41 rfl (lv_at hl 2 rfl) ?_
  refine va_putF (ci := 5) (v := .ref r2) (C := RX5) (T := TX5) (N := 7) F.1 F.2.1 F.2.2.1 inX5 tyX5 tyX5_ok nmX5 F.2.2.2.1 F.2.2.2.2 hP hD hS 0 rfl rfl 1 (by decide) (F.2.2.1 _ qz307) (fun _ h9 => h9) rfl hin rfl (tyX5_ok 1 (by decide)) rfl rfl (Nat.le_of_ble_eq_true rfl) dX5_init_42 (fun H locs hP hD hS => ?_)
  have hP : va_P (dC, dI) vwCl ((a, .inr (5, [.ref r1, .ref r2, .ref q1, .ref q2, .int (0 : Int32), .int (0 : Int32), .int (0 : Int32)])) :: ([(q1, aI cA 20)] ++ [(q2, aI cA 20)])) H := hP
  have hD : va_D A ((a, .inr (5, [.ref r1, .ref r2, .ref q1, .ref q2, .int (0 : Int32), .int (0 : Int32), .int (0 : Int32)])) :: ([(q1, aI cA 20)] ++ [(q2, aI cA 20)])) := hD
  exact ct_ret (fun i => ([q1, q2] : List Nat).getD i 0) F hr hlocks hP hD hS rfl (Nat.le_of_ble_eq_true rfl) (Nat.le_of_ble_eq_true rfl) dX5_init_45
def w_X0_init (cA : Nat → ClassId) (a : Nat) (r1 : Nat) (r2 : Nat) (r3 : Nat) (q : Nat → Nat) : va_W := (a, .inr (0, [.ref r1, .ref r2, .ref r3, .ref (q 0), .ref (q 1), .ref (q 2), .int (0 : Int32), .int (0 : Int32), .int (0 : Int32), .int (0 : Int32)])) :: (([(q 0, aI cA 40)] ++ [(q 1, aI cA 40)]) ++ [(q 2, aI cA 40)])
set_option maxHeartbeats 1000000 in
set_option maxRecDepth 100000 in
theorem t_X0_init (l : Launch) (dC : Nat → ClassId) (dI : Nat → Nat → Nat) (cA : Nat → ClassId) (a : Nat) (r1 : Nat) (r2 : Nat) (r3 : Nat) : ct_M l yX0_init (.code yX0_init cX0_init 4 none :: TB) 2 3 120 (dC, dI) cA (fun _ _ => True) [.ref a, .ref r1, .ref r2, .ref r3] [(a, .inr (0, [.null, .null, .null, .null, .null, .null, .int 0, .int 0, .int 0, .int 0]))] (w_X0_init cA a r1 r2 r3) := by
  refine ct_M.of (cc := cX0_init) (maxL := 4) (by decide) rfl (Nat.le_of_ble_eq_true rfl) ?_
  intro p e s m below meth c A ls F hml hr hlocks hin _ hA hP hD hS hl
  have F : ac_X p s m [.ref a, .ref r1, .ref r2, .ref r3].toArray c cX0_init RX0 TB (dC, dI) vwCl (ac_ty cA) := ⟨F.1, F.2.1, fun w h => F.2.2.1 w (List.mem_cons_of_mem _ h), F.2.2.2.1, F.2.2.2.2⟩
  have hl : lv_has ls 4 [(0, .ref a), (1, .ref r1), (2, .ref r2), (3, .ref r3)] := hl
  refine lv_aload_n F.1 F.2.1 dX0_init_0 rfl (lv_at hl 0 rfl) ?_
  refine ct_obj F hml hl.1 qz398 qz32 qz33 dX0_init_1 (Nat.le_of_ble_eq_true rfl) (Nat.le_of_ble_eq_true rfl) ?_
  refine lv_aload_n F.1 F.2.1 dX0_init_4 rfl (lv_at hl 0 rfl) ?_
  refine a_bp F (40 : Int32) dX0_init_5 (by decide) ?_
  refine ct_newI F hA hP hD hS 40 (by decide) (by decide) (Nat.le_of_ble_eq_true rfl) (Nat.le_of_ble_eq_true rfl) (Nat.le_of_ble_eq_true rfl) dX0_init_7 (fun q1 H hP hD hS => ?_)
  have hP : va_P (dC, dI) vwCl ((a, .inr (0, [.null, .null, .null, .null, .null, .null, .int 0, .int 0, .int 0, .int 0])) :: [(q1, aI cA 40)]) H := hP
  have hD : va_D A ((a, .inr (0, [.null, .null, .null, .null, .null, .null, .int 0, .int 0, .int 0, .int 0])) :: [(q1, aI cA 40)]) := hD
  refine va_putF (ci := 0) (v := .ref q1) (C := RX0) (T := TX0) (N := 10) F.1 F.2.1 F.2.2.1 inX0 tyX0 tyX0_ok nmX0 F.2.2.2.1 F.2.2.2.2 hP hD hS 0 rfl rfl 3 (by decide) (F.2.2.1 _ qz402) (fun _ h9 => h9) rfl hin rfl (tyX0_ok 3 (by decide)) rfl rfl (Nat.le_of_ble_eq_true rfl) dX0_init_9 (fun H locs hP hD hS => ?_)
  have hP : va_P (dC, dI) vwCl ((a, .inr (0, [.null, .null, .null, .ref q1, .null, .null, .int 0, .int 0, .int 0, .int 0])) :: [(q1, aI cA 40)]) H := hP
  have hD : va_D A ((a, .inr (0, [.null, .null, .null, .ref q1, .null, .null, .int 0, .int 0, .int 0, .int 0])) :: [(q1, aI cA 40)]) := hD
  refine lv_aload_n F.1 F.2.1 dX0_init_12 rfl (lv_at hl 0 rfl) ?_
  refine a_bp F (40 : Int32) dX0_init_13 (by decide) ?_
  refine ct_newI F hA hP hD hS 40 (by decide) (by decide) (Nat.le_of_ble_eq_true rfl) (Nat.le_of_ble_eq_true rfl) (Nat.le_of_ble_eq_true rfl) dX0_init_15 (fun q2 H hP hD hS => ?_)
  have hP : va_P (dC, dI) vwCl ((a, .inr (0, [.null, .null, .null, .ref q1, .null, .null, .int 0, .int 0, .int 0, .int 0])) :: ([(q1, aI cA 40)] ++ [(q2, aI cA 40)])) H := hP
  have hD : va_D A ((a, .inr (0, [.null, .null, .null, .ref q1, .null, .null, .int 0, .int 0, .int 0, .int 0])) :: ([(q1, aI cA 40)] ++ [(q2, aI cA 40)])) := hD
  refine va_putF (ci := 0) (v := .ref q2) (C := RX0) (T := TX0) (N := 10) F.1 F.2.1 F.2.2.1 inX0 tyX0 tyX0_ok nmX0 F.2.2.2.1 F.2.2.2.2 hP hD hS 0 rfl rfl 4 (by decide) (F.2.2.1 _ qz403) (fun _ h9 => h9) rfl hin rfl (tyX0_ok 4 (by decide)) rfl rfl (Nat.le_of_ble_eq_true rfl) dX0_init_17 (fun H locs hP hD hS => ?_)
  have hP : va_P (dC, dI) vwCl ((a, .inr (0, [.null, .null, .null, .ref q1, .ref q2, .null, .int 0, .int 0, .int 0, .int 0])) :: ([(q1, aI cA 40)] ++ [(q2, aI cA 40)])) H := hP
  have hD : va_D A ((a, .inr (0, [.null, .null, .null, .ref q1, .ref q2, .null, .int 0, .int 0, .int 0, .int 0])) :: ([(q1, aI cA 40)] ++ [(q2, aI cA 40)])) := hD
  refine lv_aload_n F.1 F.2.1 dX0_init_20 rfl (lv_at hl 0 rfl) ?_
  refine a_bp F (40 : Int32) dX0_init_21 (by decide) ?_
  refine ct_newI F hA hP hD hS 40 (by decide) (by decide) (Nat.le_of_ble_eq_true rfl) (Nat.le_of_ble_eq_true rfl) (Nat.le_of_ble_eq_true rfl) dX0_init_23 (fun q3 H hP hD hS => ?_)
  have hP : va_P (dC, dI) vwCl ((a, .inr (0, [.null, .null, .null, .ref q1, .ref q2, .null, .int 0, .int 0, .int 0, .int 0])) :: (([(q1, aI cA 40)] ++ [(q2, aI cA 40)]) ++ [(q3, aI cA 40)])) H := hP
  have hD : va_D A ((a, .inr (0, [.null, .null, .null, .ref q1, .ref q2, .null, .int 0, .int 0, .int 0, .int 0])) :: (([(q1, aI cA 40)] ++ [(q2, aI cA 40)]) ++ [(q3, aI cA 40)])) := hD
  refine va_putF (ci := 0) (v := .ref q3) (C := RX0) (T := TX0) (N := 10) F.1 F.2.1 F.2.2.1 inX0 tyX0 tyX0_ok nmX0 F.2.2.2.1 F.2.2.2.2 hP hD hS 0 rfl rfl 5 (by decide) (F.2.2.1 _ qz404) (fun _ h9 => h9) rfl hin rfl (tyX0_ok 5 (by decide)) rfl rfl (Nat.le_of_ble_eq_true rfl) dX0_init_25 (fun H locs hP hD hS => ?_)
  have hP : va_P (dC, dI) vwCl ((a, .inr (0, [.null, .null, .null, .ref q1, .ref q2, .ref q3, .int 0, .int 0, .int 0, .int 0])) :: (([(q1, aI cA 40)] ++ [(q2, aI cA 40)]) ++ [(q3, aI cA 40)])) H := hP
  have hD : va_D A ((a, .inr (0, [.null, .null, .null, .ref q1, .ref q2, .ref q3, .int 0, .int 0, .int 0, .int 0])) :: (([(q1, aI cA 40)] ++ [(q2, aI cA 40)]) ++ [(q3, aI cA 40)])) := hD
  refine lv_aload_n F.1 F.2.1 dX0_init_28 rfl (lv_at hl 0 rfl) ?_
  refine a_ic F (0 : Int32) dX0_init_29 (by decide) ?_
  refine va_put (ci := 0) (v := .int (0 : Int32)) (C := RX0) (T := TX0) (N := 10) F.1 F.2.1 F.2.2.1 inX0 tyX0 tyX0_ok nmX0 F.2.2.2.1 F.2.2.2.2 hP hD hS 0 rfl rfl 6 (by decide) (F.2.2.1 _ qz405) (fun _ h9 => h9) rfl (tyX0_ok 6 (by decide)) rfl rfl (Nat.le_of_ble_eq_true rfl) dX0_init_30 (fun H locs hP hD hS => ?_)
  have hP : va_P (dC, dI) vwCl ((a, .inr (0, [.null, .null, .null, .ref q1, .ref q2, .ref q3, .int (0 : Int32), .int 0, .int 0, .int 0])) :: (([(q1, aI cA 40)] ++ [(q2, aI cA 40)]) ++ [(q3, aI cA 40)])) H := hP
  have hD : va_D A ((a, .inr (0, [.null, .null, .null, .ref q1, .ref q2, .ref q3, .int (0 : Int32), .int 0, .int 0, .int 0])) :: (([(q1, aI cA 40)] ++ [(q2, aI cA 40)]) ++ [(q3, aI cA 40)])) := hD
  refine lv_aload_n F.1 F.2.1 dX0_init_33 rfl (lv_at hl 0 rfl) ?_
  refine a_ic F (0 : Int32) dX0_init_34 (by decide) ?_
  refine va_put (ci := 0) (v := .int (0 : Int32)) (C := RX0) (T := TX0) (N := 10) F.1 F.2.1 F.2.2.1 inX0 tyX0 tyX0_ok nmX0 F.2.2.2.1 F.2.2.2.2 hP hD hS 0 rfl rfl 7 (by decide) (F.2.2.1 _ qz407) (fun _ h9 => h9) rfl (tyX0_ok 7 (by decide)) rfl rfl (Nat.le_of_ble_eq_true rfl) dX0_init_35 (fun H locs hP hD hS => ?_)
  have hP : va_P (dC, dI) vwCl ((a, .inr (0, [.null, .null, .null, .ref q1, .ref q2, .ref q3, .int (0 : Int32), .int (0 : Int32), .int 0, .int 0])) :: (([(q1, aI cA 40)] ++ [(q2, aI cA 40)]) ++ [(q3, aI cA 40)])) H := hP
  have hD : va_D A ((a, .inr (0, [.null, .null, .null, .ref q1, .ref q2, .ref q3, .int (0 : Int32), .int (0 : Int32), .int 0, .int 0])) :: (([(q1, aI cA 40)] ++ [(q2, aI cA 40)]) ++ [(q3, aI cA 40)])) := hD
  refine lv_aload_n F.1 F.2.1 dX0_init_38 rfl (lv_at hl 0 rfl) ?_
  refine a_ic F (0 : Int32) dX0_init_39 (by decide) ?_
  refine va_put (ci := 0) (v := .int (0 : Int32)) (C := RX0) (T := TX0) (N := 10) F.1 F.2.1 F.2.2.1 inX0 tyX0 tyX0_ok nmX0 F.2.2.2.1 F.2.2.2.2 hP hD hS 0 rfl rfl 8 (by decide) (F.2.2.1 _ qz409) (fun _ h9 => h9) rfl (tyX0_ok 8 (by decide)) rfl rfl (Nat.le_of_ble_eq_true rfl) dX0_init_40 (fun H locs hP hD hS => ?_)
  have hP : va_P (dC, dI) vwCl ((a, .inr (0, [.null, .null, .null, .ref q1, .ref q2, .ref q3, .int (0 : Int32), .int (0 : Int32), .int (0 : Int32), .int 0])) :: (([(q1, aI cA 40)] ++ [(q2, aI cA 40)]) ++ [(q3, aI cA 40)])) H := hP
  have hD : va_D A ((a, .inr (0, [.null, .null, .null, .ref q1, .ref q2, .ref q3, .int (0 : Int32), .int (0 : Int32), .int (0 : Int32), .int 0])) :: (([(q1, aI cA 40)] ++ [(q2, aI cA 40)]) ++ [(q3, aI cA 40)])) := hD
  refine lv_aload_n F.1 F.2.1 dX0_init_43 rfl (lv_at hl 0 rfl) ?_
  refine a_ic F (0 : Int32) dX0_init_44 (by decide) ?_
  refine va_put (ci := 0) (v := .int (0 : Int32)) (C := RX0) (T := TX0) (N := 10) F.1 F.2.1 F.2.2.1 inX0 tyX0 tyX0_ok nmX0 F.2.2.2.1 F.2.2.2.2 hP hD hS 0 rfl rfl 9 (by decide) (F.2.2.1 _ qz411) (fun _ h9 => h9) rfl (tyX0_ok 9 (by decide)) rfl rfl (Nat.le_of_ble_eq_true rfl) dX0_init_45 (fun H locs hP hD hS => ?_)
  have hP : va_P (dC, dI) vwCl ((a, .inr (0, [.null, .null, .null, .ref q1, .ref q2, .ref q3, .int (0 : Int32), .int (0 : Int32), .int (0 : Int32), .int (0 : Int32)])) :: (([(q1, aI cA 40)] ++ [(q2, aI cA 40)]) ++ [(q3, aI cA 40)])) H := hP
  have hD : va_D A ((a, .inr (0, [.null, .null, .null, .ref q1, .ref q2, .ref q3, .int (0 : Int32), .int (0 : Int32), .int (0 : Int32), .int (0 : Int32)])) :: (([(q1, aI cA 40)] ++ [(q2, aI cA 40)]) ++ [(q3, aI cA 40)])) := hD
  refine lv_aload_n F.1 F.2.1 dX0_init_48 rfl (lv_at hl 0 rfl) ?_
  refine lv_aload_n F.1 F.2.1 dX0_init_49 rfl (lv_at hl 1 rfl) ?_
  refine va_putF (ci := 0) (v := .ref r1) (C := RX0) (T := TX0) (N := 10) F.1 F.2.1 F.2.2.1 inX0 tyX0 tyX0_ok nmX0 F.2.2.2.1 F.2.2.2.2 hP hD hS 0 rfl rfl 0 (by decide) (F.2.2.1 _ qz399) (fun _ h9 => h9) rfl hin rfl (tyX0_ok 0 (by decide)) rfl rfl (Nat.le_of_ble_eq_true rfl) dX0_init_50 (fun H locs hP hD hS => ?_)
  have hP : va_P (dC, dI) vwCl ((a, .inr (0, [.ref r1, .null, .null, .ref q1, .ref q2, .ref q3, .int (0 : Int32), .int (0 : Int32), .int (0 : Int32), .int (0 : Int32)])) :: (([(q1, aI cA 40)] ++ [(q2, aI cA 40)]) ++ [(q3, aI cA 40)])) H := hP
  have hD : va_D A ((a, .inr (0, [.ref r1, .null, .null, .ref q1, .ref q2, .ref q3, .int (0 : Int32), .int (0 : Int32), .int (0 : Int32), .int (0 : Int32)])) :: (([(q1, aI cA 40)] ++ [(q2, aI cA 40)]) ++ [(q3, aI cA 40)])) := hD
  refine lv_aload_n F.1 F.2.1 dX0_init_53 rfl (lv_at hl 0 rfl) ?_
  refine lv_aload_n F.1 F.2.1 dX0_init_54 rfl (lv_at hl 2 rfl) ?_
  refine va_putF (ci := 0) (v := .ref r2) (C := RX0) (T := TX0) (N := 10) F.1 F.2.1 F.2.2.1 inX0 tyX0 tyX0_ok nmX0 F.2.2.2.1 F.2.2.2.2 hP hD hS 0 rfl rfl 1 (by decide) (F.2.2.1 _ qz400) (fun _ h9 => h9) rfl hin rfl (tyX0_ok 1 (by decide)) rfl rfl (Nat.le_of_ble_eq_true rfl) dX0_init_55 (fun H locs hP hD hS => ?_)
  have hP : va_P (dC, dI) vwCl ((a, .inr (0, [.ref r1, .ref r2, .null, .ref q1, .ref q2, .ref q3, .int (0 : Int32), .int (0 : Int32), .int (0 : Int32), .int (0 : Int32)])) :: (([(q1, aI cA 40)] ++ [(q2, aI cA 40)]) ++ [(q3, aI cA 40)])) H := hP
  have hD : va_D A ((a, .inr (0, [.ref r1, .ref r2, .null, .ref q1, .ref q2, .ref q3, .int (0 : Int32), .int (0 : Int32), .int (0 : Int32), .int (0 : Int32)])) :: (([(q1, aI cA 40)] ++ [(q2, aI cA 40)]) ++ [(q3, aI cA 40)])) := hD
  refine lv_aload_n F.1 F.2.1 dX0_init_58 rfl (lv_at hl 0 rfl) ?_
  refine lv_aload_n F.1 F.2.1 dX0_init_59 rfl (lv_at hl 3 rfl) ?_
  refine va_putF (ci := 0) (v := .ref r3) (C := RX0) (T := TX0) (N := 10) F.1 F.2.1 F.2.2.1 inX0 tyX0 tyX0_ok nmX0 F.2.2.2.1 F.2.2.2.2 hP hD hS 0 rfl rfl 2 (by decide) (F.2.2.1 _ qz401) (fun _ h9 => h9) rfl hin rfl (tyX0_ok 2 (by decide)) rfl rfl (Nat.le_of_ble_eq_true rfl) dX0_init_60 (fun H locs hP hD hS => ?_)
  have hP : va_P (dC, dI) vwCl ((a, .inr (0, [.ref r1, .ref r2, .ref r3, .ref q1, .ref q2, .ref q3, .int (0 : Int32), .int (0 : Int32), .int (0 : Int32), .int (0 : Int32)])) :: (([(q1, aI cA 40)] ++ [(q2, aI cA 40)]) ++ [(q3, aI cA 40)])) H := hP
  have hD : va_D A ((a, .inr (0, [.ref r1, .ref r2, .ref r3, .ref q1, .ref q2, .ref q3, .int (0 : Int32), .int (0 : Int32), .int (0 : Int32), .int (0 : Int32)])) :: (([(q1, aI cA 40)] ++ [(q2, aI cA 40)]) ++ [(q3, aI cA 40)])) := hD
  exact ct_ret (fun i => ([q1, q2, q3] : List Nat).getD i 0) F hr hlocks hP hD hS rfl (Nat.le_of_ble_eq_true rfl) (Nat.le_of_ble_eq_true rfl) dX0_init_63
def w_X9_init (cA : Nat → ClassId) (a : Nat) (r1 : Nat) (r2 : Nat) (r3 : Nat) (q : Nat → Nat) : va_W := (a, .inr (9, [.ref r1, .ref r2, .ref r3])) :: []
set_option maxHeartbeats 1000000 in
set_option maxRecDepth 100000 in
theorem t_X9_init (l : Launch) (dC : Nat → ClassId) (dI : Nat → Nat → Nat) (cA : Nat → ClassId) (a : Nat) (r1 : Nat) (r2 : Nat) (r3 : Nat) : ct_M l yX9_init (.code yX9_init cX9_init 4 none :: TB) 2 0 0 (dC, dI) cA (fun _ _ => True) [.ref a, .ref r1, .ref r2, .ref r3] [(a, .inr (9, [.null, .null, .null]))] (w_X9_init cA a r1 r2 r3) := by
  refine ct_M.of (cc := cX9_init) (maxL := 4) (by decide) rfl (Nat.le_of_ble_eq_true rfl) ?_
  intro p e s m below meth c A ls F hml hr hlocks hin _ hA hP hD hS hl
  have F : ac_X p s m [.ref a, .ref r1, .ref r2, .ref r3].toArray c cX9_init RX9 TB (dC, dI) vwCl (ac_ty cA) := ⟨F.1, F.2.1, fun w h => F.2.2.1 w (List.mem_cons_of_mem _ h), F.2.2.2.1, F.2.2.2.2⟩
  have hl : lv_has ls 4 [(0, .ref a), (1, .ref r1), (2, .ref r2), (3, .ref r3)] := hl
  refine lv_aload_n F.1 F.2.1 dX9_init_0 rfl (lv_at hl 0 rfl) ?_
  refine ct_obj F hml hl.1 qz464 qz32 qz33 dX9_init_1 (Nat.le_of_ble_eq_true rfl) (Nat.le_of_ble_eq_true rfl) ?_
  refine lv_aload_n F.1 F.2.1 dX9_init_4 rfl (lv_at hl 0 rfl) ?_
  refine lv_aload_n F.1 F.2.1 dX9_init_5 rfl (lv_at hl 1 rfl) ?_
  refine va_putF (ci := 9) (v := .ref r1) (C := RX9) (T := TX9) (N := 3) F.1 F.2.1 F.2.2.1 inX9 tyX9 tyX9_ok nmX9 F.2.2.2.1 F.2.2.2.2 hP hD hS 0 rfl rfl 0 (by decide) (F.2.2.1 _ qz465) (fun _ h9 => h9) rfl hin rfl (tyX9_ok 0 (by decide)) rfl rfl (Nat.le_of_ble_eq_true rfl) dX9_init_6 (fun H locs hP hD hS => ?_)
  have hP : va_P (dC, dI) vwCl ((a, .inr (9, [.ref r1, .null, .null])) :: []) H := hP
  have hD : va_D A ((a, .inr (9, [.ref r1, .null, .null])) :: []) := hD
  refine lv_aload_n F.1 F.2.1 dX9_init_9 rfl (lv_at hl 0 rfl) ?_
  refine lv_aload_n F.1 F.2.1 dX9_init_10 rfl (lv_at hl 2 rfl) ?_
  refine va_putF (ci := 9) (v := .ref r2) (C := RX9) (T := TX9) (N := 3) F.1 F.2.1 F.2.2.1 inX9 tyX9 tyX9_ok nmX9 F.2.2.2.1 F.2.2.2.2 hP hD hS 0 rfl rfl 1 (by decide) (F.2.2.1 _ qz466) (fun _ h9 => h9) rfl hin rfl (tyX9_ok 1 (by decide)) rfl rfl (Nat.le_of_ble_eq_true rfl) dX9_init_11 (fun H locs hP hD hS => ?_)
  have hP : va_P (dC, dI) vwCl ((a, .inr (9, [.ref r1, .ref r2, .null])) :: []) H := hP
  have hD : va_D A ((a, .inr (9, [.ref r1, .ref r2, .null])) :: []) := hD
  refine lv_aload_n F.1 F.2.1 dX9_init_14 rfl (lv_at hl 0 rfl) ?_
  refine lv_aload_n F.1 F.2.1 dX9_init_15 rfl (lv_at hl 3 rfl) ?_
  refine va_putF (ci := 9) (v := .ref r3) (C := RX9) (T := TX9) (N := 3) F.1 F.2.1 F.2.2.1 inX9 tyX9 tyX9_ok nmX9 F.2.2.2.1 F.2.2.2.2 hP hD hS 0 rfl rfl 2 (by decide) (F.2.2.1 _ qz467) (fun _ h9 => h9) rfl hin rfl (tyX9_ok 2 (by decide)) rfl rfl (Nat.le_of_ble_eq_true rfl) dX9_init_16 (fun H locs hP hD hS => ?_)
  have hP : va_P (dC, dI) vwCl ((a, .inr (9, [.ref r1, .ref r2, .ref r3])) :: []) H := hP
  have hD : va_D A ((a, .inr (9, [.ref r1, .ref r2, .ref r3])) :: []) := hD
  exact ct_ret (fun i => ([] : List Nat).getD i 0) F hr hlocks hP hD hS rfl (Nat.le_of_ble_eq_true rfl) (Nat.le_of_ble_eq_true rfl) dX9_init_19
def w_X7_init (cA : Nat → ClassId) (a : Nat) (r1 : Nat) (r2 : Nat) (r3 : Nat) (q : Nat → Nat) : va_W := (a, .inr (7, [.ref r1, .ref r2, .ref r3, .ref (q 0), .ref (q 1), .ref (q 2), .ref (q 3), .ref (q 4), .int (0 : Int32), .int (0 : Int32), .int (0 : Int32), .int (0 : Int32), .int (0 : Int32), .int (0 : Int32)])) :: (((([(q 0, aI cA 4)] ++ [(q 1, aI cA 4)]) ++ [(q 2, aI cA 256)]) ++ [(q 3, aI cA 24)]) ++ [(q 4, aB cA 0)])
set_option maxHeartbeats 1000000 in
set_option maxRecDepth 100000 in
theorem t_X7_init (l : Launch) (dC : Nat → ClassId) (dI : Nat → Nat → Nat) (cA : Nat → ClassId) (a : Nat) (r1 : Nat) (r2 : Nat) (r3 : Nat) : ct_M l yX7_init (.code yX7_init cX7_init 4 none :: TB) 2 5 288 (dC, dI) cA (fun _ _ => True) [.ref a, .ref r1, .ref r2, .ref r3] [(a, .inr (7, [.null, .null, .null, .null, .null, .null, .null, .null, .int 0, .int 0, .int 0, .int 0, .int 0, .int 0]))] (w_X7_init cA a r1 r2 r3) := by
  refine ct_M.of (cc := cX7_init) (maxL := 4) (by decide) rfl (Nat.le_of_ble_eq_true rfl) ?_
  intro p e s m below meth c A ls F hml hr hlocks hin _ hA hP hD hS hl
  have F : ac_X p s m [.ref a, .ref r1, .ref r2, .ref r3].toArray c cX7_init RX7 TB (dC, dI) vwCl (ac_ty cA) := ⟨F.1, F.2.1, fun w h => F.2.2.1 w (List.mem_cons_of_mem _ h), F.2.2.2.1, F.2.2.2.2⟩
  have hl : lv_has ls 4 [(0, .ref a), (1, .ref r1), (2, .ref r2), (3, .ref r3)] := hl
  refine lv_aload_n F.1 F.2.1 dX7_init_0 rfl (lv_at hl 0 rfl) ?_
  refine ct_obj F hml hl.1 qz333 qz32 qz33 dX7_init_1 (Nat.le_of_ble_eq_true rfl) (Nat.le_of_ble_eq_true rfl) ?_
  refine lv_aload_n F.1 F.2.1 dX7_init_4 rfl (lv_at hl 0 rfl) ?_
  refine a_ic F (4 : Int32) dX7_init_5 (by decide) ?_
  refine ct_newI F hA hP hD hS 4 (by decide) (by decide) (Nat.le_of_ble_eq_true rfl) (Nat.le_of_ble_eq_true rfl) (Nat.le_of_ble_eq_true rfl) dX7_init_6 (fun q1 H hP hD hS => ?_)
  have hP : va_P (dC, dI) vwCl ((a, .inr (7, [.null, .null, .null, .null, .null, .null, .null, .null, .int 0, .int 0, .int 0, .int 0, .int 0, .int 0])) :: [(q1, aI cA 4)]) H := hP
  have hD : va_D A ((a, .inr (7, [.null, .null, .null, .null, .null, .null, .null, .null, .int 0, .int 0, .int 0, .int 0, .int 0, .int 0])) :: [(q1, aI cA 4)]) := hD
  refine va_putF (ci := 7) (v := .ref q1) (C := RX7) (T := TX7) (N := 14) F.1 F.2.1 F.2.2.1 inX7 tyX7 tyX7_ok nmX7 F.2.2.2.1 F.2.2.2.2 hP hD hS 0 rfl rfl 3 (by decide) (F.2.2.1 _ qz337) (fun _ h9 => h9) rfl hin rfl (tyX7_ok 3 (by decide)) rfl rfl (Nat.le_of_ble_eq_true rfl) dX7_init_8 (fun H locs hP hD hS => ?_)
  have hP : va_P (dC, dI) vwCl ((a, .inr (7, [.null, .null, .null, .ref q1, .null, .null, .null, .null, .int 0, .int 0, .int 0, .int 0, .int 0, .int 0])) :: [(q1, aI cA 4)]) H := hP
  have hD : va_D A ((a, .inr (7, [.null, .null, .null, .ref q1, .null, .null, .null, .null, .int 0, .int 0, .int 0, .int 0, .int 0, .int 0])) :: [(q1, aI cA 4)]) := hD
  refine lv_aload_n F.1 F.2.1 dX7_init_11 rfl (lv_at hl 0 rfl) ?_
  refine a_ic F (4 : Int32) dX7_init_12 (by decide) ?_
  refine ct_newI F hA hP hD hS 4 (by decide) (by decide) (Nat.le_of_ble_eq_true rfl) (Nat.le_of_ble_eq_true rfl) (Nat.le_of_ble_eq_true rfl) dX7_init_13 (fun q2 H hP hD hS => ?_)
  have hP : va_P (dC, dI) vwCl ((a, .inr (7, [.null, .null, .null, .ref q1, .null, .null, .null, .null, .int 0, .int 0, .int 0, .int 0, .int 0, .int 0])) :: ([(q1, aI cA 4)] ++ [(q2, aI cA 4)])) H := hP
  have hD : va_D A ((a, .inr (7, [.null, .null, .null, .ref q1, .null, .null, .null, .null, .int 0, .int 0, .int 0, .int 0, .int 0, .int 0])) :: ([(q1, aI cA 4)] ++ [(q2, aI cA 4)])) := hD
  refine va_putF (ci := 7) (v := .ref q2) (C := RX7) (T := TX7) (N := 14) F.1 F.2.1 F.2.2.1 inX7 tyX7 tyX7_ok nmX7 F.2.2.2.1 F.2.2.2.2 hP hD hS 0 rfl rfl 4 (by decide) (F.2.2.1 _ qz338) (fun _ h9 => h9) rfl hin rfl (tyX7_ok 4 (by decide)) rfl rfl (Nat.le_of_ble_eq_true rfl) dX7_init_15 (fun H locs hP hD hS => ?_)
  have hP : va_P (dC, dI) vwCl ((a, .inr (7, [.null, .null, .null, .ref q1, .ref q2, .null, .null, .null, .int 0, .int 0, .int 0, .int 0, .int 0, .int 0])) :: ([(q1, aI cA 4)] ++ [(q2, aI cA 4)])) H := hP
  have hD : va_D A ((a, .inr (7, [.null, .null, .null, .ref q1, .ref q2, .null, .null, .null, .int 0, .int 0, .int 0, .int 0, .int 0, .int 0])) :: ([(q1, aI cA 4)] ++ [(q2, aI cA 4)])) := hD
  refine lv_aload_n F.1 F.2.1 dX7_init_18 rfl (lv_at hl 0 rfl) ?_
  refine a_sp F (256 : Int32) dX7_init_19 (by decide) ?_
  refine ct_newI F hA hP hD hS 256 (by decide) (by decide) (Nat.le_of_ble_eq_true rfl) (Nat.le_of_ble_eq_true rfl) (Nat.le_of_ble_eq_true rfl) dX7_init_22 (fun q3 H hP hD hS => ?_)
  have hP : va_P (dC, dI) vwCl ((a, .inr (7, [.null, .null, .null, .ref q1, .ref q2, .null, .null, .null, .int 0, .int 0, .int 0, .int 0, .int 0, .int 0])) :: (([(q1, aI cA 4)] ++ [(q2, aI cA 4)]) ++ [(q3, aI cA 256)])) H := hP
  have hD : va_D A ((a, .inr (7, [.null, .null, .null, .ref q1, .ref q2, .null, .null, .null, .int 0, .int 0, .int 0, .int 0, .int 0, .int 0])) :: (([(q1, aI cA 4)] ++ [(q2, aI cA 4)]) ++ [(q3, aI cA 256)])) := hD
  refine va_putF (ci := 7) (v := .ref q3) (C := RX7) (T := TX7) (N := 14) F.1 F.2.1 F.2.2.1 inX7 tyX7 tyX7_ok nmX7 F.2.2.2.1 F.2.2.2.2 hP hD hS 0 rfl rfl 5 (by decide) (F.2.2.1 _ qz339) (fun _ h9 => h9) rfl hin rfl (tyX7_ok 5 (by decide)) rfl rfl (Nat.le_of_ble_eq_true rfl) dX7_init_24 (fun H locs hP hD hS => ?_)
  have hP : va_P (dC, dI) vwCl ((a, .inr (7, [.null, .null, .null, .ref q1, .ref q2, .ref q3, .null, .null, .int 0, .int 0, .int 0, .int 0, .int 0, .int 0])) :: (([(q1, aI cA 4)] ++ [(q2, aI cA 4)]) ++ [(q3, aI cA 256)])) H := hP
  have hD : va_D A ((a, .inr (7, [.null, .null, .null, .ref q1, .ref q2, .ref q3, .null, .null, .int 0, .int 0, .int 0, .int 0, .int 0, .int 0])) :: (([(q1, aI cA 4)] ++ [(q2, aI cA 4)]) ++ [(q3, aI cA 256)])) := hD
  refine lv_aload_n F.1 F.2.1 dX7_init_27 rfl (lv_at hl 0 rfl) ?_
  refine a_bp F (24 : Int32) dX7_init_28 (by decide) ?_
  refine ct_newI F hA hP hD hS 24 (by decide) (by decide) (Nat.le_of_ble_eq_true rfl) (Nat.le_of_ble_eq_true rfl) (Nat.le_of_ble_eq_true rfl) dX7_init_30 (fun q4 H hP hD hS => ?_)
  have hP : va_P (dC, dI) vwCl ((a, .inr (7, [.null, .null, .null, .ref q1, .ref q2, .ref q3, .null, .null, .int 0, .int 0, .int 0, .int 0, .int 0, .int 0])) :: ((([(q1, aI cA 4)] ++ [(q2, aI cA 4)]) ++ [(q3, aI cA 256)]) ++ [(q4, aI cA 24)])) H := hP
  have hD : va_D A ((a, .inr (7, [.null, .null, .null, .ref q1, .ref q2, .ref q3, .null, .null, .int 0, .int 0, .int 0, .int 0, .int 0, .int 0])) :: ((([(q1, aI cA 4)] ++ [(q2, aI cA 4)]) ++ [(q3, aI cA 256)]) ++ [(q4, aI cA 24)])) := hD
  refine va_putF (ci := 7) (v := .ref q4) (C := RX7) (T := TX7) (N := 14) F.1 F.2.1 F.2.2.1 inX7 tyX7 tyX7_ok nmX7 F.2.2.2.1 F.2.2.2.2 hP hD hS 0 rfl rfl 6 (by decide) (F.2.2.1 _ qz340) (fun _ h9 => h9) rfl hin rfl (tyX7_ok 6 (by decide)) rfl rfl (Nat.le_of_ble_eq_true rfl) dX7_init_32 (fun H locs hP hD hS => ?_)
  have hP : va_P (dC, dI) vwCl ((a, .inr (7, [.null, .null, .null, .ref q1, .ref q2, .ref q3, .ref q4, .null, .int 0, .int 0, .int 0, .int 0, .int 0, .int 0])) :: ((([(q1, aI cA 4)] ++ [(q2, aI cA 4)]) ++ [(q3, aI cA 256)]) ++ [(q4, aI cA 24)])) H := hP
  have hD : va_D A ((a, .inr (7, [.null, .null, .null, .ref q1, .ref q2, .ref q3, .ref q4, .null, .int 0, .int 0, .int 0, .int 0, .int 0, .int 0])) :: ((([(q1, aI cA 4)] ++ [(q2, aI cA 4)]) ++ [(q3, aI cA 256)]) ++ [(q4, aI cA 24)])) := hD
  refine lv_aload_n F.1 F.2.1 dX7_init_35 rfl (lv_at hl 0 rfl) ?_
  refine a_ic F (0 : Int32) dX7_init_36 (by decide) ?_
  refine ct_newB F hA hP hD hS 0 (by decide) (by decide) (Nat.le_of_ble_eq_true rfl) (Nat.le_of_ble_eq_true rfl) (Nat.le_of_ble_eq_true rfl) dX7_init_37 (fun q5 H hP hD hS => ?_)
  have hP : va_P (dC, dI) vwCl ((a, .inr (7, [.null, .null, .null, .ref q1, .ref q2, .ref q3, .ref q4, .null, .int 0, .int 0, .int 0, .int 0, .int 0, .int 0])) :: (((([(q1, aI cA 4)] ++ [(q2, aI cA 4)]) ++ [(q3, aI cA 256)]) ++ [(q4, aI cA 24)]) ++ [(q5, aB cA 0)])) H := hP
  have hD : va_D A ((a, .inr (7, [.null, .null, .null, .ref q1, .ref q2, .ref q3, .ref q4, .null, .int 0, .int 0, .int 0, .int 0, .int 0, .int 0])) :: (((([(q1, aI cA 4)] ++ [(q2, aI cA 4)]) ++ [(q3, aI cA 256)]) ++ [(q4, aI cA 24)]) ++ [(q5, aB cA 0)])) := hD
  refine va_put (ci := 7) (v := .ref q5) (C := RX7) (T := TX7) (N := 14) F.1 F.2.1 F.2.2.1 inX7 tyX7 tyX7_ok nmX7 F.2.2.2.1 F.2.2.2.2 hP hD hS 0 rfl rfl 7 (by decide) (F.2.2.1 _ qz341) (fun _ h9 => h9) rfl (tyX7_ok 7 (by decide)) rfl rfl (Nat.le_of_ble_eq_true rfl) dX7_init_39 (fun H locs hP hD hS => ?_)
  have hP : va_P (dC, dI) vwCl ((a, .inr (7, [.null, .null, .null, .ref q1, .ref q2, .ref q3, .ref q4, .ref q5, .int 0, .int 0, .int 0, .int 0, .int 0, .int 0])) :: (((([(q1, aI cA 4)] ++ [(q2, aI cA 4)]) ++ [(q3, aI cA 256)]) ++ [(q4, aI cA 24)]) ++ [(q5, aB cA 0)])) H := hP
  have hD : va_D A ((a, .inr (7, [.null, .null, .null, .ref q1, .ref q2, .ref q3, .ref q4, .ref q5, .int 0, .int 0, .int 0, .int 0, .int 0, .int 0])) :: (((([(q1, aI cA 4)] ++ [(q2, aI cA 4)]) ++ [(q3, aI cA 256)]) ++ [(q4, aI cA 24)]) ++ [(q5, aB cA 0)])) := hD
  refine lv_aload_n F.1 F.2.1 dX7_init_42 rfl (lv_at hl 0 rfl) ?_
  refine a_ic F (0 : Int32) dX7_init_43 (by decide) ?_
  refine va_put (ci := 7) (v := .int (0 : Int32)) (C := RX7) (T := TX7) (N := 14) F.1 F.2.1 F.2.2.1 inX7 tyX7 tyX7_ok nmX7 F.2.2.2.1 F.2.2.2.2 hP hD hS 0 rfl rfl 8 (by decide) (F.2.2.1 _ qz342) (fun _ h9 => h9) rfl (tyX7_ok 8 (by decide)) rfl rfl (Nat.le_of_ble_eq_true rfl) dX7_init_44 (fun H locs hP hD hS => ?_)
  have hP : va_P (dC, dI) vwCl ((a, .inr (7, [.null, .null, .null, .ref q1, .ref q2, .ref q3, .ref q4, .ref q5, .int (0 : Int32), .int 0, .int 0, .int 0, .int 0, .int 0])) :: (((([(q1, aI cA 4)] ++ [(q2, aI cA 4)]) ++ [(q3, aI cA 256)]) ++ [(q4, aI cA 24)]) ++ [(q5, aB cA 0)])) H := hP
  have hD : va_D A ((a, .inr (7, [.null, .null, .null, .ref q1, .ref q2, .ref q3, .ref q4, .ref q5, .int (0 : Int32), .int 0, .int 0, .int 0, .int 0, .int 0])) :: (((([(q1, aI cA 4)] ++ [(q2, aI cA 4)]) ++ [(q3, aI cA 256)]) ++ [(q4, aI cA 24)]) ++ [(q5, aB cA 0)])) := hD
  refine lv_aload_n F.1 F.2.1 dX7_init_47 rfl (lv_at hl 0 rfl) ?_
  refine a_ic F (0 : Int32) dX7_init_48 (by decide) ?_
  refine va_put (ci := 7) (v := .int (0 : Int32)) (C := RX7) (T := TX7) (N := 14) F.1 F.2.1 F.2.2.1 inX7 tyX7 tyX7_ok nmX7 F.2.2.2.1 F.2.2.2.2 hP hD hS 0 rfl rfl 9 (by decide) (F.2.2.1 _ qz343) (fun _ h9 => h9) rfl (tyX7_ok 9 (by decide)) rfl rfl (Nat.le_of_ble_eq_true rfl) dX7_init_49 (fun H locs hP hD hS => ?_)
  have hP : va_P (dC, dI) vwCl ((a, .inr (7, [.null, .null, .null, .ref q1, .ref q2, .ref q3, .ref q4, .ref q5, .int (0 : Int32), .int (0 : Int32), .int 0, .int 0, .int 0, .int 0])) :: (((([(q1, aI cA 4)] ++ [(q2, aI cA 4)]) ++ [(q3, aI cA 256)]) ++ [(q4, aI cA 24)]) ++ [(q5, aB cA 0)])) H := hP
  have hD : va_D A ((a, .inr (7, [.null, .null, .null, .ref q1, .ref q2, .ref q3, .ref q4, .ref q5, .int (0 : Int32), .int (0 : Int32), .int 0, .int 0, .int 0, .int 0])) :: (((([(q1, aI cA 4)] ++ [(q2, aI cA 4)]) ++ [(q3, aI cA 256)]) ++ [(q4, aI cA 24)]) ++ [(q5, aB cA 0)])) := hD
  refine lv_aload_n F.1 F.2.1 dX7_init_52 rfl (lv_at hl 0 rfl) ?_
  refine a_ic F (0 : Int32) dX7_init_53 (by decide) ?_
  refine va_put (ci := 7) (v := .int (0 : Int32)) (C := RX7) (T := TX7) (N := 14) F.1 F.2.1 F.2.2.1 inX7 tyX7 tyX7_ok nmX7 F.2.2.2.1 F.2.2.2.2 hP hD hS 0 rfl rfl 10 (by decide) (F.2.2.1 _ qz344) (fun _ h9 => h9) rfl (tyX7_ok 10 (by decide)) rfl rfl (Nat.le_of_ble_eq_true rfl) dX7_init_54 (fun H locs hP hD hS => ?_)
  have hP : va_P (dC, dI) vwCl ((a, .inr (7, [.null, .null, .null, .ref q1, .ref q2, .ref q3, .ref q4, .ref q5, .int (0 : Int32), .int (0 : Int32), .int (0 : Int32), .int 0, .int 0, .int 0])) :: (((([(q1, aI cA 4)] ++ [(q2, aI cA 4)]) ++ [(q3, aI cA 256)]) ++ [(q4, aI cA 24)]) ++ [(q5, aB cA 0)])) H := hP
  have hD : va_D A ((a, .inr (7, [.null, .null, .null, .ref q1, .ref q2, .ref q3, .ref q4, .ref q5, .int (0 : Int32), .int (0 : Int32), .int (0 : Int32), .int 0, .int 0, .int 0])) :: (((([(q1, aI cA 4)] ++ [(q2, aI cA 4)]) ++ [(q3, aI cA 256)]) ++ [(q4, aI cA 24)]) ++ [(q5, aB cA 0)])) := hD
  refine lv_aload_n F.1 F.2.1 dX7_init_57 rfl (lv_at hl 0 rfl) ?_
  refine a_ic F (0 : Int32) dX7_init_58 (by decide) ?_
  refine va_put (ci := 7) (v := .int (0 : Int32)) (C := RX7) (T := TX7) (N := 14) F.1 F.2.1 F.2.2.1 inX7 tyX7 tyX7_ok nmX7 F.2.2.2.1 F.2.2.2.2 hP hD hS 0 rfl rfl 11 (by decide) (F.2.2.1 _ qz345) (fun _ h9 => h9) rfl (tyX7_ok 11 (by decide)) rfl rfl (Nat.le_of_ble_eq_true rfl) dX7_init_59 (fun H locs hP hD hS => ?_)
  have hP : va_P (dC, dI) vwCl ((a, .inr (7, [.null, .null, .null, .ref q1, .ref q2, .ref q3, .ref q4, .ref q5, .int (0 : Int32), .int (0 : Int32), .int (0 : Int32), .int (0 : Int32), .int 0, .int 0])) :: (((([(q1, aI cA 4)] ++ [(q2, aI cA 4)]) ++ [(q3, aI cA 256)]) ++ [(q4, aI cA 24)]) ++ [(q5, aB cA 0)])) H := hP
  have hD : va_D A ((a, .inr (7, [.null, .null, .null, .ref q1, .ref q2, .ref q3, .ref q4, .ref q5, .int (0 : Int32), .int (0 : Int32), .int (0 : Int32), .int (0 : Int32), .int 0, .int 0])) :: (((([(q1, aI cA 4)] ++ [(q2, aI cA 4)]) ++ [(q3, aI cA 256)]) ++ [(q4, aI cA 24)]) ++ [(q5, aB cA 0)])) := hD
  refine lv_aload_n F.1 F.2.1 dX7_init_62 rfl (lv_at hl 0 rfl) ?_
  refine a_ic F (0 : Int32) dX7_init_63 (by decide) ?_
  refine va_put (ci := 7) (v := .int (0 : Int32)) (C := RX7) (T := TX7) (N := 14) F.1 F.2.1 F.2.2.1 inX7 tyX7 tyX7_ok nmX7 F.2.2.2.1 F.2.2.2.2 hP hD hS 0 rfl rfl 12 (by decide) (F.2.2.1 _ qz346) (fun _ h9 => h9) rfl (tyX7_ok 12 (by decide)) rfl rfl (Nat.le_of_ble_eq_true rfl) dX7_init_64 (fun H locs hP hD hS => ?_)
  have hP : va_P (dC, dI) vwCl ((a, .inr (7, [.null, .null, .null, .ref q1, .ref q2, .ref q3, .ref q4, .ref q5, .int (0 : Int32), .int (0 : Int32), .int (0 : Int32), .int (0 : Int32), .int (0 : Int32), .int 0])) :: (((([(q1, aI cA 4)] ++ [(q2, aI cA 4)]) ++ [(q3, aI cA 256)]) ++ [(q4, aI cA 24)]) ++ [(q5, aB cA 0)])) H := hP
  have hD : va_D A ((a, .inr (7, [.null, .null, .null, .ref q1, .ref q2, .ref q3, .ref q4, .ref q5, .int (0 : Int32), .int (0 : Int32), .int (0 : Int32), .int (0 : Int32), .int (0 : Int32), .int 0])) :: (((([(q1, aI cA 4)] ++ [(q2, aI cA 4)]) ++ [(q3, aI cA 256)]) ++ [(q4, aI cA 24)]) ++ [(q5, aB cA 0)])) := hD
  refine lv_aload_n F.1 F.2.1 dX7_init_67 rfl (lv_at hl 0 rfl) ?_
  refine a_ic F (0 : Int32) dX7_init_68 (by decide) ?_
  refine va_put (ci := 7) (v := .int (0 : Int32)) (C := RX7) (T := TX7) (N := 14) F.1 F.2.1 F.2.2.1 inX7 tyX7 tyX7_ok nmX7 F.2.2.2.1 F.2.2.2.2 hP hD hS 0 rfl rfl 13 (by decide) (F.2.2.1 _ qz347) (fun _ h9 => h9) rfl (tyX7_ok 13 (by decide)) rfl rfl (Nat.le_of_ble_eq_true rfl) dX7_init_69 (fun H locs hP hD hS => ?_)
  have hP : va_P (dC, dI) vwCl ((a, .inr (7, [.null, .null, .null, .ref q1, .ref q2, .ref q3, .ref q4, .ref q5, .int (0 : Int32), .int (0 : Int32), .int (0 : Int32), .int (0 : Int32), .int (0 : Int32), .int (0 : Int32)])) :: (((([(q1, aI cA 4)] ++ [(q2, aI cA 4)]) ++ [(q3, aI cA 256)]) ++ [(q4, aI cA 24)]) ++ [(q5, aB cA 0)])) H := hP
  have hD : va_D A ((a, .inr (7, [.null, .null, .null, .ref q1, .ref q2, .ref q3, .ref q4, .ref q5, .int (0 : Int32), .int (0 : Int32), .int (0 : Int32), .int (0 : Int32), .int (0 : Int32), .int (0 : Int32)])) :: (((([(q1, aI cA 4)] ++ [(q2, aI cA 4)]) ++ [(q3, aI cA 256)]) ++ [(q4, aI cA 24)]) ++ [(q5, aB cA 0)])) := hD
  refine lv_aload_n F.1 F.2.1 dX7_init_72 rfl (lv_at hl 0 rfl) ?_
  refine lv_aload_n F.1 F.2.1 dX7_init_73 rfl (lv_at hl 1 rfl) ?_
  refine va_putF (ci := 7) (v := .ref r1) (C := RX7) (T := TX7) (N := 14) F.1 F.2.1 F.2.2.1 inX7 tyX7 tyX7_ok nmX7 F.2.2.2.1 F.2.2.2.2 hP hD hS 0 rfl rfl 0 (by decide) (F.2.2.1 _ qz334) (fun _ h9 => h9) rfl hin rfl (tyX7_ok 0 (by decide)) rfl rfl (Nat.le_of_ble_eq_true rfl) dX7_init_74 (fun H locs hP hD hS => ?_)
  have hP : va_P (dC, dI) vwCl ((a, .inr (7, [.ref r1, .null, .null, .ref q1, .ref q2, .ref q3, .ref q4, .ref q5, .int (0 : Int32), .int (0 : Int32), .int (0 : Int32), .int (0 : Int32), .int (0 : Int32), .int (0 : Int32)])) :: (((([(q1, aI cA 4)] ++ [(q2, aI cA 4)]) ++ [(q3, aI cA 256)]) ++ [(q4, aI cA 24)]) ++ [(q5, aB cA 0)])) H := hP
  have hD : va_D A ((a, .inr (7, [.ref r1, .null, .null, .ref q1, .ref q2, .ref q3, .ref q4, .ref q5, .int (0 : Int32), .int (0 : Int32), .int (0 : Int32), .int (0 : Int32), .int (0 : Int32), .int (0 : Int32)])) :: (((([(q1, aI cA 4)] ++ [(q2, aI cA 4)]) ++ [(q3, aI cA 256)]) ++ [(q4, aI cA 24)]) ++ [(q5, aB cA 0)])) := hD
  refine lv_aload_n F.1 F.2.1 dX7_init_77 rfl (lv_at hl 0 rfl) ?_
  refine lv_aload_n F.1 F.2.1 dX7_init_78 rfl (lv_at hl 2 rfl) ?_
  refine va_putF (ci := 7) (v := .ref r2) (C := RX7) (T := TX7) (N := 14) F.1 F.2.1 F.2.2.1 inX7 tyX7 tyX7_ok nmX7 F.2.2.2.1 F.2.2.2.2 hP hD hS 0 rfl rfl 1 (by decide) (F.2.2.1 _ qz335) (fun _ h9 => h9) rfl hin rfl (tyX7_ok 1 (by decide)) rfl rfl (Nat.le_of_ble_eq_true rfl) dX7_init_79 (fun H locs hP hD hS => ?_)
  have hP : va_P (dC, dI) vwCl ((a, .inr (7, [.ref r1, .ref r2, .null, .ref q1, .ref q2, .ref q3, .ref q4, .ref q5, .int (0 : Int32), .int (0 : Int32), .int (0 : Int32), .int (0 : Int32), .int (0 : Int32), .int (0 : Int32)])) :: (((([(q1, aI cA 4)] ++ [(q2, aI cA 4)]) ++ [(q3, aI cA 256)]) ++ [(q4, aI cA 24)]) ++ [(q5, aB cA 0)])) H := hP
  have hD : va_D A ((a, .inr (7, [.ref r1, .ref r2, .null, .ref q1, .ref q2, .ref q3, .ref q4, .ref q5, .int (0 : Int32), .int (0 : Int32), .int (0 : Int32), .int (0 : Int32), .int (0 : Int32), .int (0 : Int32)])) :: (((([(q1, aI cA 4)] ++ [(q2, aI cA 4)]) ++ [(q3, aI cA 256)]) ++ [(q4, aI cA 24)]) ++ [(q5, aB cA 0)])) := hD
  refine lv_aload_n F.1 F.2.1 dX7_init_82 rfl (lv_at hl 0 rfl) ?_
  refine lv_aload_n F.1 F.2.1 dX7_init_83 rfl (lv_at hl 3 rfl) ?_
  refine va_putF (ci := 7) (v := .ref r3) (C := RX7) (T := TX7) (N := 14) F.1 F.2.1 F.2.2.1 inX7 tyX7 tyX7_ok nmX7 F.2.2.2.1 F.2.2.2.2 hP hD hS 0 rfl rfl 2 (by decide) (F.2.2.1 _ qz336) (fun _ h9 => h9) rfl hin rfl (tyX7_ok 2 (by decide)) rfl rfl (Nat.le_of_ble_eq_true rfl) dX7_init_84 (fun H locs hP hD hS => ?_)
  have hP : va_P (dC, dI) vwCl ((a, .inr (7, [.ref r1, .ref r2, .ref r3, .ref q1, .ref q2, .ref q3, .ref q4, .ref q5, .int (0 : Int32), .int (0 : Int32), .int (0 : Int32), .int (0 : Int32), .int (0 : Int32), .int (0 : Int32)])) :: (((([(q1, aI cA 4)] ++ [(q2, aI cA 4)]) ++ [(q3, aI cA 256)]) ++ [(q4, aI cA 24)]) ++ [(q5, aB cA 0)])) H := hP
  have hD : va_D A ((a, .inr (7, [.ref r1, .ref r2, .ref r3, .ref q1, .ref q2, .ref q3, .ref q4, .ref q5, .int (0 : Int32), .int (0 : Int32), .int (0 : Int32), .int (0 : Int32), .int (0 : Int32), .int (0 : Int32)])) :: (((([(q1, aI cA 4)] ++ [(q2, aI cA 4)]) ++ [(q3, aI cA 256)]) ++ [(q4, aI cA 24)]) ++ [(q5, aB cA 0)])) := hD
  exact ct_ret (fun i => ([q1, q2, q3, q4, q5] : List Nat).getD i 0) F hr hlocks hP hD hS rfl (Nat.le_of_ble_eq_true rfl) (Nat.le_of_ble_eq_true rfl) dX7_init_87
def kI : (Nat → Prop) → State → Prop := fun _ U => va_Nw (.methodLinkNest RX4 11 yX2_init "WellPromises") U ∧ va_Nw (.methodLinkNest RX4 20 yX8_init "WellPromises") U
theorem kI_b : ct_KB kI := fun _ U V h _ k => ⟨va_Nw.same rfl h.symm k.1, va_Nw.same rfl h.symm k.2⟩
def w_X4_init (cA : Nat → ClassId) (a : Nat) (q : Nat → Nat) : va_W := (a, .inr (4, [.ref (q 0), .ref (q 9), .ref (q 13), .ref (q 14), .int (0 : Int32)])) :: ((((w_X2_init cA (q 0)  (fun i => q (1 + i))) ++ (w_X8_init cA (q 9)  (fun i => q (10 + i)))) ++ [(q 13, aI cA 31)]) ++ [(q 14, aI cA 320)])
set_option maxHeartbeats 1000000 in
set_option maxRecDepth 100000 in
theorem t_X4_init (l : Launch) (dC : Nat → ClassId) (dI : Nat → Nat → Nat) (cA : Nat → ClassId) (a : Nat) : ct_M l yX4_init (.code yX4_init cX4_init 1 none :: TB) 4 15 661 (dC, dI) cA kI [.ref a] [(a, .inr (4, [.null, .null, .null, .null, .int 0]))] (w_X4_init cA a) := by
  refine ct_M.of (cc := cX4_init) (maxL := 1) (by decide) rfl (Nat.le_of_ble_eq_true rfl) ?_
  intro p e s m below meth c A ls F hml hr hlocks hin hk hA hP hD hS hl
  have F : ac_X p s m [.ref a].toArray c cX4_init RX4 TB (dC, dI) vwCl (ac_ty cA) := ⟨F.1, F.2.1, fun w h => F.2.2.1 w (List.mem_cons_of_mem _ h), F.2.2.2.1, F.2.2.2.2⟩
  have hl : lv_has ls 1 [(0, .ref a)] := hl
  refine lv_aload_n F.1 F.2.1 dX4_init_0 rfl (lv_at hl 0 rfl) ?_
  refine ct_obj F hml hl.1 qz481 qz32 qz33 dX4_init_1 (Nat.le_of_ble_eq_true rfl) (Nat.le_of_ble_eq_true rfl) ?_
  refine lv_aload_n F.1 F.2.1 dX4_init_4 rfl (lv_at hl 0 rfl) ?_
  refine va_new (ci := 2) (fs := [.int 0, .int 0, .int 0, .int 0, .int 0, .int 0, .int 0, .int 0, .int 0, .null, .null, .null, .null, .null, .null, .null, .null]) (C := RX2) (T := TX2) (N := 17) F.1 F.2.1 F.2.2.1 inX2 tyX2 tyX2_ok F.2.2.2.1 (F.2.2.1 _ qz482) (F.2.2.1 _ qz146) (F.2.2.1 _ qz7) F.2.2.2.2 hP hD hS hA rfl zf_X2 (Nat.le_of_ble_eq_true rfl) (Nat.le_of_ble_eq_true rfl) dX4_init_5 (fun q1 H hP hD hS => ?_)
  refine lv_dup F.1 F.2.1 dX4_init_8 rfl ?_
  refine ct_call F hml hl.1 hA hP hD hS (fun _ _ _ _ _ h => h) (fun _ _ _ _ _ => trivial) (As := []) (t_X2_init l dC dI cA q1) (host := "WellPromises") ⟨Or.inr (va_cnB 0 F.2.2.1 (tb_good qz149) rfl rfl rfl hk.1 (F.2.2.1 _ qz7) (by decide +kernel) (by decide)), rfl, F.2.2.1 _ qz148⟩ rfl rfl (Nat.le_of_ble_eq_true rfl) dX4_init_9 ⟨(Nat.le_of_ble_eq_true rfl), (Nat.le_of_ble_eq_true rfl)⟩ (fun σ9 H locs hP hD hS => ?_)
  have hP : va_P (dC, dI) vwCl ((a, .inr (4, [.null, .null, .null, .null, .int 0])) :: (w_X2_init cA q1 σ9)) H := hP
  have hD : va_D A ((a, .inr (4, [.null, .null, .null, .null, .int 0])) :: (w_X2_init cA q1 σ9)) := hD
  refine va_putF (ci := 4) (v := .ref q1) (C := RX4) (T := TX4) (N := 5) F.1 F.2.1 F.2.2.1 inX4 tyX4 tyX4_ok nmX4 F.2.2.2.1 F.2.2.2.2 hP hD hS 0 rfl rfl 0 (by decide) (F.2.2.1 _ qz486) (fun _ h9 => h9) rfl hin rfl (tyX4_ok 0 (by decide)) rfl rfl (Nat.le_of_ble_eq_true rfl) dX4_init_12 (fun H locs hP hD hS => ?_)
  have hP : va_P (dC, dI) vwCl ((a, .inr (4, [.ref q1, .null, .null, .null, .int 0])) :: (w_X2_init cA q1 σ9)) H := hP
  have hD : va_D A ((a, .inr (4, [.ref q1, .null, .null, .null, .int 0])) :: (w_X2_init cA q1 σ9)) := hD
  refine lv_aload_n F.1 F.2.1 dX4_init_15 rfl (lv_at hl 0 rfl) ?_
  refine va_new (ci := 8) (fs := [.null, .null, .null, .int 0, .int 0]) (C := RX8) (T := TX8) (N := 5) F.1 F.2.1 F.2.2.1 inX8 tyX8 tyX8_ok F.2.2.2.1 (F.2.2.1 _ qz484) (F.2.2.1 _ qz435) (F.2.2.1 _ qz14) F.2.2.2.2 hP hD hS hA rfl zf_X8 (Nat.le_of_ble_eq_true rfl) (Nat.le_of_ble_eq_true rfl) dX4_init_16 (fun q2 H hP hD hS => ?_)
  refine lv_dup F.1 F.2.1 dX4_init_19 rfl ?_
  refine ct_call F hml hl.1 hA hP hD hS (fun _ _ _ _ _ h => h) (fun _ _ _ _ _ => trivial) (As := []) (t_X8_init l dC dI cA q2) (host := "WellPromises") ⟨Or.inr (va_cnB 0 F.2.2.1 (tb_good qz438) rfl rfl rfl hk.2 (F.2.2.1 _ qz14) (by decide +kernel) (by decide)), rfl, F.2.2.1 _ qz437⟩ rfl rfl (Nat.le_of_ble_eq_true rfl) dX4_init_20 ⟨(Nat.le_of_ble_eq_true rfl), (Nat.le_of_ble_eq_true rfl)⟩ (fun σ20 H locs hP hD hS => ?_)
  have hP : va_P (dC, dI) vwCl ((a, .inr (4, [.ref q1, .null, .null, .null, .int 0])) :: ((w_X2_init cA q1 σ9) ++ (w_X8_init cA q2 σ20))) H := hP
  have hD : va_D A ((a, .inr (4, [.ref q1, .null, .null, .null, .int 0])) :: ((w_X2_init cA q1 σ9) ++ (w_X8_init cA q2 σ20))) := hD
  refine va_putF (ci := 4) (v := .ref q2) (C := RX4) (T := TX4) (N := 5) F.1 F.2.1 F.2.2.1 inX4 tyX4 tyX4_ok nmX4 F.2.2.2.1 F.2.2.2.2 hP hD hS 0 rfl rfl 1 (by decide) (F.2.2.1 _ qz487) (fun _ h9 => h9) rfl hin rfl (tyX4_ok 1 (by decide)) rfl rfl (Nat.le_of_ble_eq_true rfl) dX4_init_23 (fun H locs hP hD hS => ?_)
  have hP : va_P (dC, dI) vwCl ((a, .inr (4, [.ref q1, .ref q2, .null, .null, .int 0])) :: ((w_X2_init cA q1 σ9) ++ (w_X8_init cA q2 σ20))) H := hP
  have hD : va_D A ((a, .inr (4, [.ref q1, .ref q2, .null, .null, .int 0])) :: ((w_X2_init cA q1 σ9) ++ (w_X8_init cA q2 σ20))) := hD
  refine lv_aload_n F.1 F.2.1 dX4_init_26 rfl (lv_at hl 0 rfl) ?_
  refine a_bp F (31 : Int32) dX4_init_27 (by decide) ?_
  refine ct_newI F hA hP hD hS 31 (by decide) (by decide) (Nat.le_of_ble_eq_true rfl) (Nat.le_of_ble_eq_true rfl) (Nat.le_of_ble_eq_true rfl) dX4_init_29 (fun q3 H hP hD hS => ?_)
  have hP : va_P (dC, dI) vwCl ((a, .inr (4, [.ref q1, .ref q2, .null, .null, .int 0])) :: (((w_X2_init cA q1 σ9) ++ (w_X8_init cA q2 σ20)) ++ [(q3, aI cA 31)])) H := hP
  have hD : va_D A ((a, .inr (4, [.ref q1, .ref q2, .null, .null, .int 0])) :: (((w_X2_init cA q1 σ9) ++ (w_X8_init cA q2 σ20)) ++ [(q3, aI cA 31)])) := hD
  refine va_putF (ci := 4) (v := .ref q3) (C := RX4) (T := TX4) (N := 5) F.1 F.2.1 F.2.2.1 inX4 tyX4 tyX4_ok nmX4 F.2.2.2.1 F.2.2.2.2 hP hD hS 0 rfl rfl 2 (by decide) (F.2.2.1 _ qz488) (fun _ h9 => h9) rfl hin rfl (tyX4_ok 2 (by decide)) rfl rfl (Nat.le_of_ble_eq_true rfl) dX4_init_31 (fun H locs hP hD hS => ?_)
  have hP : va_P (dC, dI) vwCl ((a, .inr (4, [.ref q1, .ref q2, .ref q3, .null, .int 0])) :: (((w_X2_init cA q1 σ9) ++ (w_X8_init cA q2 σ20)) ++ [(q3, aI cA 31)])) H := hP
  have hD : va_D A ((a, .inr (4, [.ref q1, .ref q2, .ref q3, .null, .int 0])) :: (((w_X2_init cA q1 σ9) ++ (w_X8_init cA q2 σ20)) ++ [(q3, aI cA 31)])) := hD
  refine lv_aload_n F.1 F.2.1 dX4_init_34 rfl (lv_at hl 0 rfl) ?_
  refine a_sp F (320 : Int32) dX4_init_35 (by decide) ?_
  refine ct_newI F hA hP hD hS 320 (by decide) (by decide) (Nat.le_of_ble_eq_true rfl) (Nat.le_of_ble_eq_true rfl) (Nat.le_of_ble_eq_true rfl) dX4_init_38 (fun q4 H hP hD hS => ?_)
  have hP : va_P (dC, dI) vwCl ((a, .inr (4, [.ref q1, .ref q2, .ref q3, .null, .int 0])) :: ((((w_X2_init cA q1 σ9) ++ (w_X8_init cA q2 σ20)) ++ [(q3, aI cA 31)]) ++ [(q4, aI cA 320)])) H := hP
  have hD : va_D A ((a, .inr (4, [.ref q1, .ref q2, .ref q3, .null, .int 0])) :: ((((w_X2_init cA q1 σ9) ++ (w_X8_init cA q2 σ20)) ++ [(q3, aI cA 31)]) ++ [(q4, aI cA 320)])) := hD
  refine va_putF (ci := 4) (v := .ref q4) (C := RX4) (T := TX4) (N := 5) F.1 F.2.1 F.2.2.1 inX4 tyX4 tyX4_ok nmX4 F.2.2.2.1 F.2.2.2.2 hP hD hS 0 rfl rfl 3 (by decide) (F.2.2.1 _ qz489) (fun _ h9 => h9) rfl hin rfl (tyX4_ok 3 (by decide)) rfl rfl (Nat.le_of_ble_eq_true rfl) dX4_init_40 (fun H locs hP hD hS => ?_)
  have hP : va_P (dC, dI) vwCl ((a, .inr (4, [.ref q1, .ref q2, .ref q3, .ref q4, .int 0])) :: ((((w_X2_init cA q1 σ9) ++ (w_X8_init cA q2 σ20)) ++ [(q3, aI cA 31)]) ++ [(q4, aI cA 320)])) H := hP
  have hD : va_D A ((a, .inr (4, [.ref q1, .ref q2, .ref q3, .ref q4, .int 0])) :: ((((w_X2_init cA q1 σ9) ++ (w_X8_init cA q2 σ20)) ++ [(q3, aI cA 31)]) ++ [(q4, aI cA 320)])) := hD
  refine lv_aload_n F.1 F.2.1 dX4_init_43 rfl (lv_at hl 0 rfl) ?_
  refine a_ic F (0 : Int32) dX4_init_44 (by decide) ?_
  refine va_put (ci := 4) (v := .int (0 : Int32)) (C := RX4) (T := TX4) (N := 5) F.1 F.2.1 F.2.2.1 inX4 tyX4 tyX4_ok nmX4 F.2.2.2.1 F.2.2.2.2 hP hD hS 0 rfl rfl 4 (by decide) (F.2.2.1 _ qz490) (fun _ h9 => h9) rfl (tyX4_ok 4 (by decide)) rfl rfl (Nat.le_of_ble_eq_true rfl) dX4_init_45 (fun H locs hP hD hS => ?_)
  have hP : va_P (dC, dI) vwCl ((a, .inr (4, [.ref q1, .ref q2, .ref q3, .ref q4, .int (0 : Int32)])) :: ((((w_X2_init cA q1 σ9) ++ (w_X8_init cA q2 σ20)) ++ [(q3, aI cA 31)]) ++ [(q4, aI cA 320)])) H := hP
  have hD : va_D A ((a, .inr (4, [.ref q1, .ref q2, .ref q3, .ref q4, .int (0 : Int32)])) :: ((((w_X2_init cA q1 σ9) ++ (w_X8_init cA q2 σ20)) ++ [(q3, aI cA 31)]) ++ [(q4, aI cA 320)])) := hD
  exact ct_ret (fun i => ([q1, (σ9 0), (σ9 1), (σ9 2), (σ9 3), (σ9 4), (σ9 5), (σ9 6), (σ9 7), q2, (σ20 0), (σ20 1), (σ20 2), q3, q4] : List Nat).getD i 0) F hr hlocks hP hD hS rfl (Nat.le_of_ble_eq_true rfl) (Nat.le_of_ble_eq_true rfl) dX4_init_48
