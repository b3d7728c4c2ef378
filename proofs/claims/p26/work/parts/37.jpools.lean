/-! the words of String's methods that Tape.next comes to -/
def flJ0 : List (Nat × Nat × Nat × Nat) := []
theorem flJ0_ok : f_frok RJ0 (f_frl flJ0) := f_frok_of (f_pos [] (by decide +kernel) (by decide +kernel)) (by decide +kernel)
def fiJ0 : List (Nat × Int32) := []
theorem fiJ0_ok : ∀ j v, f_cnl fiJ0 j = some v → Cond.constant RJ0 j v ∈ fT := fun j v h => by cases h
def fjJ0 : List (Nat × Int64) := []
theorem fjJ0_ok : ∀ j v, f_cnl fjJ0 j = some v → Cond.constantLong RJ0 j v ∈ fT := fun j v h => by cases h
def mlJ0 : List (Nat × MethodName) := [(335, yJ0_coder_7d493), (492, yJ0_isLatin1_aae02), (505, yJ0_length_8abf5), (633, yJ0_indexOf_7cf53), (637, yJ1_indexOf_4cfef), (640, yJ2_indexOf_4cfef), (1062, yJ3_checkFromToIndex_8c36e)]
theorem mlJ0_ok : ∀ r ∈ mlJ0, Cond.methodLink RJ0 r.1 r.2 ∈ fT := fun r hr => f_pos (ws := mlJ0.map (fun r => Cond.methodLink RJ0 r.1 r.2)) [535, 525, 531, 521, 539, 554, 574] (by decide +kernel) (by decide +kernel) _ (List.mem_map.mpr ⟨r, hr, rfl⟩)
def flJ1 : List (Nat × Nat × Nat × Nat) := []
theorem flJ1_ok : f_frok RJ1 (f_frl flJ1) := f_frok_of (f_pos [] (by decide +kernel) (by decide +kernel)) (by decide +kernel)
def fiJ1 : List (Nat × Int32) := []
theorem fiJ1_ok : ∀ j v, f_cnl fiJ1 j = some v → Cond.constant RJ1 j v ∈ fT := fun j v h => by cases h
def fjJ1 : List (Nat × Int64) := []
theorem fjJ1_ok : ∀ j v, f_cnl fjJ1 j = some v → Cond.constantLong RJ1 j v ∈ fT := fun j v h => by cases h
def mlJ1 : List (Nat × MethodName) := [(38, yJ9_min_7cf53), (88, yJ1_canEncode_9a6ad), (92, yJ9_max_7cf53), (95, yJ1_indexOfChar_4cfef)]
theorem mlJ1_ok : ∀ r ∈ mlJ1, Cond.methodLink RJ1 r.1 r.2 ∈ fT := fun r hr => f_pos (ws := mlJ1.map (fun r => Cond.methodLink RJ1 r.1 r.2)) [548, 542, 545, 551] (by decide +kernel) (by decide +kernel) _ (List.mem_map.mpr ⟨r, hr, rfl⟩)
theorem kc_J0_coder_7d493 : ∀ w ∈ ([.instanceMethod yJ0_coder_7d493, .selects yJ0_coder_7d493.cls yJ0_coder_7d493 yJ0_coder_7d493, .initialized yJ0_coder_7d493.cls, .code yJ0_coder_7d493 cJ0_coder_7d493 1 (some .byte)] : List Cond), w ∈ fT := f_pos [536, 537, 14, 538] (by decide +kernel) (by decide +kernel)
theorem kc_J0_indexOf_0f7a4 : ∀ w ∈ ([.instanceMethod yJ0_indexOf_0f7a4, .selects yJ0_indexOf_0f7a4.cls yJ0_indexOf_0f7a4 yJ0_indexOf_0f7a4, .initialized yJ0_indexOf_0f7a4.cls, .code yJ0_indexOf_0f7a4 cJ0_indexOf_0f7a4 2 (f_rt 1)] : List Cond), w ∈ fT := f_pos [518, 519, 14, 520] (by decide +kernel) (by decide +kernel)
theorem kc_J0_indexOf_7cf53 : ∀ w ∈ ([.instanceMethod yJ0_indexOf_7cf53, .selects yJ0_indexOf_7cf53.cls yJ0_indexOf_7cf53 yJ0_indexOf_7cf53, .initialized yJ0_indexOf_7cf53.cls, .code yJ0_indexOf_7cf53 cJ0_indexOf_7cf53 3 (f_rt 1)] : List Cond), w ∈ fT := f_pos [522, 523, 14, 524] (by decide +kernel) (by decide +kernel)
theorem kc_J0_isLatin1_aae02 : ∀ w ∈ ([.instanceMethod yJ0_isLatin1_aae02, .selects yJ0_isLatin1_aae02.cls yJ0_isLatin1_aae02 yJ0_isLatin1_aae02, .initialized yJ0_isLatin1_aae02.cls, .code yJ0_isLatin1_aae02 cJ0_isLatin1_aae02 1 (f_rt 3)] : List Cond), w ∈ fT := f_pos [526, 527, 14, 528] (by decide +kernel) (by decide +kernel)
theorem kc_J0_length_8abf5 : ∀ w ∈ ([.instanceMethod yJ0_length_8abf5, .selects yJ0_length_8abf5.cls yJ0_length_8abf5 yJ0_length_8abf5, .initialized yJ0_length_8abf5.cls, .code yJ0_length_8abf5 cJ0_length_8abf5 1 (f_rt 1)] : List Cond), w ∈ fT := f_pos [532, 533, 14, 534] (by decide +kernel) (by decide +kernel)
theorem kc_J1_canEncode_9a6ad : ∀ w ∈ ([.static yJ1_canEncode_9a6ad, .initialized yJ1_canEncode_9a6ad.cls, .code yJ1_canEncode_9a6ad cJ1_canEncode_9a6ad 1 (f_rt 3)] : List Cond), w ∈ fT := f_pos [543, 15, 544] (by decide +kernel) (by decide +kernel)
theorem kc_J1_indexOfChar_4cfef : ∀ w ∈ ([.static yJ1_indexOfChar_4cfef, .initialized yJ1_indexOfChar_4cfef.cls, .code yJ1_indexOfChar_4cfef cJ1_indexOfChar_4cfef 6 (f_rt 1)] : List Cond), w ∈ fT := f_pos [552, 15, 553] (by decide +kernel) (by decide +kernel)
theorem kc_J1_indexOf_4cfef : ∀ w ∈ ([.static yJ1_indexOf_4cfef, .initialized yJ1_indexOf_4cfef.cls, .code yJ1_indexOf_4cfef cJ1_indexOf_4cfef 4 (f_rt 1)] : List Cond), w ∈ fT := f_pos [540, 15, 541] (by decide +kernel) (by decide +kernel)
theorem fk_38 : Cond.fieldLink RJ0 38 "java/lang/String" "COMPACT_STRINGS" "Z" ∈ fT := f_pos (ws := [Cond.fieldLink RJ0 38 "java/lang/String" "COMPACT_STRINGS" "Z"]) [529] (by decide +kernel) (by decide +kernel) _ (List.mem_of_getElem? (i := 0) rfl)
theorem fk_15 : Cond.fieldLink RJ0 15 "java/lang/String" "coder" "B" ∈ fT := f_pos (ws := [Cond.fieldLink RJ0 15 "java/lang/String" "coder" "B"]) [1885] (by decide +kernel) (by decide +kernel) _ (List.mem_of_getElem? (i := 0) rfl)
theorem fk_9 : Cond.fieldLink RJ0 9 "java/lang/String" "value" "[B" ∈ fT := f_pos (ws := [Cond.fieldLink RJ0 9 "java/lang/String" "value" "[B"]) [1886] (by decide +kernel) (by decide +kernel) _ (List.mem_of_getElem? (i := 0) rfl)
