theorem q2112 : Cond.fieldLink "PinEnginesModel" (490 : Nat) "PinEnginesModel" "error" "I" ∈ tb := tb_of (lw_c9 (List.mem_of_getElem? (i := 38) (by decide +kernel))) rfl
theorem q2113 : Cond.fieldLink "PinEnginesModel" (499 : Nat) "PinEnginesModel" "errorAt" "I" ∈ tb := tb_of (lw_c9 (List.mem_of_getElem? (i := 39) (by decide +kernel))) rfl
theorem q2114 : Cond.fieldLink "PinEnginesModel" (53 : Nat) "PinEnginesModel" "errorPosition" "I" ∈ tb := tb_of (lw_c9 (List.mem_of_getElem? (i := 40) (by decide +kernel))) rfl
theorem q2115 : Cond.fieldLink "PinEnginesModel" (493 : Nat) "PinEnginesModel" "nested" "I" ∈ tb := tb_of (lw_c9 (List.mem_of_getElem? (i := 41) (by decide +kernel))) rfl
theorem q2116 : Cond.fieldLink "PinEnginesModel" (85 : Nat) "PinEnginesModel" "operations" "[Ljava/lang/String;" ∈ tb := tb_of (lw_c9 (List.mem_of_getElem? (i := 42) (by decide +kernel))) rfl
theorem q2117 : Cond.fieldLink "PinEnginesModel" (105 : Nat) "PinEnginesModel" "conditions" "[Ljava/lang/String;" ∈ tb := tb_of (lw_c9 (List.mem_of_getElem? (i := 43) (by decide +kernel))) rfl
theorem q2118 : Cond.fieldLink "PinEnginesModel" (126 : Nat) "PinEnginesModel" "places" "[Ljava/lang/String;" ∈ tb := tb_of (lw_c9 (List.mem_of_getElem? (i := 44) (by decide +kernel))) rfl
theorem q2119 : Cond.fieldLink "PinEnginesModel" (195 : Nat) "PinEnginesModel" "others" "[Ljava/lang/String;" ∈ tb := tb_of (lw_c9 (List.mem_of_getElem? (i := 45) (by decide +kernel))) rfl
theorem q2120 : Cond.fieldLink "PinEnginesModel" (198 : Nat) "PinEnginesModel" "labelBegin" "[I" ∈ tb := tb_of (lw_c9 (List.mem_of_getElem? (i := 46) (by decide +kernel))) rfl
theorem q2121 : Cond.fieldLink "PinEnginesModel" (201 : Nat) "PinEnginesModel" "labelLength" "[I" ∈ tb := tb_of (lw_c9 (List.mem_of_getElem? (i := 47) (by decide +kernel))) rfl
theorem q2122 : Cond.fieldLink "PinEnginesModel" (204 : Nat) "PinEnginesModel" "nameBegin" "[I" ∈ tb := tb_of (lw_c9 (List.mem_of_getElem? (i := 48) (by decide +kernel))) rfl
theorem q2123 : Cond.fieldLink "PinEnginesModel" (207 : Nat) "PinEnginesModel" "nameLength" "[I" ∈ tb := tb_of (lw_c9 (List.mem_of_getElem? (i := 49) (by decide +kernel))) rfl
theorem q2124 : Cond.fieldLink "PinEnginesModel" (210 : Nat) "PinEnginesModel" "nameTarget" "[I" ∈ tb := tb_of (lw_c9 (List.mem_of_getElem? (i := 50) (by decide +kernel))) rfl
theorem q2125 : Cond.fieldLink "PinEnginesModel" (540 : Nat) "PinEnginesModel" "nameCount" "I" ∈ tb := tb_of (lw_c9 (List.mem_of_getElem? (i := 51) (by decide +kernel))) rfl
theorem q2126 : Cond.fieldLink "PinEnginesModel" (213 : Nat) "PinEnginesModel" "formatted" "[I" ∈ tb := tb_of (lw_c9 (List.mem_of_getElem? (i := 52) (by decide +kernel))) rfl
theorem q2127 : Cond.fieldLink "PinEnginesModel" (630 : Nat) "PinEnginesModel" "formattedLength" "I" ∈ tb := tb_of (lw_c9 (List.mem_of_getElem? (i := 53) (by decide +kernel))) rfl
theorem q2128 : Cond.fieldLink "PinEnginesModel" (216 : Nat) "PinEnginesModel" "names" "[Ljava/lang/String;" ∈ tb := tb_of (lw_c9 (List.mem_of_getElem? (i := 54) (by decide +kernel))) rfl
theorem q2129 : Cond.fieldLink "PinEnginesModel" (219 : Nat) "PinEnginesModel" "fields" "[I" ∈ tb := tb_of (lw_c9 (List.mem_of_getElem? (i := 55) (by decide +kernel))) rfl
theorem q2130 : Cond.fieldLink "PinEnginesModel" (222 : Nat) "PinEnginesModel" "codes" "[I" ∈ tb := tb_of (lw_c9 (List.mem_of_getElem? (i := 56) (by decide +kernel))) rfl
theorem q2131 : Cond.fieldLink "PinEnginesModel" (225 : Nat) "PinEnginesModel" "stack" "[I" ∈ tb := tb_of (lw_c9 (List.mem_of_getElem? (i := 57) (by decide +kernel))) rfl
theorem q2132 : Cond.fieldLink "PinEnginesModel" (651 : Nat) "PinEnginesModel" "codeCount" "I" ∈ tb := tb_of (lw_c9 (List.mem_of_getElem? (i := 58) (by decide +kernel))) rfl
theorem q2133 : Cond.laysFinal "PinEnginesModel" "PinEnginesModel" "now" "[I" ∈ tb := tb_of (lw_c9 (List.mem_of_getElem? (i := 59) (by decide +kernel))) rfl
theorem q2135 : Cond.laysFinal "PinEnginesModel" "PinEnginesModel" "draft" "[I" ∈ tb := tb_of (lw_c9 (List.mem_of_getElem? (i := 61) (by decide +kernel))) rfl
theorem q2137 : Cond.laysFinal "PinEnginesModel" "PinEnginesModel" "kept" "[I" ∈ tb := tb_of (lw_c9 (List.mem_of_getElem? (i := 63) (by decide +kernel))) rfl
theorem q2139 : Cond.laysFinal "PinEnginesModel" "PinEnginesModel" "snapshot" "[I" ∈ tb := tb_of (lw_c9 (List.mem_of_getElem? (i := 65) (by decide +kernel))) rfl
theorem q2141 : Cond.laysFinal "PinEnginesModel" "PinEnginesModel" "history" "[I" ∈ tb := tb_of (lw_c9 (List.mem_of_getElem? (i := 67) (by decide +kernel))) rfl
theorem q2143 : Cond.lays "PinEnginesModel" "PinEnginesModel" "undoCount" "I" ∈ tb := tb_of (lw_c9 (List.mem_of_getElem? (i := 69) (by decide +kernel))) rfl
theorem q2145 : Cond.lays "PinEnginesModel" "PinEnginesModel" "thrown" "I" ∈ tb := tb_of (lw_c9 (List.mem_of_getElem? (i := 71) (by decide +kernel))) rfl
theorem q2147 : Cond.lays "PinEnginesModel" "PinEnginesModel" "hasSnapshot" "Z" ∈ tb := tb_of (lw_c9 (List.mem_of_getElem? (i := 73) (by decide +kernel))) rfl
theorem q2149 : Cond.laysFinal "PinEnginesModel" "PinEnginesModel" "levels" "[I" ∈ tb := tb_of (lw_c9 (List.mem_of_getElem? (i := 75) (by decide +kernel))) rfl
theorem q2151 : Cond.laysFinal "PinEnginesModel" "PinEnginesModel" "flags" "[I" ∈ tb := tb_of (lw_c9 (List.mem_of_getElem? (i := 77) (by decide +kernel))) rfl
theorem q2153 : Cond.laysFinal "PinEnginesModel" "PinEnginesModel" "hasTick" "[Z" ∈ tb := tb_of (lw_c9 (List.mem_of_getElem? (i := 79) (by decide +kernel))) rfl
theorem q2155 : Cond.laysFinal "PinEnginesModel" "PinEnginesModel" "written" "[I" ∈ tb := tb_of (lw_c9 (List.mem_of_getElem? (i := 81) (by decide +kernel))) rfl
theorem q2157 : Cond.laysFinal "PinEnginesModel" "PinEnginesModel" "writtenBase" "[I" ∈ tb := tb_of (lw_c9 (List.mem_of_getElem? (i := 83) (by decide +kernel))) rfl
theorem q2159 : Cond.laysFinal "PinEnginesModel" "PinEnginesModel" "writtenSize" "[I" ∈ tb := tb_of (lw_c9 (List.mem_of_getElem? (i := 85) (by decide +kernel))) rfl
theorem q2161 : Cond.laysFinal "PinEnginesModel" "PinEnginesModel" "writtenValue" "[I" ∈ tb := tb_of (lw_c9 (List.mem_of_getElem? (i := 87) (by decide +kernel))) rfl
theorem q2163 : Cond.laysFinal "PinEnginesModel" "PinEnginesModel" "sideValue" "[I" ∈ tb := tb_of (lw_c9 (List.mem_of_getElem? (i := 89) (by decide +kernel))) rfl
theorem q2165 : Cond.lays "PinEnginesModel" "PinEnginesModel" "raised" "I" ∈ tb := tb_of (lw_c9 (List.mem_of_getElem? (i := 91) (by decide +kernel))) rfl
theorem q2167 : Cond.lays "PinEnginesModel" "PinEnginesModel" "cleared" "I" ∈ tb := tb_of (lw_c9 (List.mem_of_getElem? (i := 93) (by decide +kernel))) rfl
theorem q2169 : Cond.lays "PinEnginesModel" "PinEnginesModel" "portNow" "I" ∈ tb := tb_of (lw_c9 (List.mem_of_getElem? (i := 95) (by decide +kernel))) rfl
theorem q2171 : Cond.lays "PinEnginesModel" "PinEnginesModel" "jumpsTo" "I" ∈ tb := tb_of (lw_c9 (List.mem_of_getElem? (i := 97) (by decide +kernel))) rfl
theorem q2173 : Cond.laysFinal "PinEnginesModel" "PinEnginesModel" "buffer" "[I" ∈ tb := tb_of (lw_c9 (List.mem_of_getElem? (i := 99) (by decide +kernel))) rfl
theorem q2175 : Cond.lays "PinEnginesModel" "PinEnginesModel" "bufferLength" "I" ∈ tb := tb_of (lw_c9 (List.mem_of_getElem? (i := 101) (by decide +kernel))) rfl
theorem q2177 : Cond.lays "PinEnginesModel" "PinEnginesModel" "limit" "I" ∈ tb := tb_of (lw_c9 (List.mem_of_getElem? (i := 103) (by decide +kernel))) rfl
theorem q2179 : Cond.lays "PinEnginesModel" "PinEnginesModel" "next" "I" ∈ tb := tb_of (lw_c9 (List.mem_of_getElem? (i := 105) (by decide +kernel))) rfl
theorem q2181 : Cond.lays "PinEnginesModel" "PinEnginesModel" "beginsAt" "I" ∈ tb := tb_of (lw_c9 (List.mem_of_getElem? (i := 107) (by decide +kernel))) rfl
theorem q2183 : Cond.lays "PinEnginesModel" "PinEnginesModel" "token" "I" ∈ tb := tb_of (lw_c9 (List.mem_of_getElem? (i := 109) (by decide +kernel))) rfl
theorem q2185 : Cond.lays "PinEnginesModel" "PinEnginesModel" "error" "I" ∈ tb := tb_of (lw_c9 (List.mem_of_getElem? (i := 111) (by decide +kernel))) rfl
theorem q2187 : Cond.lays "PinEnginesModel" "PinEnginesModel" "errorAt" "I" ∈ tb := tb_of (lw_c9 (List.mem_of_getElem? (i := 113) (by decide +kernel))) rfl
theorem q2189 : Cond.lays "PinEnginesModel" "PinEnginesModel" "errorPosition" "I" ∈ tb := tb_of (lw_c9 (List.mem_of_getElem? (i := 115) (by decide +kernel))) rfl
theorem q2191 : Cond.lays "PinEnginesModel" "PinEnginesModel" "nested" "I" ∈ tb := tb_of (lw_c9 (List.mem_of_getElem? (i := 117) (by decide +kernel))) rfl
theorem q2193 : Cond.laysFinal "PinEnginesModel" "PinEnginesModel" "operations" "[Ljava/lang/String;" ∈ tb := tb_of (lw_c9 (List.mem_of_getElem? (i := 119) (by decide +kernel))) rfl
theorem q2195 : Cond.laysFinal "PinEnginesModel" "PinEnginesModel" "conditions" "[Ljava/lang/String;" ∈ tb := tb_of (lw_c9 (List.mem_of_getElem? (i := 121) (by decide +kernel))) rfl
theorem q2197 : Cond.laysFinal "PinEnginesModel" "PinEnginesModel" "places" "[Ljava/lang/String;" ∈ tb := tb_of (lw_c9 (List.mem_of_getElem? (i := 123) (by decide +kernel))) rfl
theorem q2199 : Cond.laysFinal "PinEnginesModel" "PinEnginesModel" "others" "[Ljava/lang/String;" ∈ tb := tb_of (lw_c9 (List.mem_of_getElem? (i := 125) (by decide +kernel))) rfl
theorem q2201 : Cond.laysFinal "PinEnginesModel" "PinEnginesModel" "labelBegin" "[I" ∈ tb := tb_of (lw_c9 (List.mem_of_getElem? (i := 127) (by decide +kernel))) rfl
theorem q2203 : Cond.laysFinal "PinEnginesModel" "PinEnginesModel" "labelLength" "[I" ∈ tb := tb_of (lw_c9 (List.mem_of_getElem? (i := 129) (by decide +kernel))) rfl
theorem q2205 : Cond.laysFinal "PinEnginesModel" "PinEnginesModel" "nameBegin" "[I" ∈ tb := tb_of (lw_c9 (List.mem_of_getElem? (i := 131) (by decide +kernel))) rfl
theorem q2207 : Cond.laysFinal "PinEnginesModel" "PinEnginesModel" "nameLength" "[I" ∈ tb := tb_of (lw_c9 (List.mem_of_getElem? (i := 133) (by decide +kernel))) rfl
theorem q2209 : Cond.laysFinal "PinEnginesModel" "PinEnginesModel" "nameTarget" "[I" ∈ tb := tb_of (lw_c9 (List.mem_of_getElem? (i := 135) (by decide +kernel))) rfl
theorem q2211 : Cond.lays "PinEnginesModel" "PinEnginesModel" "nameCount" "I" ∈ tb := tb_of (lw_c9 (List.mem_of_getElem? (i := 137) (by decide +kernel))) rfl
theorem q2213 : Cond.laysFinal "PinEnginesModel" "PinEnginesModel" "formatted" "[I" ∈ tb := tb_of (lw_c9 (List.mem_of_getElem? (i := 139) (by decide +kernel))) rfl
theorem q2215 : Cond.lays "PinEnginesModel" "PinEnginesModel" "formattedLength" "I" ∈ tb := tb_of (lw_c9 (List.mem_of_getElem? (i := 141) (by decide +kernel))) rfl
theorem q2217 : Cond.laysFinal "PinEnginesModel" "PinEnginesModel" "names" "[Ljava/lang/String;" ∈ tb := tb_of (lw_c9 (List.mem_of_getElem? (i := 143) (by decide +kernel))) rfl
theorem q2219 : Cond.laysFinal "PinEnginesModel" "PinEnginesModel" "fields" "[I" ∈ tb := tb_of (lw_c9 (List.mem_of_getElem? (i := 145) (by decide +kernel))) rfl
theorem q2221 : Cond.laysFinal "PinEnginesModel" "PinEnginesModel" "codes" "[I" ∈ tb := tb_of (lw_c9 (List.mem_of_getElem? (i := 147) (by decide +kernel))) rfl
theorem q2223 : Cond.laysFinal "PinEnginesModel" "PinEnginesModel" "stack" "[I" ∈ tb := tb_of (lw_c9 (List.mem_of_getElem? (i := 149) (by decide +kernel))) rfl
theorem q2225 : Cond.lays "PinEnginesModel" "PinEnginesModel" "codeCount" "I" ∈ tb := tb_of (lw_c9 (List.mem_of_getElem? (i := 151) (by decide +kernel))) rfl
theorem q2228 : Cond.arrayClass Jvm.ClassFile.FieldType.boolean ∈ tb := tb_of (lw_c9 (List.mem_of_getElem? (i := 154) (by decide +kernel))) rfl
theorem q2229 : Cond.methodLink "PinEnginesLaw" (138 : Nat) ({ cls := "PinEnginesModel", name := "thrown", desc := "()I" } : Jvm.MethodName) ∈ tb := tb_of (lw_c9 (List.mem_of_getElem? (i := 155) (by decide +kernel))) rfl
theorem q2233 : Cond.methodLink "PinEnginesLaw" (149 : Nat) ({ cls := "PinEnginesModel", name := "instructionCount", desc := "()I" } : Jvm.MethodName) ∈ tb := tb_of (lw_c9 (List.mem_of_getElem? (i := 159) (by decide +kernel))) rfl
theorem q2237 : Cond.methodLink "PinEnginesLaw" (153 : Nat) ({ cls := "PinEnginesModel", name := "engines", desc := "()I" } : Jvm.MethodName) ∈ tb := tb_of (lw_c9 (List.mem_of_getElem? (i := 163) (by decide +kernel))) rfl
theorem q2241 : Cond.methodLink "PinEnginesModel" (249 : Nat) ({ cls := "PinEnginesModel", name := "setting", desc := "(II)I" } : Jvm.MethodName) ∈ tb := tb_of (lw_c9 (List.mem_of_getElem? (i := 167) (by decide +kernel))) rfl
theorem q2243 : Cond.instanceMethod ({ cls := "PinEnginesModel", name := "setting", desc := "(II)I" } : Jvm.MethodName) ∈ tb := tb_of (lw_c9 (List.mem_of_getElem? (i := 169) (by decide +kernel))) rfl
set_option maxRecDepth 100000 in
theorem q2244 : Cond.code ({ cls := "PinEnginesModel", name := "setting", desc := "(II)I" } : Jvm.MethodName) prog_15_method_12_code (3 : Nat) (Option.some Jvm.ClassFile.FieldType.int) ∈ tb := tb_of (lw_c9 (List.mem_of_getElem? (i := 170) rfl)) rfl
theorem q2245 : Cond.methodLink "PinEnginesLaw" (157 : Nat) ({ cls := "PinEnginesModel", name := "clock", desc := "()I" } : Jvm.MethodName) ∈ tb := tb_of (lw_c9 (List.mem_of_getElem? (i := 171) (by decide +kernel))) rfl
theorem q2249 : Cond.methodLink "PinEnginesLaw" (160 : Nat) ({ cls := "PinEnginesModel", name := "level", desc := "(I)I" } : Jvm.MethodName) ∈ tb := tb_of (lw_c9 (List.mem_of_getElem? (i := 175) (by decide +kernel))) rfl
theorem q2253 : Cond.methodLink "PinEnginesModel" (255 : Nat) ({ cls := "PinEnginesModel", name := "isPin", desc := "(I)Z" } : Jvm.MethodName) ∈ tb := tb_of (lw_c9 (List.mem_of_getElem? (i := 179) (by decide +kernel))) rfl
theorem q2254 : Cond.static ({ cls := "PinEnginesModel", name := "isPin", desc := "(I)Z" } : Jvm.MethodName) ∈ tb := tb_of (lw_c9 (List.mem_of_getElem? (i := 180) (by decide +kernel))) rfl
set_option maxRecDepth 100000 in
theorem q2255 : Cond.code ({ cls := "PinEnginesModel", name := "isPin", desc := "(I)Z" } : Jvm.MethodName) prog_15_method_16_code (1 : Nat) (Option.some Jvm.ClassFile.FieldType.boolean) ∈ tb := tb_of (lw_c9 (List.mem_of_getElem? (i := 181) rfl)) rfl
theorem q2256 : Cond.methodLink "PinEnginesModel" (245 : Nat) ({ cls := "PinEnginesModel", name := "inRange", desc := "(III)Z" } : Jvm.MethodName) ∈ tb := tb_of (lw_c9 (List.mem_of_getElem? (i := 182) (by decide +kernel))) rfl
theorem q2257 : Cond.static ({ cls := "PinEnginesModel", name := "inRange", desc := "(III)Z" } : Jvm.MethodName) ∈ tb := tb_of (lw_c9 (List.mem_of_getElem? (i := 183) (by decide +kernel))) rfl
set_option maxRecDepth 100000 in
theorem q2258 : Cond.code ({ cls := "PinEnginesModel", name := "inRange", desc := "(III)Z" } : Jvm.MethodName) prog_15_method_4_code (3 : Nat) (Option.some Jvm.ClassFile.FieldType.boolean) ∈ tb := tb_of (lw_c9 (List.mem_of_getElem? (i := 184) rfl)) rfl
theorem q2259 : Cond.methodLink "PinEnginesModel" (259 : Nat) ({ cls := "PinEnginesModel", name := "raise", desc := "(I)I" } : Jvm.MethodName) ∈ tb := tb_of (lw_c9 (List.mem_of_getElem? (i := 185) (by decide +kernel))) rfl
theorem q2261 : Cond.instanceMethod ({ cls := "PinEnginesModel", name := "raise", desc := "(I)I" } : Jvm.MethodName) ∈ tb := tb_of (lw_c9 (List.mem_of_getElem? (i := 187) (by decide +kernel))) rfl
set_option maxRecDepth 100000 in
theorem q2262 : Cond.code ({ cls := "PinEnginesModel", name := "raise", desc := "(I)I" } : Jvm.MethodName) prog_15_method_3_code (2 : Nat) (Option.some Jvm.ClassFile.FieldType.int) ∈ tb := tb_of (lw_c9 (List.mem_of_getElem? (i := 188) rfl)) rfl
theorem q2263 : Cond.methodLink "PinEnginesModel" (262 : Nat) ({ cls := "PinEnginesModel", name := "levelOf", desc := "(I)I" } : Jvm.MethodName) ∈ tb := tb_of (lw_c9 (List.mem_of_getElem? (i := 189) (by decide +kernel))) rfl
theorem q2265 : Cond.instanceMethod ({ cls := "PinEnginesModel", name := "levelOf", desc := "(I)I" } : Jvm.MethodName) ∈ tb := tb_of (lw_c9 (List.mem_of_getElem? (i := 191) (by decide +kernel))) rfl
set_option maxRecDepth 100000 in
theorem q2266 : Cond.code ({ cls := "PinEnginesModel", name := "levelOf", desc := "(I)I" } : Jvm.MethodName) prog_15_method_20_code (2 : Nat) (Option.some Jvm.ClassFile.FieldType.int) ∈ tb := tb_of (lw_c9 (List.mem_of_getElem? (i := 192) rfl)) rfl
theorem q2267 : Cond.methodLink "PinEnginesModel" (252 : Nat) ({ cls := "PinEnginesModel", name := "ofPin", desc := "(II)I" } : Jvm.MethodName) ∈ tb := tb_of (lw_c9 (List.mem_of_getElem? (i := 193) (by decide +kernel))) rfl
theorem q2269 : Cond.instanceMethod ({ cls := "PinEnginesModel", name := "ofPin", desc := "(II)I" } : Jvm.MethodName) ∈ tb := tb_of (lw_c9 (List.mem_of_getElem? (i := 195) (by decide +kernel))) rfl
set_option maxRecDepth 100000 in
theorem q2270 : Cond.code ({ cls := "PinEnginesModel", name := "ofPin", desc := "(II)I" } : Jvm.MethodName) prog_15_method_6_code (3 : Nat) (Option.some Jvm.ClassFile.FieldType.int) ∈ tb := tb_of (lw_c9 (List.mem_of_getElem? (i := 196) rfl)) rfl
theorem q2271 : Cond.methodLink "PinEnginesLaw" (163 : Nat) ({ cls := "PinEnginesModel", name := "latch", desc := "(I)I" } : Jvm.MethodName) ∈ tb := tb_of (lw_c9 (List.mem_of_getElem? (i := 197) (by decide +kernel))) rfl
theorem q2275 : Cond.methodLink "PinEnginesModel" (265 : Nat) ({ cls := "PinEnginesModel", name := "tellPin", desc := "(II)I" } : Jvm.MethodName) ∈ tb := tb_of (lw_c9 (List.mem_of_getElem? (i := 201) (by decide +kernel))) rfl
theorem q2277 : Cond.instanceMethod ({ cls := "PinEnginesModel", name := "tellPin", desc := "(II)I" } : Jvm.MethodName) ∈ tb := tb_of (lw_c9 (List.mem_of_getElem? (i := 203) (by decide +kernel))) rfl
set_option maxRecDepth 100000 in
theorem q2278 : Cond.code ({ cls := "PinEnginesModel", name := "tellPin", desc := "(II)I" } : Jvm.MethodName) prog_15_method_22_code (3 : Nat) (Option.some Jvm.ClassFile.FieldType.int) ∈ tb := tb_of (lw_c9 (List.mem_of_getElem? (i := 204) rfl)) rfl
theorem q2279 : Cond.methodLink "PinEnginesLaw" (166 : Nat) ({ cls := "PinEnginesModel", name := "isOutput", desc := "(I)Z" } : Jvm.MethodName) ∈ tb := tb_of (lw_c9 (List.mem_of_getElem? (i := 205) (by decide +kernel))) rfl
theorem q2283 : Cond.methodLink "PinEnginesLaw" (169 : Nat) ({ cls := "PinEnginesModel", name := "flag", desc := "(I)I" } : Jvm.MethodName) ∈ tb := tb_of (lw_c9 (List.mem_of_getElem? (i := 209) (by decide +kernel))) rfl
theorem q2287 : Cond.methodLink "PinEnginesLaw" (172 : Nat) ({ cls := "PinEnginesModel", name := "memory", desc := "(I)I" } : Jvm.MethodName) ∈ tb := tb_of (lw_c9 (List.mem_of_getElem? (i := 213) (by decide +kernel))) rfl
theorem q2291 : Cond.methodLink "PinEnginesLaw" (176 : Nat) ({ cls := "PinEnginesModel", name := "portOwner", desc := "()I" } : Jvm.MethodName) ∈ tb := tb_of (lw_c9 (List.mem_of_getElem? (i := 217) (by decide +kernel))) rfl
theorem q2295 : Cond.methodLink "PinEnginesLaw" (179 : Nat) ({ cls := "PinEnginesModel", name := "pc", desc := "(I)I" } : Jvm.MethodName) ∈ tb := tb_of (lw_c9 (List.mem_of_getElem? (i := 221) (by decide +kernel))) rfl
theorem q2299 : Cond.methodLink "PinEnginesModel" (271 : Nat) ({ cls := "PinEnginesModel", name := "tell", desc := "(II)I" } : Jvm.MethodName) ∈ tb := tb_of (lw_c9 (List.mem_of_getElem? (i := 225) (by decide +kernel))) rfl
theorem q2301 : Cond.instanceMethod ({ cls := "PinEnginesModel", name := "tell", desc := "(II)I" } : Jvm.MethodName) ∈ tb := tb_of (lw_c9 (List.mem_of_getElem? (i := 227) (by decide +kernel))) rfl
set_option maxRecDepth 100000 in
theorem q2302 : Cond.code ({ cls := "PinEnginesModel", name := "tell", desc := "(II)I" } : Jvm.MethodName) prog_15_method_28_code (3 : Nat) (Option.some Jvm.ClassFile.FieldType.int) ∈ tb := tb_of (lw_c9 (List.mem_of_getElem? (i := 228) rfl)) rfl
theorem q2303 : Cond.methodLink "PinEnginesModel" (268 : Nat) ({ cls := "PinEnginesModel", name := "exists", desc := "(I)Z" } : Jvm.MethodName) ∈ tb := tb_of (lw_c9 (List.mem_of_getElem? (i := 229) (by decide +kernel))) rfl
theorem q2305 : Cond.instanceMethod ({ cls := "PinEnginesModel", name := "exists", desc := "(I)Z" } : Jvm.MethodName) ∈ tb := tb_of (lw_c9 (List.mem_of_getElem? (i := 231) (by decide +kernel))) rfl
set_option maxRecDepth 100000 in
theorem q2306 : Cond.code ({ cls := "PinEnginesModel", name := "exists", desc := "(I)Z" } : Jvm.MethodName) prog_15_method_15_code (2 : Nat) (Option.some Jvm.ClassFile.FieldType.boolean) ∈ tb := tb_of (lw_c9 (List.mem_of_getElem? (i := 232) rfl)) rfl
theorem q2307 : Cond.methodLink "PinEnginesModel" (238 : Nat) ({ cls := "PinEnginesModel", name := "of", desc := "(II)I" } : Jvm.MethodName) ∈ tb := tb_of (lw_c9 (List.mem_of_getElem? (i := 233) (by decide +kernel))) rfl
theorem q2309 : Cond.instanceMethod ({ cls := "PinEnginesModel", name := "of", desc := "(II)I" } : Jvm.MethodName) ∈ tb := tb_of (lw_c9 (List.mem_of_getElem? (i := 235) (by decide +kernel))) rfl
set_option maxRecDepth 100000 in
theorem q2310 : Cond.code ({ cls := "PinEnginesModel", name := "of", desc := "(II)I" } : Jvm.MethodName) prog_15_method_8_code (3 : Nat) (Option.some Jvm.ClassFile.FieldType.int) ∈ tb := tb_of (lw_c9 (List.mem_of_getElem? (i := 236) rfl)) rfl
theorem q2311 : Cond.methodLink "PinEnginesLaw" (183 : Nat) ({ cls := "PinEnginesModel", name := "register", desc := "(II)I" } : Jvm.MethodName) ∈ tb := tb_of (lw_c9 (List.mem_of_getElem? (i := 237) (by decide +kernel))) rfl
theorem q2315 : Cond.methodLink "PinEnginesLaw" (186 : Nat) ({ cls := "PinEnginesModel", name := "fill", desc := "(I)I" } : Jvm.MethodName) ∈ tb := tb_of (lw_c10 (List.mem_of_getElem? (i := 1) (by decide +kernel))) rfl
theorem q2319 : Cond.methodLink "PinEnginesLaw" (189 : Nat) ({ cls := "PinEnginesModel", name := "spent", desc := "(I)I" } : Jvm.MethodName) ∈ tb := tb_of (lw_c10 (List.mem_of_getElem? (i := 5) (by decide +kernel))) rfl
theorem q2323 : Cond.methodLink "PinEnginesLaw" (192 : Nat) ({ cls := "PinEnginesModel", name := "delayLeft", desc := "(I)I" } : Jvm.MethodName) ∈ tb := tb_of (lw_c10 (List.mem_of_getElem? (i := 9) (by decide +kernel))) rfl
theorem q2327 : Cond.methodLink "PinEnginesLaw" (195 : Nat) ({ cls := "PinEnginesModel", name := "stall", desc := "(I)I" } : Jvm.MethodName) ∈ tb := tb_of (lw_c10 (List.mem_of_getElem? (i := 13) (by decide +kernel))) rfl
theorem q2331 : Cond.methodLink "PinEnginesLaw" (198 : Nat) ({ cls := "PinEnginesModel", name := "isEnabled", desc := "(I)Z" } : Jvm.MethodName) ∈ tb := tb_of (lw_c10 (List.mem_of_getElem? (i := 17) (by decide +kernel))) rfl
theorem q2335 : Cond.methodLink "PinEnginesLaw" (202 : Nat) ({ cls := "PinEnginesModel", name := "queueSize", desc := "(IZ)I" } : Jvm.MethodName) ∈ tb := tb_of (lw_c10 (List.mem_of_getElem? (i := 21) (by decide +kernel))) rfl
theorem q2339 : Cond.methodLink "PinEnginesLaw" (206 : Nat) ({ cls := "PinEnginesModel", name := "queued", desc := "(IZI)J" } : Jvm.MethodName) ∈ tb := tb_of (lw_c10 (List.mem_of_getElem? (i := 25) (by decide +kernel))) rfl
theorem q2343 : Cond.methodLink "PinEnginesModel" (276 : Nat) ({ cls := "PinEnginesModel", name := "unsigned", desc := "(I)J" } : Jvm.MethodName) ∈ tb := tb_of (lw_c10 (List.mem_of_getElem? (i := 29) (by decide +kernel))) rfl
theorem q2344 : Cond.static ({ cls := "PinEnginesModel", name := "unsigned", desc := "(I)J" } : Jvm.MethodName) ∈ tb := tb_of (lw_c10 (List.mem_of_getElem? (i := 30) (by decide +kernel))) rfl
set_option maxRecDepth 100000 in
theorem q2345 : Cond.code ({ cls := "PinEnginesModel", name := "unsigned", desc := "(I)J" } : Jvm.MethodName) prog_15_method_37_code (1 : Nat) (Option.some Jvm.ClassFile.FieldType.long) ∈ tb := tb_of (lw_c10 (List.mem_of_getElem? (i := 31) rfl)) rfl
theorem q2346 : Cond.constantLong "PinEnginesModel" (274 : Nat) (4294967295 : Int64) ∈ tb := tb_of (lw_c10 (List.mem_of_getElem? (i := 32) (by decide +kernel))) rfl
theorem q2347 : Cond.constantLong "PinEnginesModel" (280 : Nat) (-1 : Int64) ∈ tb := tb_of (lw_c10 (List.mem_of_getElem? (i := 33) (by decide +kernel))) rfl
theorem q2348 : Cond.methodLink "PinEnginesLaw" (209 : Nat) ({ cls := "PinEnginesModel", name := "count", desc := "(II)I" } : Jvm.MethodName) ∈ tb := tb_of (lw_c10 (List.mem_of_getElem? (i := 34) (by decide +kernel))) rfl
theorem q2352 : Cond.methodLink "PinEnginesLaw" (212 : Nat) ({ cls := "PinEnginesModel", name := "levelAt", desc := "(II)I" } : Jvm.MethodName) ∈ tb := tb_of (lw_c10 (List.mem_of_getElem? (i := 38) (by decide +kernel))) rfl
theorem q2356 : Cond.methodLink "PinEnginesLaw" (215 : Nat) ({ cls := "PinEnginesModel", name := "edges", desc := "(I)I" } : Jvm.MethodName) ∈ tb := tb_of (lw_c10 (List.mem_of_getElem? (i := 42) (by decide +kernel))) rfl
theorem q2360 : Cond.methodLink "PinEnginesLaw" (218 : Nat) ({ cls := "PinEnginesModel", name := "highTime", desc := "(I)I" } : Jvm.MethodName) ∈ tb := tb_of (lw_c10 (List.mem_of_getElem? (i := 46) (by decide +kernel))) rfl
theorem q2364 : Cond.methodLink "PinEnginesLaw" (221 : Nat) ({ cls := "PinEnginesModel", name := "put", desc := "(II)I" } : Jvm.MethodName) ∈ tb := tb_of (lw_c10 (List.mem_of_getElem? (i := 50) (by decide +kernel))) rfl
theorem q2368 : Cond.methodLink "PinEnginesModel" (392 : Nat) ({ cls := "PinEnginesModel", name := "isFull", desc := "(IZ)Z" } : Jvm.MethodName) ∈ tb := tb_of (lw_c10 (List.mem_of_getElem? (i := 54) (by decide +kernel))) rfl
theorem q2370 : Cond.instanceMethod ({ cls := "PinEnginesModel", name := "isFull", desc := "(IZ)Z" } : Jvm.MethodName) ∈ tb := tb_of (lw_c10 (List.mem_of_getElem? (i := 56) (by decide +kernel))) rfl
set_option maxRecDepth 100000 in
theorem q2371 : Cond.code ({ cls := "PinEnginesModel", name := "isFull", desc := "(IZ)Z" } : Jvm.MethodName) prog_15_method_39_code (3 : Nat) (Option.some Jvm.ClassFile.FieldType.boolean) ∈ tb := tb_of (lw_c10 (List.mem_of_getElem? (i := 57) rfl)) rfl
theorem q2372 : Cond.methodLink "PinEnginesModel" (422 : Nat) ({ cls := "PinEnginesModel", name := "record", desc := "()V" } : Jvm.MethodName) ∈ tb := tb_of (lw_c10 (List.mem_of_getElem? (i := 58) (by decide +kernel))) rfl
theorem q2374 : Cond.instanceMethod ({ cls := "PinEnginesModel", name := "record", desc := "()V" } : Jvm.MethodName) ∈ tb := tb_of (lw_c10 (List.mem_of_getElem? (i := 60) (by decide +kernel))) rfl
set_option maxRecDepth 100000 in
theorem q2375 : Cond.code ({ cls := "PinEnginesModel", name := "record", desc := "()V" } : Jvm.MethodName) prog_15_method_96_code (2 : Nat) (Option.none : Option Jvm.ClassFile.FieldType) ∈ tb := tb_of (lw_c10 (List.mem_of_getElem? (i := 61) rfl)) rfl
theorem q2376 : Cond.methodLink "PinEnginesModel" (441 : Nat) ({ cls := "PinEnginesModel", name := "copy", desc := "([II[II)V" } : Jvm.MethodName) ∈ tb := tb_of (lw_c10 (List.mem_of_getElem? (i := 62) (by decide +kernel))) rfl
theorem q2377 : Cond.static ({ cls := "PinEnginesModel", name := "copy", desc := "([II[II)V" } : Jvm.MethodName) ∈ tb := tb_of (lw_c10 (List.mem_of_getElem? (i := 63) (by decide +kernel))) rfl
set_option maxRecDepth 100000 in
theorem q2378 : Cond.code ({ cls := "PinEnginesModel", name := "copy", desc := "([II[II)V" } : Jvm.MethodName) prog_15_method_95_code (5 : Nat) (Option.none : Option Jvm.ClassFile.FieldType) ∈ tb := tb_of (lw_c10 (List.mem_of_getElem? (i := 64) rfl)) rfl
theorem q2379 : Cond.methodLink "PinEnginesModel" (399 : Nat) ({ cls := "PinEnginesModel", name := "append", desc := "(IZI)V" } : Jvm.MethodName) ∈ tb := tb_of (lw_c10 (List.mem_of_getElem? (i := 65) (by decide +kernel))) rfl
theorem q2381 : Cond.instanceMethod ({ cls := "PinEnginesModel", name := "append", desc := "(IZI)V" } : Jvm.MethodName) ∈ tb := tb_of (lw_c10 (List.mem_of_getElem? (i := 67) (by decide +kernel))) rfl
set_option maxRecDepth 100000 in
theorem q2382 : Cond.code ({ cls := "PinEnginesModel", name := "append", desc := "(IZI)V" } : Jvm.MethodName) prog_15_method_40_code (5 : Nat) (Option.none : Option Jvm.ClassFile.FieldType) ∈ tb := tb_of (lw_c10 (List.mem_of_getElem? (i := 68) rfl)) rfl
theorem q2383 : Cond.methodLink "PinEnginesModel" (282 : Nat) ({ cls := "PinEnginesModel", name := "set", desc := "(III)V" } : Jvm.MethodName) ∈ tb := tb_of (lw_c10 (List.mem_of_getElem? (i := 69) (by decide +kernel))) rfl
theorem q2385 : Cond.instanceMethod ({ cls := "PinEnginesModel", name := "set", desc := "(III)V" } : Jvm.MethodName) ∈ tb := tb_of (lw_c10 (List.mem_of_getElem? (i := 71) (by decide +kernel))) rfl
set_option maxRecDepth 100000 in
theorem q2386 : Cond.code ({ cls := "PinEnginesModel", name := "set", desc := "(III)V" } : Jvm.MethodName) prog_15_method_9_code (4 : Nat) (Option.none : Option Jvm.ClassFile.FieldType) ∈ tb := tb_of (lw_c10 (List.mem_of_getElem? (i := 72) rfl)) rfl
theorem q2387 : Cond.methodLink "PinEnginesModel" (234 : Nat) ({ cls := "PinEnginesModel", name := "add", desc := "(III)V" } : Jvm.MethodName) ∈ tb := tb_of (lw_c10 (List.mem_of_getElem? (i := 73) (by decide +kernel))) rfl
theorem q2389 : Cond.instanceMethod ({ cls := "PinEnginesModel", name := "add", desc := "(III)V" } : Jvm.MethodName) ∈ tb := tb_of (lw_c10 (List.mem_of_getElem? (i := 75) (by decide +kernel))) rfl
set_option maxRecDepth 100000 in
theorem q2390 : Cond.code ({ cls := "PinEnginesModel", name := "add", desc := "(III)V" } : Jvm.MethodName) prog_15_method_10_code (4 : Nat) (Option.none : Option Jvm.ClassFile.FieldType) ∈ tb := tb_of (lw_c10 (List.mem_of_getElem? (i := 76) rfl)) rfl
theorem q2391 : Cond.methodLink "PinEnginesLaw" (224 : Nat) ({ cls := "PinEnginesModel", name := "take", desc := "(I)J" } : Jvm.MethodName) ∈ tb := tb_of (lw_c10 (List.mem_of_getElem? (i := 77) (by decide +kernel))) rfl
theorem q2395 : Cond.constantLong "PinEnginesModel" (425 : Nat) (-2 : Int64) ∈ tb := tb_of (lw_c10 (List.mem_of_getElem? (i := 81) (by decide +kernel))) rfl
theorem q2396 : Cond.methodLink "PinEnginesModel" (406 : Nat) ({ cls := "PinEnginesModel", name := "removeFirst", desc := "(IZ)I" } : Jvm.MethodName) ∈ tb := tb_of (lw_c10 (List.mem_of_getElem? (i := 82) (by decide +kernel))) rfl
theorem q2398 : Cond.instanceMethod ({ cls := "PinEnginesModel", name := "removeFirst", desc := "(IZ)I" } : Jvm.MethodName) ∈ tb := tb_of (lw_c10 (List.mem_of_getElem? (i := 84) (by decide +kernel))) rfl
set_option maxRecDepth 100000 in
theorem q2399 : Cond.code ({ cls := "PinEnginesModel", name := "removeFirst", desc := "(IZ)I" } : Jvm.MethodName) prog_15_method_41_code (7 : Nat) (Option.some Jvm.ClassFile.FieldType.int) ∈ tb := tb_of (lw_c10 (List.mem_of_getElem? (i := 85) rfl)) rfl
theorem q2400 : Cond.methodLink "PinEnginesLaw" (227 : Nat) ({ cls := "PinEnginesModel", name := "enable", desc := "(IZ)Z" } : Jvm.MethodName) ∈ tb := tb_of (lw_c10 (List.mem_of_getElem? (i := 86) (by decide +kernel))) rfl
theorem q2404 : Cond.methodLink "PinEnginesLaw" (230 : Nat) ({ cls := "PinEnginesModel", name := "restart", desc := "(I)I" } : Jvm.MethodName) ∈ tb := tb_of (lw_c10 (List.mem_of_getElem? (i := 90) (by decide +kernel))) rfl
theorem q2408 : Cond.methodLink "PinEnginesModel" (427 : Nat) ({ cls := "PinEnginesModel", name := "begin", desc := "(I)V" } : Jvm.MethodName) ∈ tb := tb_of (lw_c10 (List.mem_of_getElem? (i := 94) (by decide +kernel))) rfl
theorem q2410 : Cond.instanceMethod ({ cls := "PinEnginesModel", name := "begin", desc := "(I)V" } : Jvm.MethodName) ∈ tb := tb_of (lw_c10 (List.mem_of_getElem? (i := 96) (by decide +kernel))) rfl
set_option maxRecDepth 100000 in
theorem q2411 : Cond.code ({ cls := "PinEnginesModel", name := "begin", desc := "(I)V" } : Jvm.MethodName) prog_15_method_82_code (3 : Nat) (Option.none : Option Jvm.ClassFile.FieldType) ∈ tb := tb_of (lw_c10 (List.mem_of_getElem? (i := 97) rfl)) rfl
theorem q2412 : Cond.methodLink "PinEnginesLaw" (233 : Nat) ({ cls := "PinEnginesModel", name := "drive", desc := "(II)I" } : Jvm.MethodName) ∈ tb := tb_of (lw_c10 (List.mem_of_getElem? (i := 98) (by decide +kernel))) rfl
theorem q2416 : Cond.methodLink "PinEnginesModel" (284 : Nat) ({ cls := "PinEnginesModel", name := "putPin", desc := "(III)V" } : Jvm.MethodName) ∈ tb := tb_of (lw_c10 (List.mem_of_getElem? (i := 102) (by decide +kernel))) rfl
theorem q2418 : Cond.instanceMethod ({ cls := "PinEnginesModel", name := "putPin", desc := "(III)V" } : Jvm.MethodName) ∈ tb := tb_of (lw_c10 (List.mem_of_getElem? (i := 104) (by decide +kernel))) rfl
set_option maxRecDepth 100000 in
theorem q2419 : Cond.code ({ cls := "PinEnginesModel", name := "putPin", desc := "(III)V" } : Jvm.MethodName) prog_15_method_7_code (4 : Nat) (Option.none : Option Jvm.ClassFile.FieldType) ∈ tb := tb_of (lw_c10 (List.mem_of_getElem? (i := 105) rfl)) rfl
theorem q2420 : Cond.methodLink "PinEnginesLaw" (237 : Nat) ({ cls := "PinEnginesModel", name := "schedule", desc := "(III)I" } : Jvm.MethodName) ∈ tb := tb_of (lw_c10 (List.mem_of_getElem? (i := 106) (by decide +kernel))) rfl
theorem q2424 : Cond.constant "PinEnginesModel" (430 : Nat) (1000000 : Int32) ∈ tb := tb_of (lw_c10 (List.mem_of_getElem? (i := 110) (by decide +kernel))) rfl
theorem q2425 : Cond.methodLink "PinEnginesLaw" (240 : Nat) ({ cls := "PinEnginesModel", name := "poke", desc := "(II)I" } : Jvm.MethodName) ∈ tb := tb_of (lw_c10 (List.mem_of_getElem? (i := 111) (by decide +kernel))) rfl
theorem q2429 : Cond.methodLink "PinEnginesLaw" (243 : Nat) ({ cls := "PinEnginesModel", name := "run", desc := "(I)I" } : Jvm.MethodName) ∈ tb := tb_of (lw_c10 (List.mem_of_getElem? (i := 115) (by decide +kernel))) rfl
theorem q2433 : Cond.methodLink "PinEnginesModel" (431 : Nat) ({ cls := "PinEnginesModel", name := "doneByAll", desc := "()I" } : Jvm.MethodName) ∈ tb := tb_of (lw_c10 (List.mem_of_getElem? (i := 119) (by decide +kernel))) rfl
theorem q2435 : Cond.instanceMethod ({ cls := "PinEnginesModel", name := "doneByAll", desc := "()I" } : Jvm.MethodName) ∈ tb := tb_of (lw_c10 (List.mem_of_getElem? (i := 121) (by decide +kernel))) rfl
set_option maxRecDepth 100000 in
theorem q2436 : Cond.code ({ cls := "PinEnginesModel", name := "doneByAll", desc := "()I" } : Jvm.MethodName) prog_15_method_87_code (3 : Nat) (Option.some Jvm.ClassFile.FieldType.int) ∈ tb := tb_of (lw_c10 (List.mem_of_getElem? (i := 122) rfl)) rfl
theorem q2437 : Cond.methodLink "PinEnginesModel" (435 : Nat) ({ cls := "PinEnginesModel", name := "passCycle", desc := "()V" } : Jvm.MethodName) ∈ tb := tb_of (lw_c10 (List.mem_of_getElem? (i := 123) (by decide +kernel))) rfl
theorem q2439 : Cond.instanceMethod ({ cls := "PinEnginesModel", name := "passCycle", desc := "()V" } : Jvm.MethodName) ∈ tb := tb_of (lw_c10 (List.mem_of_getElem? (i := 125) (by decide +kernel))) rfl
set_option maxRecDepth 100000 in
theorem q2440 : Cond.code ({ cls := "PinEnginesModel", name := "passCycle", desc := "()V" } : Jvm.MethodName) prog_15_method_50_code (2 : Nat) (Option.none : Option Jvm.ClassFile.FieldType) ∈ tb := tb_of (lw_c10 (List.mem_of_getElem? (i := 126) rfl)) rfl
theorem q2441 : Cond.methodLink "PinEnginesModel" (306 : Nat) ({ cls := "PinEnginesModel", name := "applyScheduled", desc := "()V" } : Jvm.MethodName) ∈ tb := tb_of (lw_c10 (List.mem_of_getElem? (i := 127) (by decide +kernel))) rfl
theorem q2443 : Cond.instanceMethod ({ cls := "PinEnginesModel", name := "applyScheduled", desc := "()V" } : Jvm.MethodName) ∈ tb := tb_of (lw_c10 (List.mem_of_getElem? (i := 129) (by decide +kernel))) rfl
set_option maxRecDepth 100000 in
theorem q2444 : Cond.code ({ cls := "PinEnginesModel", name := "applyScheduled", desc := "()V" } : Jvm.MethodName) prog_15_method_42_code (5 : Nat) (Option.none : Option Jvm.ClassFile.FieldType) ∈ tb := tb_of (lw_c10 (List.mem_of_getElem? (i := 130) rfl)) rfl
theorem q2445 : Cond.methodLink "PinEnginesModel" (309 : Nat) ({ cls := "PinEnginesModel", name := "readAll", desc := "()V" } : Jvm.MethodName) ∈ tb := tb_of (lw_c10 (List.mem_of_getElem? (i := 131) (by decide +kernel))) rfl
theorem q2447 : Cond.instanceMethod ({ cls := "PinEnginesModel", name := "readAll", desc := "()V" } : Jvm.MethodName) ∈ tb := tb_of (lw_c10 (List.mem_of_getElem? (i := 133) (by decide +kernel))) rfl
set_option maxRecDepth 100000 in
theorem q2448 : Cond.code ({ cls := "PinEnginesModel", name := "readAll", desc := "()V" } : Jvm.MethodName) prog_15_method_43_code (2 : Nat) (Option.none : Option Jvm.ClassFile.FieldType) ∈ tb := tb_of (lw_c10 (List.mem_of_getElem? (i := 134) rfl)) rfl
theorem q2449 : Cond.methodLink "PinEnginesModel" (312 : Nat) ({ cls := "PinEnginesModel", name := "countOn", desc := "(I)V" } : Jvm.MethodName) ∈ tb := tb_of (lw_c10 (List.mem_of_getElem? (i := 135) (by decide +kernel))) rfl
theorem q2451 : Cond.instanceMethod ({ cls := "PinEnginesModel", name := "countOn", desc := "(I)V" } : Jvm.MethodName) ∈ tb := tb_of (lw_c10 (List.mem_of_getElem? (i := 137) (by decide +kernel))) rfl
set_option maxRecDepth 100000 in
theorem q2452 : Cond.code ({ cls := "PinEnginesModel", name := "countOn", desc := "(I)V" } : Jvm.MethodName) prog_15_method_44_code (3 : Nat) (Option.none : Option Jvm.ClassFile.FieldType) ∈ tb := tb_of (lw_c10 (List.mem_of_getElem? (i := 138) rfl)) rfl
theorem q2453 : Cond.methodLink "PinEnginesModel" (316 : Nat) ({ cls := "PinEnginesModel", name := "givePort", desc := "()V" } : Jvm.MethodName) ∈ tb := tb_of (lw_c10 (List.mem_of_getElem? (i := 139) (by decide +kernel))) rfl
theorem q2455 : Cond.instanceMethod ({ cls := "PinEnginesModel", name := "givePort", desc := "()V" } : Jvm.MethodName) ∈ tb := tb_of (lw_c10 (List.mem_of_getElem? (i := 141) (by decide +kernel))) rfl
set_option maxRecDepth 100000 in
theorem q2456 : Cond.code ({ cls := "PinEnginesModel", name := "givePort", desc := "()V" } : Jvm.MethodName) prog_15_method_46_code (3 : Nat) (Option.none : Option Jvm.ClassFile.FieldType) ∈ tb := tb_of (lw_c10 (List.mem_of_getElem? (i := 142) rfl)) rfl
theorem q2457 : Cond.methodLink "PinEnginesModel" (299 : Nat) ({ cls := "PinEnginesModel", name := "wantsPort", desc := "(I)Z" } : Jvm.MethodName) ∈ tb := tb_of (lw_c10 (List.mem_of_getElem? (i := 143) (by decide +kernel))) rfl
theorem q2459 : Cond.instanceMethod ({ cls := "PinEnginesModel", name := "wantsPort", desc := "(I)Z" } : Jvm.MethodName) ∈ tb := tb_of (lw_c10 (List.mem_of_getElem? (i := 145) (by decide +kernel))) rfl
set_option maxRecDepth 100000 in
theorem q2460 : Cond.code ({ cls := "PinEnginesModel", name := "wantsPort", desc := "(I)Z" } : Jvm.MethodName) prog_15_method_45_code (2 : Nat) (Option.some Jvm.ClassFile.FieldType.boolean) ∈ tb := tb_of (lw_c10 (List.mem_of_getElem? (i := 146) rfl)) rfl
theorem q2461 : Cond.methodLink "PinEnginesModel" (293 : Nat) ({ cls := "PinEnginesModel", name := "codeOf", desc := "(II)I" } : Jvm.MethodName) ∈ tb := tb_of (lw_c10 (List.mem_of_getElem? (i := 147) (by decide +kernel))) rfl
theorem q2463 : Cond.instanceMethod ({ cls := "PinEnginesModel", name := "codeOf", desc := "(II)I" } : Jvm.MethodName) ∈ tb := tb_of (lw_c10 (List.mem_of_getElem? (i := 149) (by decide +kernel))) rfl
set_option maxRecDepth 100000 in
theorem q2464 : Cond.code ({ cls := "PinEnginesModel", name := "codeOf", desc := "(II)I" } : Jvm.MethodName) prog_15_method_14_code (3 : Nat) (Option.some Jvm.ClassFile.FieldType.int) ∈ tb := tb_of (lw_c10 (List.mem_of_getElem? (i := 150) rfl)) rfl
theorem q2465 : Cond.methodLink "PinEnginesModel" (242 : Nat) ({ cls := "PinEnginesModel", name := "code", desc := "(II)I" } : Jvm.MethodName) ∈ tb := tb_of (lw_c10 (List.mem_of_getElem? (i := 151) (by decide +kernel))) rfl
theorem q2467 : Cond.instanceMethod ({ cls := "PinEnginesModel", name := "code", desc := "(II)I" } : Jvm.MethodName) ∈ tb := tb_of (lw_c10 (List.mem_of_getElem? (i := 153) (by decide +kernel))) rfl
set_option maxRecDepth 100000 in
theorem q2468 : Cond.code ({ cls := "PinEnginesModel", name := "code", desc := "(II)I" } : Jvm.MethodName) prog_15_method_13_code (3 : Nat) (Option.some Jvm.ClassFile.FieldType.int) ∈ tb := tb_of (lw_c10 (List.mem_of_getElem? (i := 154) rfl)) rfl
theorem q2469 : Cond.methodLink "PinEnginesModel" (319 : Nat) ({ cls := "PinEnginesModel", name := "tick", desc := "(I)V" } : Jvm.MethodName) ∈ tb := tb_of (lw_c10 (List.mem_of_getElem? (i := 155) (by decide +kernel))) rfl
theorem q2471 : Cond.instanceMethod ({ cls := "PinEnginesModel", name := "tick", desc := "(I)V" } : Jvm.MethodName) ∈ tb := tb_of (lw_c10 (List.mem_of_getElem? (i := 157) (by decide +kernel))) rfl
set_option maxRecDepth 100000 in
theorem q2472 : Cond.code ({ cls := "PinEnginesModel", name := "tick", desc := "(I)V" } : Jvm.MethodName) prog_15_method_51_code (4 : Nat) (Option.none : Option Jvm.ClassFile.FieldType) ∈ tb := tb_of (lw_c10 (List.mem_of_getElem? (i := 158) rfl)) rfl
theorem q2473 : Cond.methodLink "PinEnginesModel" (328 : Nat) ({ cls := "PinEnginesModel", name := "note", desc := "(II)V" } : Jvm.MethodName) ∈ tb := tb_of (lw_c10 (List.mem_of_getElem? (i := 159) (by decide +kernel))) rfl
theorem q2475 : Cond.instanceMethod ({ cls := "PinEnginesModel", name := "note", desc := "(II)V" } : Jvm.MethodName) ∈ tb := tb_of (lw_c10 (List.mem_of_getElem? (i := 161) (by decide +kernel))) rfl
set_option maxRecDepth 100000 in
theorem q2476 : Cond.code ({ cls := "PinEnginesModel", name := "note", desc := "(II)V" } : Jvm.MethodName) prog_15_method_11_code (3 : Nat) (Option.none : Option Jvm.ClassFile.FieldType) ∈ tb := tb_of (lw_c10 (List.mem_of_getElem? (i := 162) rfl)) rfl
theorem q2477 : Cond.methodLink "PinEnginesModel" (335 : Nat) ({ cls := "PinEnginesModel", name := "execute", desc := "(I)I" } : Jvm.MethodName) ∈ tb := tb_of (lw_c10 (List.mem_of_getElem? (i := 163) (by decide +kernel))) rfl
theorem q2479 : Cond.instanceMethod ({ cls := "PinEnginesModel", name := "execute", desc := "(I)I" } : Jvm.MethodName) ∈ tb := tb_of (lw_c10 (List.mem_of_getElem? (i := 165) (by decide +kernel))) rfl
set_option maxRecDepth 100000 in
theorem q2480 : Cond.code ({ cls := "PinEnginesModel", name := "execute", desc := "(I)I" } : Jvm.MethodName) prog_15_method_53_code (3 : Nat) (Option.some Jvm.ClassFile.FieldType.int) ∈ tb := tb_of (lw_c10 (List.mem_of_getElem? (i := 166) rfl)) rfl
theorem q2481 : Cond.methodLink "PinEnginesModel" (341 : Nat) ({ cls := "PinEnginesModel", name := "jump", desc := "(II)I" } : Jvm.MethodName) ∈ tb := tb_of (lw_c10 (List.mem_of_getElem? (i := 167) (by decide +kernel))) rfl
theorem q2483 : Cond.instanceMethod ({ cls := "PinEnginesModel", name := "jump", desc := "(II)I" } : Jvm.MethodName) ∈ tb := tb_of (lw_c10 (List.mem_of_getElem? (i := 169) (by decide +kernel))) rfl
set_option maxRecDepth 100000 in
theorem q2484 : Cond.code ({ cls := "PinEnginesModel", name := "jump", desc := "(II)I" } : Jvm.MethodName) prog_15_method_57_code (3 : Nat) (Option.some Jvm.ClassFile.FieldType.int) ∈ tb := tb_of (lw_c10 (List.mem_of_getElem? (i := 170) rfl)) rfl
theorem q2485 : Cond.methodLink "PinEnginesModel" (378 : Nat) ({ cls := "PinEnginesModel", name := "holds", desc := "(II)Z" } : Jvm.MethodName) ∈ tb := tb_of (lw_c10 (List.mem_of_getElem? (i := 171) (by decide +kernel))) rfl
theorem q2487 : Cond.instanceMethod ({ cls := "PinEnginesModel", name := "holds", desc := "(II)Z" } : Jvm.MethodName) ∈ tb := tb_of (lw_c10 (List.mem_of_getElem? (i := 173) (by decide +kernel))) rfl
set_option maxRecDepth 100000 in
theorem q2488 : Cond.code ({ cls := "PinEnginesModel", name := "holds", desc := "(II)Z" } : Jvm.MethodName) prog_15_method_56_code (3 : Nat) (Option.some Jvm.ClassFile.FieldType.boolean) ∈ tb := tb_of (lw_c10 (List.mem_of_getElem? (i := 174) rfl)) rfl
theorem q2489 : Cond.methodLink "PinEnginesModel" (374 : Nat) ({ cls := "PinEnginesModel", name := "decrease", desc := "(II)Z" } : Jvm.MethodName) ∈ tb := tb_of (lw_c10 (List.mem_of_getElem? (i := 175) (by decide +kernel))) rfl
theorem q2491 : Cond.instanceMethod ({ cls := "PinEnginesModel", name := "decrease", desc := "(II)Z" } : Jvm.MethodName) ∈ tb := tb_of (lw_c10 (List.mem_of_getElem? (i := 177) (by decide +kernel))) rfl
set_option maxRecDepth 100000 in
theorem q2492 : Cond.code ({ cls := "PinEnginesModel", name := "decrease", desc := "(II)Z" } : Jvm.MethodName) prog_15_method_55_code (4 : Nat) (Option.some Jvm.ClassFile.FieldType.boolean) ∈ tb := tb_of (lw_c10 (List.mem_of_getElem? (i := 178) rfl)) rfl
theorem q2493 : Cond.methodLink "PinEnginesModel" (344 : Nat) ({ cls := "PinEnginesModel", name := "waitFor", desc := "(II)I" } : Jvm.MethodName) ∈ tb := tb_of (lw_c10 (List.mem_of_getElem? (i := 179) (by decide +kernel))) rfl
theorem q2495 : Cond.instanceMethod ({ cls := "PinEnginesModel", name := "waitFor", desc := "(II)I" } : Jvm.MethodName) ∈ tb := tb_of (lw_c10 (List.mem_of_getElem? (i := 181) (by decide +kernel))) rfl
set_option maxRecDepth 100000 in
theorem q2496 : Cond.code ({ cls := "PinEnginesModel", name := "waitFor", desc := "(II)I" } : Jvm.MethodName) prog_15_method_58_code (6 : Nat) (Option.some Jvm.ClassFile.FieldType.int) ∈ tb := tb_of (lw_c10 (List.mem_of_getElem? (i := 182) rfl)) rfl
theorem q2497 : Cond.methodLink "PinEnginesModel" (347 : Nat) ({ cls := "PinEnginesModel", name := "source", desc := "(II)I" } : Jvm.MethodName) ∈ tb := tb_of (lw_c10 (List.mem_of_getElem? (i := 183) (by decide +kernel))) rfl
theorem q2499 : Cond.instanceMethod ({ cls := "PinEnginesModel", name := "source", desc := "(II)I" } : Jvm.MethodName) ∈ tb := tb_of (lw_c10 (List.mem_of_getElem? (i := 185) (by decide +kernel))) rfl
set_option maxRecDepth 100000 in
theorem q2500 : Cond.code ({ cls := "PinEnginesModel", name := "source", desc := "(II)I" } : Jvm.MethodName) prog_15_method_61_code (3 : Nat) (Option.some Jvm.ClassFile.FieldType.int) ∈ tb := tb_of (lw_c10 (List.mem_of_getElem? (i := 186) rfl)) rfl
theorem q2501 : Cond.methodLink "PinEnginesModel" (381 : Nat) ({ cls := "PinEnginesModel", name := "pinValue", desc := "(I)I" } : Jvm.MethodName) ∈ tb := tb_of (lw_c10 (List.mem_of_getElem? (i := 187) (by decide +kernel))) rfl
theorem q2503 : Cond.instanceMethod ({ cls := "PinEnginesModel", name := "pinValue", desc := "(I)I" } : Jvm.MethodName) ∈ tb := tb_of (lw_c10 (List.mem_of_getElem? (i := 189) (by decide +kernel))) rfl
set_option maxRecDepth 100000 in
theorem q2504 : Cond.code ({ cls := "PinEnginesModel", name := "pinValue", desc := "(I)I" } : Jvm.MethodName) prog_15_method_60_code (4 : Nat) (Option.some Jvm.ClassFile.FieldType.int) ∈ tb := tb_of (lw_c10 (List.mem_of_getElem? (i := 190) rfl)) rfl
theorem q2505 : Cond.methodLink "PinEnginesModel" (350 : Nat) ({ cls := "PinEnginesModel", name := "shiftIn", desc := "(III)I" } : Jvm.MethodName) ∈ tb := tb_of (lw_c10 (List.mem_of_getElem? (i := 191) (by decide +kernel))) rfl
theorem q2507 : Cond.instanceMethod ({ cls := "PinEnginesModel", name := "shiftIn", desc := "(III)I" } : Jvm.MethodName) ∈ tb := tb_of (lw_c10 (List.mem_of_getElem? (i := 193) (by decide +kernel))) rfl
set_option maxRecDepth 100000 in
theorem q2508 : Cond.code ({ cls := "PinEnginesModel", name := "shiftIn", desc := "(III)I" } : Jvm.MethodName) prog_15_method_63_code (10 : Nat) (Option.some Jvm.ClassFile.FieldType.int) ∈ tb := tb_of (lw_c10 (List.mem_of_getElem? (i := 194) rfl)) rfl
theorem q2509 : Cond.methodLink "PinEnginesModel" (384 : Nat) ({ cls := "PinEnginesModel", name := "lowest", desc := "(II)I" } : Jvm.MethodName) ∈ tb := tb_of (lw_c10 (List.mem_of_getElem? (i := 195) (by decide +kernel))) rfl
theorem q2510 : Cond.static ({ cls := "PinEnginesModel", name := "lowest", desc := "(II)I" } : Jvm.MethodName) ∈ tb := tb_of (lw_c10 (List.mem_of_getElem? (i := 196) (by decide +kernel))) rfl
set_option maxRecDepth 100000 in
theorem q2511 : Cond.code ({ cls := "PinEnginesModel", name := "lowest", desc := "(II)I" } : Jvm.MethodName) prog_15_method_62_code (2 : Nat) (Option.some Jvm.ClassFile.FieldType.int) ∈ tb := tb_of (lw_c10 (List.mem_of_getElem? (i := 197) rfl)) rfl
theorem q2512 : Cond.methodLink "PinEnginesModel" (387 : Nat) ({ cls := "java/lang/Math", name := "min", desc := "(II)I" } : Jvm.MethodName) ∈ tb := tb_of (lw_c10 (List.mem_of_getElem? (i := 198) (by decide +kernel))) rfl
theorem q2513 : Cond.methodLink "PinEnginesModel" (396 : Nat) ({ cls := "PinEnginesModel", name := "appendShifted", desc := "(I)V" } : Jvm.MethodName) ∈ tb := tb_of (lw_c10 (List.mem_of_getElem? (i := 199) (by decide +kernel))) rfl
theorem q2515 : Cond.instanceMethod ({ cls := "PinEnginesModel", name := "appendShifted", desc := "(I)V" } : Jvm.MethodName) ∈ tb := tb_of (lw_c10 (List.mem_of_getElem? (i := 201) (by decide +kernel))) rfl
set_option maxRecDepth 100000 in
theorem q2516 : Cond.code ({ cls := "PinEnginesModel", name := "appendShifted", desc := "(I)V" } : Jvm.MethodName) prog_15_method_64_code (2 : Nat) (Option.none : Option Jvm.ClassFile.FieldType) ∈ tb := tb_of (lw_c10 (List.mem_of_getElem? (i := 202) rfl)) rfl
theorem q2517 : Cond.methodLink "PinEnginesModel" (403 : Nat) ({ cls := "PinEnginesModel", name := "emptyShifted", desc := "(I)V" } : Jvm.MethodName) ∈ tb := tb_of (lw_c10 (List.mem_of_getElem? (i := 203) (by decide +kernel))) rfl
theorem q2519 : Cond.instanceMethod ({ cls := "PinEnginesModel", name := "emptyShifted", desc := "(I)V" } : Jvm.MethodName) ∈ tb := tb_of (lw_c10 (List.mem_of_getElem? (i := 205) (by decide +kernel))) rfl
set_option maxRecDepth 100000 in
theorem q2520 : Cond.code ({ cls := "PinEnginesModel", name := "emptyShifted", desc := "(I)V" } : Jvm.MethodName) prog_15_method_65_code (2 : Nat) (Option.none : Option Jvm.ClassFile.FieldType) ∈ tb := tb_of (lw_c10 (List.mem_of_getElem? (i := 206) rfl)) rfl
theorem q2521 : Cond.methodLink "PinEnginesModel" (354 : Nat) ({ cls := "PinEnginesModel", name := "shiftOut", desc := "(III)I" } : Jvm.MethodName) ∈ tb := tb_of (lw_c10 (List.mem_of_getElem? (i := 207) (by decide +kernel))) rfl
theorem q2523 : Cond.instanceMethod ({ cls := "PinEnginesModel", name := "shiftOut", desc := "(III)I" } : Jvm.MethodName) ∈ tb := tb_of (lw_c10 (List.mem_of_getElem? (i := 209) (by decide +kernel))) rfl
set_option maxRecDepth 100000 in
theorem q2524 : Cond.code ({ cls := "PinEnginesModel", name := "shiftOut", desc := "(III)I" } : Jvm.MethodName) prog_15_method_67_code (7 : Nat) (Option.some Jvm.ClassFile.FieldType.int) ∈ tb := tb_of (lw_c10 (List.mem_of_getElem? (i := 210) rfl)) rfl
theorem q2525 : Cond.methodLink "PinEnginesModel" (410 : Nat) ({ cls := "PinEnginesModel", name := "refill", desc := "(I)V" } : Jvm.MethodName) ∈ tb := tb_of (lw_c10 (List.mem_of_getElem? (i := 211) (by decide +kernel))) rfl
theorem q2527 : Cond.instanceMethod ({ cls := "PinEnginesModel", name := "refill", desc := "(I)V" } : Jvm.MethodName) ∈ tb := tb_of (lw_c10 (List.mem_of_getElem? (i := 213) (by decide +kernel))) rfl
set_option maxRecDepth 100000 in
theorem q2528 : Cond.code ({ cls := "PinEnginesModel", name := "refill", desc := "(I)V" } : Jvm.MethodName) prog_15_method_66_code (2 : Nat) (Option.none : Option Jvm.ClassFile.FieldType) ∈ tb := tb_of (lw_c10 (List.mem_of_getElem? (i := 214) rfl)) rfl
theorem q2529 : Cond.methodLink "PinEnginesModel" (413 : Nat) ({ cls := "PinEnginesModel", name := "write", desc := "(IIII)I" } : Jvm.MethodName) ∈ tb := tb_of (lw_c10 (List.mem_of_getElem? (i := 215) (by decide +kernel))) rfl
theorem q2531 : Cond.instanceMethod ({ cls := "PinEnginesModel", name := "write", desc := "(IIII)I" } : Jvm.MethodName) ∈ tb := tb_of (lw_c10 (List.mem_of_getElem? (i := 217) (by decide +kernel))) rfl
set_option maxRecDepth 100000 in
theorem q2532 : Cond.code ({ cls := "PinEnginesModel", name := "write", desc := "(IIII)I" } : Jvm.MethodName) prog_15_method_68_code (5 : Nat) (Option.some Jvm.ClassFile.FieldType.int) ∈ tb := tb_of (lw_c10 (List.mem_of_getElem? (i := 218) rfl)) rfl
theorem q2533 : Cond.methodLink "PinEnginesModel" (416 : Nat) ({ cls := "PinEnginesModel", name := "jumpToWord", desc := "(I)V" } : Jvm.MethodName) ∈ tb := tb_of (lw_c10 (List.mem_of_getElem? (i := 219) (by decide +kernel))) rfl
theorem q2535 : Cond.instanceMethod ({ cls := "PinEnginesModel", name := "jumpToWord", desc := "(I)V" } : Jvm.MethodName) ∈ tb := tb_of (lw_c10 (List.mem_of_getElem? (i := 221) (by decide +kernel))) rfl
set_option maxRecDepth 100000 in
theorem q2536 : Cond.code ({ cls := "PinEnginesModel", name := "jumpToWord", desc := "(I)V" } : Jvm.MethodName) prog_15_method_54_code (2 : Nat) (Option.none : Option Jvm.ClassFile.FieldType) ∈ tb := tb_of (lw_c10 (List.mem_of_getElem? (i := 222) rfl)) rfl
theorem q2537 : Cond.methodLink "PinEnginesModel" (357 : Nat) ({ cls := "PinEnginesModel", name := "push", desc := "(IZZ)I" } : Jvm.MethodName) ∈ tb := tb_of (lw_c10 (List.mem_of_getElem? (i := 223) (by decide +kernel))) rfl
theorem q2539 : Cond.instanceMethod ({ cls := "PinEnginesModel", name := "push", desc := "(IZZ)I" } : Jvm.MethodName) ∈ tb := tb_of (lw_c10 (List.mem_of_getElem? (i := 225) (by decide +kernel))) rfl
set_option maxRecDepth 100000 in
theorem q2540 : Cond.code ({ cls := "PinEnginesModel", name := "push", desc := "(IZZ)I" } : Jvm.MethodName) prog_15_method_69_code (4 : Nat) (Option.some Jvm.ClassFile.FieldType.int) ∈ tb := tb_of (lw_c10 (List.mem_of_getElem? (i := 226) rfl)) rfl
theorem q2541 : Cond.methodLink "PinEnginesModel" (360 : Nat) ({ cls := "PinEnginesModel", name := "pull", desc := "(IZZ)I" } : Jvm.MethodName) ∈ tb := tb_of (lw_c10 (List.mem_of_getElem? (i := 227) (by decide +kernel))) rfl
theorem q2543 : Cond.instanceMethod ({ cls := "PinEnginesModel", name := "pull", desc := "(IZZ)I" } : Jvm.MethodName) ∈ tb := tb_of (lw_c10 (List.mem_of_getElem? (i := 229) (by decide +kernel))) rfl
set_option maxRecDepth 100000 in
theorem q2544 : Cond.code ({ cls := "PinEnginesModel", name := "pull", desc := "(IZZ)I" } : Jvm.MethodName) prog_15_method_70_code (4 : Nat) (Option.some Jvm.ClassFile.FieldType.int) ∈ tb := tb_of (lw_c10 (List.mem_of_getElem? (i := 230) rfl)) rfl
theorem q2545 : Cond.methodLink "PinEnginesModel" (362 : Nat) ({ cls := "PinEnginesModel", name := "move", desc := "(IIII)I" } : Jvm.MethodName) ∈ tb := tb_of (lw_c10 (List.mem_of_getElem? (i := 231) (by decide +kernel))) rfl
theorem q2547 : Cond.instanceMethod ({ cls := "PinEnginesModel", name := "move", desc := "(IIII)I" } : Jvm.MethodName) ∈ tb := tb_of (lw_c10 (List.mem_of_getElem? (i := 233) (by decide +kernel))) rfl
set_option maxRecDepth 100000 in
theorem q2548 : Cond.code ({ cls := "PinEnginesModel", name := "move", desc := "(IIII)I" } : Jvm.MethodName) prog_15_method_72_code (6 : Nat) (Option.some Jvm.ClassFile.FieldType.int) ∈ tb := tb_of (lw_c10 (List.mem_of_getElem? (i := 234) rfl)) rfl
theorem q2549 : Cond.methodLink "PinEnginesModel" (419 : Nat) ({ cls := "PinEnginesModel", name := "reversed", desc := "(I)I" } : Jvm.MethodName) ∈ tb := tb_of (lw_c10 (List.mem_of_getElem? (i := 235) (by decide +kernel))) rfl
theorem q2550 : Cond.static ({ cls := "PinEnginesModel", name := "reversed", desc := "(I)I" } : Jvm.MethodName) ∈ tb := tb_of (lw_c10 (List.mem_of_getElem? (i := 236) (by decide +kernel))) rfl
set_option maxRecDepth 100000 in
theorem q2551 : Cond.code ({ cls := "PinEnginesModel", name := "reversed", desc := "(I)I" } : Jvm.MethodName) prog_15_method_71_code (3 : Nat) (Option.some Jvm.ClassFile.FieldType.int) ∈ tb := tb_of (lw_c10 (List.mem_of_getElem? (i := 237) rfl)) rfl
theorem q2552 : Cond.methodLink "PinEnginesModel" (366 : Nat) ({ cls := "PinEnginesModel", name := "signal", desc := "(II)I" } : Jvm.MethodName) ∈ tb := tb_of (lw_c10 (List.mem_of_getElem? (i := 238) (by decide +kernel))) rfl
theorem q2554 : Cond.instanceMethod ({ cls := "PinEnginesModel", name := "signal", desc := "(II)I" } : Jvm.MethodName) ∈ tb := tb_of (lw_c11 (List.mem_of_getElem? (i := 0) (by decide +kernel))) rfl
set_option maxRecDepth 100000 in
theorem q2555 : Cond.code ({ cls := "PinEnginesModel", name := "signal", desc := "(II)I" } : Jvm.MethodName) prog_15_method_59_code (3 : Nat) (Option.some Jvm.ClassFile.FieldType.int) ∈ tb := tb_of (lw_c11 (List.mem_of_getElem? (i := 1) rfl)) rfl
theorem q2556 : Cond.methodLink "PinEnginesModel" (368 : Nat) ({ cls := "PinEnginesModel", name := "assign", desc := "(III)I" } : Jvm.MethodName) ∈ tb := tb_of (lw_c11 (List.mem_of_getElem? (i := 2) (by decide +kernel))) rfl
theorem q2558 : Cond.instanceMethod ({ cls := "PinEnginesModel", name := "assign", desc := "(III)I" } : Jvm.MethodName) ∈ tb := tb_of (lw_c11 (List.mem_of_getElem? (i := 4) (by decide +kernel))) rfl
set_option maxRecDepth 100000 in
theorem q2559 : Cond.code ({ cls := "PinEnginesModel", name := "assign", desc := "(III)I" } : Jvm.MethodName) prog_15_method_73_code (4 : Nat) (Option.some Jvm.ClassFile.FieldType.int) ∈ tb := tb_of (lw_c11 (List.mem_of_getElem? (i := 5) rfl)) rfl
theorem q2560 : Cond.methodLink "PinEnginesModel" (371 : Nat) ({ cls := "PinEnginesModel", name := "access", desc := "(II)I" } : Jvm.MethodName) ∈ tb := tb_of (lw_c11 (List.mem_of_getElem? (i := 6) (by decide +kernel))) rfl
theorem q2562 : Cond.instanceMethod ({ cls := "PinEnginesModel", name := "access", desc := "(II)I" } : Jvm.MethodName) ∈ tb := tb_of (lw_c11 (List.mem_of_getElem? (i := 8) (by decide +kernel))) rfl
set_option maxRecDepth 100000 in
theorem q2563 : Cond.code ({ cls := "PinEnginesModel", name := "access", desc := "(II)I" } : Jvm.MethodName) prog_15_method_74_code (5 : Nat) (Option.some Jvm.ClassFile.FieldType.int) ∈ tb := tb_of (lw_c11 (List.mem_of_getElem? (i := 9) rfl)) rfl
theorem q2564 : Cond.methodLink "PinEnginesModel" (338 : Nat) ({ cls := "PinEnginesModel", name := "nextAddress", desc := "(I)I" } : Jvm.MethodName) ∈ tb := tb_of (lw_c11 (List.mem_of_getElem? (i := 10) (by decide +kernel))) rfl
theorem q2566 : Cond.instanceMethod ({ cls := "PinEnginesModel", name := "nextAddress", desc := "(I)I" } : Jvm.MethodName) ∈ tb := tb_of (lw_c11 (List.mem_of_getElem? (i := 12) (by decide +kernel))) rfl
set_option maxRecDepth 100000 in
theorem q2567 : Cond.code ({ cls := "PinEnginesModel", name := "nextAddress", desc := "(I)I" } : Jvm.MethodName) prog_15_method_52_code (3 : Nat) (Option.some Jvm.ClassFile.FieldType.int) ∈ tb := tb_of (lw_c11 (List.mem_of_getElem? (i := 13) rfl)) rfl
theorem q2568 : Cond.methodLink "PinEnginesModel" (322 : Nat) ({ cls := "PinEnginesModel", name := "writeAll", desc := "(I)V" } : Jvm.MethodName) ∈ tb := tb_of (lw_c11 (List.mem_of_getElem? (i := 14) (by decide +kernel))) rfl
theorem q2570 : Cond.instanceMethod ({ cls := "PinEnginesModel", name := "writeAll", desc := "(I)V" } : Jvm.MethodName) ∈ tb := tb_of (lw_c11 (List.mem_of_getElem? (i := 16) (by decide +kernel))) rfl
set_option maxRecDepth 100000 in
theorem q2571 : Cond.code ({ cls := "PinEnginesModel", name := "writeAll", desc := "(I)V" } : Jvm.MethodName) prog_15_method_48_code (2 : Nat) (Option.none : Option Jvm.ClassFile.FieldType) ∈ tb := tb_of (lw_c11 (List.mem_of_getElem? (i := 17) rfl)) rfl
theorem q2572 : Cond.methodLink "PinEnginesModel" (302 : Nat) ({ cls := "PinEnginesModel", name := "writeBits", desc := "(IIIZ)V" } : Jvm.MethodName) ∈ tb := tb_of (lw_c11 (List.mem_of_getElem? (i := 18) (by decide +kernel))) rfl
theorem q2574 : Cond.instanceMethod ({ cls := "PinEnginesModel", name := "writeBits", desc := "(IIIZ)V" } : Jvm.MethodName) ∈ tb := tb_of (lw_c11 (List.mem_of_getElem? (i := 20) (by decide +kernel))) rfl
set_option maxRecDepth 100000 in
theorem q2575 : Cond.code ({ cls := "PinEnginesModel", name := "writeBits", desc := "(IIIZ)V" } : Jvm.MethodName) prog_15_method_47_code (6 : Nat) (Option.none : Option Jvm.ClassFile.FieldType) ∈ tb := tb_of (lw_c11 (List.mem_of_getElem? (i := 21) rfl)) rfl
theorem q2576 : Cond.methodLink "PinEnginesModel" (325 : Nat) ({ cls := "PinEnginesModel", name := "recordLevels", desc := "()V" } : Jvm.MethodName) ∈ tb := tb_of (lw_c11 (List.mem_of_getElem? (i := 22) (by decide +kernel))) rfl
theorem q2578 : Cond.instanceMethod ({ cls := "PinEnginesModel", name := "recordLevels", desc := "()V" } : Jvm.MethodName) ∈ tb := tb_of (lw_c11 (List.mem_of_getElem? (i := 24) (by decide +kernel))) rfl
set_option maxRecDepth 100000 in
theorem q2579 : Cond.code ({ cls := "PinEnginesModel", name := "recordLevels", desc := "()V" } : Jvm.MethodName) prog_15_method_49_code (4 : Nat) (Option.none : Option Jvm.ClassFile.FieldType) ∈ tb := tb_of (lw_c11 (List.mem_of_getElem? (i := 25) rfl)) rfl
theorem q2580 : Cond.methodLink "PinEnginesLaw" (246 : Nat) ({ cls := "PinEnginesModel", name := "cyclesUntil", desc := "(III)I" } : Jvm.MethodName) ∈ tb := tb_of (lw_c11 (List.mem_of_getElem? (i := 26) (by decide +kernel))) rfl
theorem q2584 : Cond.methodLink "PinEnginesModel" (438 : Nat) ({ cls := "PinEnginesModel", name := "isLimit", desc := "(I)Z" } : Jvm.MethodName) ∈ tb := tb_of (lw_c11 (List.mem_of_getElem? (i := 30) (by decide +kernel))) rfl
theorem q2585 : Cond.static ({ cls := "PinEnginesModel", name := "isLimit", desc := "(I)Z" } : Jvm.MethodName) ∈ tb := tb_of (lw_c11 (List.mem_of_getElem? (i := 31) (by decide +kernel))) rfl
set_option maxRecDepth 100000 in
theorem q2586 : Cond.code ({ cls := "PinEnginesModel", name := "isLimit", desc := "(I)Z" } : Jvm.MethodName) prog_15_method_89_code (1 : Nat) (Option.some Jvm.ClassFile.FieldType.boolean) ∈ tb := tb_of (lw_c11 (List.mem_of_getElem? (i := 32) rfl)) rfl
theorem q2587 : Cond.methodLink "PinEnginesLaw" (249 : Nat) ({ cls := "PinEnginesModel", name := "cyclesTo", desc := "(III)I" } : Jvm.MethodName) ∈ tb := tb_of (lw_c11 (List.mem_of_getElem? (i := 33) (by decide +kernel))) rfl
theorem q2591 : Cond.methodLink "PinEnginesLaw" (252 : Nat) ({ cls := "PinEnginesModel", name := "period", desc := "(II)I" } : Jvm.MethodName) ∈ tb := tb_of (lw_c11 (List.mem_of_getElem? (i := 37) (by decide +kernel))) rfl
theorem q2595 : Cond.methodLink "PinEnginesLaw" (255 : Nat) ({ cls := "PinEnginesModel", name := "stuck", desc := "(I)I" } : Jvm.MethodName) ∈ tb := tb_of (lw_c11 (List.mem_of_getElem? (i := 41) (by decide +kernel))) rfl
theorem q2599 : Cond.methodLink "PinEnginesLaw" (258 : Nat) ({ cls := "PinEnginesModel", name := "divider", desc := "(II)I" } : Jvm.MethodName) ∈ tb := tb_of (lw_c11 (List.mem_of_getElem? (i := 45) (by decide +kernel))) rfl
theorem q2603 : Cond.constantLong "PinEnginesModel" (445 : Nat) (256 : Int64) ∈ tb := tb_of (lw_c11 (List.mem_of_getElem? (i := 49) (by decide +kernel))) rfl
theorem q2604 : Cond.constantLong "PinEnginesModel" (447 : Nat) (65535 : Int64) ∈ tb := tb_of (lw_c11 (List.mem_of_getElem? (i := 50) (by decide +kernel))) rfl
theorem q2605 : Cond.methodLink "PinEnginesModel" (449 : Nat) ({ cls := "java/lang/Math", name := "min", desc := "(JJ)J" } : Jvm.MethodName) ∈ tb := tb_of (lw_c11 (List.mem_of_getElem? (i := 51) (by decide +kernel))) rfl
theorem q2606 : Cond.static ({ cls := "java/lang/Math", name := "min", desc := "(JJ)J" } : Jvm.MethodName) ∈ tb := tb_of (lw_c11 (List.mem_of_getElem? (i := 52) (by decide +kernel))) rfl
theorem q2607 : Cond.code Lib.MathLoose.min_long.x Lib.MathLoose.min_long.code 4 (Option.some Jvm.ClassFile.FieldType.long) ∈ tb := tb_of (lw_c11 (List.mem_of_getElem? (i := 53) (by decide +kernel))) rfl
theorem q2608 : Cond.methodLink "PinEnginesModel" (452 : Nat) ({ cls := "java/lang/Math", name := "max", desc := "(JJ)J" } : Jvm.MethodName) ∈ tb := tb_of (lw_c11 (List.mem_of_getElem? (i := 54) (by decide +kernel))) rfl
theorem q2609 : Cond.static ({ cls := "java/lang/Math", name := "max", desc := "(JJ)J" } : Jvm.MethodName) ∈ tb := tb_of (lw_c11 (List.mem_of_getElem? (i := 55) (by decide +kernel))) rfl
theorem q2610 : Cond.code Lib.MathLoose.max_long.x Lib.MathLoose.max_long.code 4 (Option.some Jvm.ClassFile.FieldType.long) ∈ tb := tb_of (lw_c11 (List.mem_of_getElem? (i := 56) (by decide +kernel))) rfl
theorem q2611 : Cond.methodLink "PinEnginesModel" (455 : Nat) ({ cls := "java/lang/Math", name := "abs", desc := "(J)J" } : Jvm.MethodName) ∈ tb := tb_of (lw_c11 (List.mem_of_getElem? (i := 57) (by decide +kernel))) rfl
theorem q2612 : Cond.static ({ cls := "java/lang/Math", name := "abs", desc := "(J)J" } : Jvm.MethodName) ∈ tb := tb_of (lw_c11 (List.mem_of_getElem? (i := 58) (by decide +kernel))) rfl
theorem q2613 : Cond.code Lib.MathLoose.abs_long.x Lib.MathLoose.abs_long.code 2 (Option.some Jvm.ClassFile.FieldType.long) ∈ tb := tb_of (lw_c11 (List.mem_of_getElem? (i := 59) (by decide +kernel))) rfl
theorem q2614 : Cond.methodLink "PinEnginesLaw" (269 : Nat) ({ cls := "PinEnginesModel", name := "undoCount", desc := "()I" } : Jvm.MethodName) ∈ tb := tb_of (lw_c11 (List.mem_of_getElem? (i := 60) (by decide +kernel))) rfl
theorem q2618 : Cond.methodLink "PinEnginesLaw" (273 : Nat) ({ cls := "PinEnginesModel", name := "undo", desc := "()I" } : Jvm.MethodName) ∈ tb := tb_of (lw_c11 (List.mem_of_getElem? (i := 64) (by decide +kernel))) rfl
theorem q2622 : Cond.methodLink "PinEnginesLaw" (277 : Nat) ({ cls := "PinEnginesModel", name := "saveSnapshot", desc := "()V" } : Jvm.MethodName) ∈ tb := tb_of (lw_c11 (List.mem_of_getElem? (i := 68) (by decide +kernel))) rfl
theorem q2626 : Cond.methodLink "PinEnginesLaw" (282 : Nat) ({ cls := "PinEnginesModel", name := "restoreSnapshot", desc := "()Z" } : Jvm.MethodName) ∈ tb := tb_of (lw_c11 (List.mem_of_getElem? (i := 72) (by decide +kernel))) rfl
theorem q2630 : Cond.methodLink "PinEnginesLaw" (131 : Nat) ({ cls := "PinEnginesModel", name := "feed", desc := "(IIIII)I" } : Jvm.MethodName) ∈ tb := tb_of (lw_c11 (List.mem_of_getElem? (i := 76) (by decide +kernel))) rfl
theorem q2634 : Cond.methodLink "PinEnginesLaw" (145 : Nat) ({ cls := "PinEnginesModel", name := "errorPosition", desc := "()I" } : Jvm.MethodName) ∈ tb := tb_of (lw_c11 (List.mem_of_getElem? (i := 80) (by decide +kernel))) rfl
theorem q2638 : Cond.methodLink "PinEnginesLaw" (137 : Nat) ({ cls := "PinEnginesModel", name := "load", desc := "(I)I" } : Jvm.MethodName) ∈ tb := tb_of (lw_c11 (List.mem_of_getElem? (i := 84) (by decide +kernel))) rfl
theorem q2642 : Cond.methodLink "PinEnginesModel" (618 : Nat) ({ cls := "PinEnginesModel", name := "startText", desc := "(I)V" } : Jvm.MethodName) ∈ tb := tb_of (lw_c11 (List.mem_of_getElem? (i := 88) (by decide +kernel))) rfl
theorem q2644 : Cond.instanceMethod ({ cls := "PinEnginesModel", name := "startText", desc := "(I)V" } : Jvm.MethodName) ∈ tb := tb_of (lw_c11 (List.mem_of_getElem? (i := 90) (by decide +kernel))) rfl
set_option maxRecDepth 100000 in
theorem q2645 : Cond.code ({ cls := "PinEnginesModel", name := "startText", desc := "(I)V" } : Jvm.MethodName) prog_15_method_107_code (2 : Nat) (Option.none : Option Jvm.ClassFile.FieldType) ∈ tb := tb_of (lw_c11 (List.mem_of_getElem? (i := 91) rfl)) rfl
theorem q2646 : Cond.methodLink "PinEnginesModel" (496 : Nat) ({ cls := "PinEnginesModel", name := "scan", desc := "()V" } : Jvm.MethodName) ∈ tb := tb_of (lw_c11 (List.mem_of_getElem? (i := 92) (by decide +kernel))) rfl
theorem q2648 : Cond.instanceMethod ({ cls := "PinEnginesModel", name := "scan", desc := "()V" } : Jvm.MethodName) ∈ tb := tb_of (lw_c11 (List.mem_of_getElem? (i := 94) (by decide +kernel))) rfl
set_option maxRecDepth 100000 in
theorem q2649 : Cond.code ({ cls := "PinEnginesModel", name := "scan", desc := "()V" } : Jvm.MethodName) prog_15_method_106_code (1 : Nat) (Option.none : Option Jvm.ClassFile.FieldType) ∈ tb := tb_of (lw_c11 (List.mem_of_getElem? (i := 95) rfl)) rfl
theorem q2650 : Cond.methodLink "PinEnginesModel" (472 : Nat) ({ cls := "PinEnginesModel", name := "byteAt", desc := "(I)I" } : Jvm.MethodName) ∈ tb := tb_of (lw_c11 (List.mem_of_getElem? (i := 96) (by decide +kernel))) rfl
theorem q2652 : Cond.instanceMethod ({ cls := "PinEnginesModel", name := "byteAt", desc := "(I)I" } : Jvm.MethodName) ∈ tb := tb_of (lw_c11 (List.mem_of_getElem? (i := 98) (by decide +kernel))) rfl
set_option maxRecDepth 100000 in
theorem q2653 : Cond.code ({ cls := "PinEnginesModel", name := "byteAt", desc := "(I)I" } : Jvm.MethodName) prog_15_method_103_code (2 : Nat) (Option.some Jvm.ClassFile.FieldType.int) ∈ tb := tb_of (lw_c11 (List.mem_of_getElem? (i := 99) rfl)) rfl
theorem q2654 : Cond.methodLink "PinEnginesModel" (484 : Nat) ({ cls := "PinEnginesModel", name := "isLetter", desc := "(I)Z" } : Jvm.MethodName) ∈ tb := tb_of (lw_c11 (List.mem_of_getElem? (i := 100) (by decide +kernel))) rfl
theorem q2656 : Cond.instanceMethod ({ cls := "PinEnginesModel", name := "isLetter", desc := "(I)Z" } : Jvm.MethodName) ∈ tb := tb_of (lw_c11 (List.mem_of_getElem? (i := 102) (by decide +kernel))) rfl
set_option maxRecDepth 100000 in
theorem q2657 : Cond.code ({ cls := "PinEnginesModel", name := "isLetter", desc := "(I)Z" } : Jvm.MethodName) prog_15_method_104_code (2 : Nat) (Option.some Jvm.ClassFile.FieldType.boolean) ∈ tb := tb_of (lw_c11 (List.mem_of_getElem? (i := 103) rfl)) rfl
theorem q2658 : Cond.methodLink "PinEnginesModel" (487 : Nat) ({ cls := "PinEnginesModel", name := "isDigit", desc := "(I)Z" } : Jvm.MethodName) ∈ tb := tb_of (lw_c11 (List.mem_of_getElem? (i := 104) (by decide +kernel))) rfl
theorem q2660 : Cond.instanceMethod ({ cls := "PinEnginesModel", name := "isDigit", desc := "(I)Z" } : Jvm.MethodName) ∈ tb := tb_of (lw_c11 (List.mem_of_getElem? (i := 106) (by decide +kernel))) rfl
set_option maxRecDepth 100000 in
theorem q2661 : Cond.code ({ cls := "PinEnginesModel", name := "isDigit", desc := "(I)Z" } : Jvm.MethodName) prog_15_method_105_code (2 : Nat) (Option.some Jvm.ClassFile.FieldType.boolean) ∈ tb := tb_of (lw_c11 (List.mem_of_getElem? (i := 107) rfl)) rfl
theorem q2662 : Cond.methodLink "PinEnginesModel" (621 : Nat) ({ cls := "PinEnginesModel", name := "readClause", desc := "()V" } : Jvm.MethodName) ∈ tb := tb_of (lw_c11 (List.mem_of_getElem? (i := 108) (by decide +kernel))) rfl
theorem q2664 : Cond.instanceMethod ({ cls := "PinEnginesModel", name := "readClause", desc := "()V" } : Jvm.MethodName) ∈ tb := tb_of (lw_c11 (List.mem_of_getElem? (i := 110) (by decide +kernel))) rfl
set_option maxRecDepth 100000 in
theorem q2665 : Cond.code ({ cls := "PinEnginesModel", name := "readClause", desc := "()V" } : Jvm.MethodName) prog_15_method_143_code (1 : Nat) (Option.none : Option Jvm.ClassFile.FieldType) ∈ tb := tb_of (lw_c11 (List.mem_of_getElem? (i := 111) rfl)) rfl
theorem q2666 : Cond.methodLink "PinEnginesModel" (552 : Nat) ({ cls := "PinEnginesModel", name := "accept", desc := "(Ljava/lang/String;)Z" } : Jvm.MethodName) ∈ tb := tb_of (lw_c11 (List.mem_of_getElem? (i := 112) (by decide +kernel))) rfl
theorem q2668 : Cond.instanceMethod ({ cls := "PinEnginesModel", name := "accept", desc := "(Ljava/lang/String;)Z" } : Jvm.MethodName) ∈ tb := tb_of (lw_c11 (List.mem_of_getElem? (i := 114) (by decide +kernel))) rfl
set_option maxRecDepth 100000 in
theorem q2669 : Cond.code ({ cls := "PinEnginesModel", name := "accept", desc := "(Ljava/lang/String;)Z" } : Jvm.MethodName) prog_15_method_114_code (3 : Nat) (Option.some Jvm.ClassFile.FieldType.boolean) ∈ tb := tb_of (lw_c11 (List.mem_of_getElem? (i := 115) rfl)) rfl
theorem q2670 : Cond.methodLink "PinEnginesModel" (512 : Nat) ({ cls := "PinEnginesModel", name := "isWord", desc := "(Ljava/lang/String;)Z" } : Jvm.MethodName) ∈ tb := tb_of (lw_c11 (List.mem_of_getElem? (i := 116) (by decide +kernel))) rfl
theorem q2672 : Cond.instanceMethod ({ cls := "PinEnginesModel", name := "isWord", desc := "(Ljava/lang/String;)Z" } : Jvm.MethodName) ∈ tb := tb_of (lw_c11 (List.mem_of_getElem? (i := 118) (by decide +kernel))) rfl
set_option maxRecDepth 100000 in
theorem q2673 : Cond.code ({ cls := "PinEnginesModel", name := "isWord", desc := "(Ljava/lang/String;)Z" } : Jvm.MethodName) prog_15_method_113_code (4 : Nat) (Option.some Jvm.ClassFile.FieldType.boolean) ∈ tb := tb_of (lw_c11 (List.mem_of_getElem? (i := 119) rfl)) rfl
theorem q2674 : Cond.methodLink "PinEnginesModel" (505 : Nat) ({ cls := "java/lang/String", name := "length", desc := "()I" } : Jvm.MethodName) ∈ tb := tb_of (lw_c11 (List.mem_of_getElem? (i := 120) (by decide +kernel))) rfl
theorem q2675 : Cond.methodLink "PinEnginesModel" (508 : Nat) ({ cls := "java/lang/String", name := "charAt", desc := "(I)C" } : Jvm.MethodName) ∈ tb := tb_of (lw_c11 (List.mem_of_getElem? (i := 121) (by decide +kernel))) rfl
theorem q2676 : Cond.methodLink "PinEnginesModel" (609 : Nat) ({ cls := "PinEnginesModel", name := "readEngine", desc := "()V" } : Jvm.MethodName) ∈ tb := tb_of (lw_c11 (List.mem_of_getElem? (i := 122) (by decide +kernel))) rfl
theorem q2678 : Cond.instanceMethod ({ cls := "PinEnginesModel", name := "readEngine", desc := "()V" } : Jvm.MethodName) ∈ tb := tb_of (lw_c11 (List.mem_of_getElem? (i := 124) (by decide +kernel))) rfl
set_option maxRecDepth 100000 in
theorem q2679 : Cond.code ({ cls := "PinEnginesModel", name := "readEngine", desc := "()V" } : Jvm.MethodName) prog_15_method_132_code (2 : Nat) (Option.none : Option Jvm.ClassFile.FieldType) ∈ tb := tb_of (lw_c11 (List.mem_of_getElem? (i := 125) rfl)) rfl
theorem q2680 : Cond.methodLink "PinEnginesModel" (516 : Nat) ({ cls := "PinEnginesModel", name := "check", desc := "(ZI)V" } : Jvm.MethodName) ∈ tb := tb_of (lw_c11 (List.mem_of_getElem? (i := 126) (by decide +kernel))) rfl
theorem q2682 : Cond.instanceMethod ({ cls := "PinEnginesModel", name := "check", desc := "(ZI)V" } : Jvm.MethodName) ∈ tb := tb_of (lw_c11 (List.mem_of_getElem? (i := 128) (by decide +kernel))) rfl
set_option maxRecDepth 100000 in
theorem q2683 : Cond.code ({ cls := "PinEnginesModel", name := "check", desc := "(ZI)V" } : Jvm.MethodName) prog_15_method_110_code (3 : Nat) (Option.none : Option Jvm.ClassFile.FieldType) ∈ tb := tb_of (lw_c11 (List.mem_of_getElem? (i := 129) rfl)) rfl
theorem q2684 : Cond.methodLink "PinEnginesModel" (502 : Nat) ({ cls := "PinEnginesModel", name := "fail", desc := "(I)V" } : Jvm.MethodName) ∈ tb := tb_of (lw_c11 (List.mem_of_getElem? (i := 130) (by decide +kernel))) rfl
theorem q2686 : Cond.instanceMethod ({ cls := "PinEnginesModel", name := "fail", desc := "(I)V" } : Jvm.MethodName) ∈ tb := tb_of (lw_c11 (List.mem_of_getElem? (i := 132) (by decide +kernel))) rfl
set_option maxRecDepth 100000 in
theorem q2687 : Cond.code ({ cls := "PinEnginesModel", name := "fail", desc := "(I)V" } : Jvm.MethodName) prog_15_method_109_code (2 : Nat) (Option.none : Option Jvm.ClassFile.FieldType) ∈ tb := tb_of (lw_c11 (List.mem_of_getElem? (i := 133) rfl)) rfl
theorem q2688 : Cond.methodLink "PinEnginesModel" (526 : Nat) ({ cls := "PinEnginesModel", name := "value", desc := "()I" } : Jvm.MethodName) ∈ tb := tb_of (lw_c11 (List.mem_of_getElem? (i := 134) (by decide +kernel))) rfl
theorem q2690 : Cond.instanceMethod ({ cls := "PinEnginesModel", name := "value", desc := "()I" } : Jvm.MethodName) ∈ tb := tb_of (lw_c11 (List.mem_of_getElem? (i := 136) (by decide +kernel))) rfl
set_option maxRecDepth 100000 in
theorem q2691 : Cond.code ({ cls := "PinEnginesModel", name := "value", desc := "()I" } : Jvm.MethodName) prog_15_method_117_code (3 : Nat) (Option.some Jvm.ClassFile.FieldType.int) ∈ tb := tb_of (lw_c11 (List.mem_of_getElem? (i := 137) rfl)) rfl
theorem q2692 : Cond.methodLink "PinEnginesModel" (520 : Nat) ({ cls := "PinEnginesModel", name := "advance", desc := "()V" } : Jvm.MethodName) ∈ tb := tb_of (lw_c11 (List.mem_of_getElem? (i := 138) (by decide +kernel))) rfl
theorem q2694 : Cond.instanceMethod ({ cls := "PinEnginesModel", name := "advance", desc := "()V" } : Jvm.MethodName) ∈ tb := tb_of (lw_c11 (List.mem_of_getElem? (i := 140) (by decide +kernel))) rfl
set_option maxRecDepth 100000 in
theorem q2695 : Cond.code ({ cls := "PinEnginesModel", name := "advance", desc := "()V" } : Jvm.MethodName) prog_15_method_111_code (1 : Nat) (Option.none : Option Jvm.ClassFile.FieldType) ∈ tb := tb_of (lw_c11 (List.mem_of_getElem? (i := 141) rfl)) rfl
theorem q2696 : Cond.methodLink "PinEnginesModel" (574 : Nat) ({ cls := "PinEnginesModel", name := "expectWord", desc := "(Ljava/lang/String;)V" } : Jvm.MethodName) ∈ tb := tb_of (lw_c11 (List.mem_of_getElem? (i := 142) (by decide +kernel))) rfl
theorem q2698 : Cond.instanceMethod ({ cls := "PinEnginesModel", name := "expectWord", desc := "(Ljava/lang/String;)V" } : Jvm.MethodName) ∈ tb := tb_of (lw_c11 (List.mem_of_getElem? (i := 144) (by decide +kernel))) rfl
set_option maxRecDepth 100000 in
theorem q2699 : Cond.code ({ cls := "PinEnginesModel", name := "expectWord", desc := "(Ljava/lang/String;)V" } : Jvm.MethodName) prog_15_method_115_code (2 : Nat) (Option.none : Option Jvm.ClassFile.FieldType) ∈ tb := tb_of (lw_c11 (List.mem_of_getElem? (i := 145) rfl)) rfl
theorem q2700 : Cond.methodLink "PinEnginesModel" (558 : Nat) ({ cls := "PinEnginesModel", name := "readName", desc := "(I)V" } : Jvm.MethodName) ∈ tb := tb_of (lw_c11 (List.mem_of_getElem? (i := 146) (by decide +kernel))) rfl
theorem q2702 : Cond.instanceMethod ({ cls := "PinEnginesModel", name := "readName", desc := "(I)V" } : Jvm.MethodName) ∈ tb := tb_of (lw_c11 (List.mem_of_getElem? (i := 148) (by decide +kernel))) rfl
set_option maxRecDepth 100000 in
theorem q2703 : Cond.code ({ cls := "PinEnginesModel", name := "readName", desc := "(I)V" } : Jvm.MethodName) prog_15_method_123_code (2 : Nat) (Option.none : Option Jvm.ClassFile.FieldType) ∈ tb := tb_of (lw_c11 (List.mem_of_getElem? (i := 149) rfl)) rfl
theorem q2704 : Cond.methodLink "PinEnginesModel" (536 : Nat) ({ cls := "PinEnginesModel", name := "isName", desc := "()Z" } : Jvm.MethodName) ∈ tb := tb_of (lw_c11 (List.mem_of_getElem? (i := 150) (by decide +kernel))) rfl
theorem q2706 : Cond.instanceMethod ({ cls := "PinEnginesModel", name := "isName", desc := "()Z" } : Jvm.MethodName) ∈ tb := tb_of (lw_c11 (List.mem_of_getElem? (i := 152) (by decide +kernel))) rfl
set_option maxRecDepth 100000 in
theorem q2707 : Cond.code ({ cls := "PinEnginesModel", name := "isName", desc := "()Z" } : Jvm.MethodName) prog_15_method_120_code (1 : Nat) (Option.some Jvm.ClassFile.FieldType.boolean) ∈ tb := tb_of (lw_c11 (List.mem_of_getElem? (i := 153) rfl)) rfl
theorem q2708 : Cond.methodLink "PinEnginesModel" (529 : Nat) ({ cls := "PinEnginesModel", name := "indexIn", desc := "([Ljava/lang/String;)I" } : Jvm.MethodName) ∈ tb := tb_of (lw_c11 (List.mem_of_getElem? (i := 154) (by decide +kernel))) rfl
theorem q2710 : Cond.instanceMethod ({ cls := "PinEnginesModel", name := "indexIn", desc := "([Ljava/lang/String;)I" } : Jvm.MethodName) ∈ tb := tb_of (lw_c11 (List.mem_of_getElem? (i := 156) (by decide +kernel))) rfl
set_option maxRecDepth 100000 in
theorem q2711 : Cond.code ({ cls := "PinEnginesModel", name := "indexIn", desc := "([Ljava/lang/String;)I" } : Jvm.MethodName) prog_15_method_119_code (3 : Nat) (Option.some Jvm.ClassFile.FieldType.int) ∈ tb := tb_of (lw_c11 (List.mem_of_getElem? (i := 157) rfl)) rfl
theorem q2712 : Cond.methodLink "PinEnginesModel" (578 : Nat) ({ cls := "PinEnginesModel", name := "readSetting", desc := "(I)Z" } : Jvm.MethodName) ∈ tb := tb_of (lw_c11 (List.mem_of_getElem? (i := 158) (by decide +kernel))) rfl
theorem q2714 : Cond.instanceMethod ({ cls := "PinEnginesModel", name := "readSetting", desc := "(I)Z" } : Jvm.MethodName) ∈ tb := tb_of (lw_c11 (List.mem_of_getElem? (i := 160) (by decide +kernel))) rfl
set_option maxRecDepth 100000 in
theorem q2715 : Cond.code ({ cls := "PinEnginesModel", name := "readSetting", desc := "(I)Z" } : Jvm.MethodName) prog_15_method_131_code (2 : Nat) (Option.some Jvm.ClassFile.FieldType.boolean) ∈ tb := tb_of (lw_c11 (List.mem_of_getElem? (i := 161) rfl)) rfl
theorem q2716 : Cond.methodLink "PinEnginesModel" (555 : Nat) ({ cls := "PinEnginesModel", name := "readClock", desc := "(I)V" } : Jvm.MethodName) ∈ tb := tb_of (lw_c11 (List.mem_of_getElem? (i := 162) (by decide +kernel))) rfl
theorem q2718 : Cond.instanceMethod ({ cls := "PinEnginesModel", name := "readClock", desc := "(I)V" } : Jvm.MethodName) ∈ tb := tb_of (lw_c11 (List.mem_of_getElem? (i := 164) (by decide +kernel))) rfl
set_option maxRecDepth 100000 in
theorem q2719 : Cond.code ({ cls := "PinEnginesModel", name := "readClock", desc := "(I)V" } : Jvm.MethodName) prog_15_method_129_code (4 : Nat) (Option.none : Option Jvm.ClassFile.FieldType) ∈ tb := tb_of (lw_c11 (List.mem_of_getElem? (i := 165) rfl)) rfl
theorem q2720 : Cond.methodLink "PinEnginesModel" (546 : Nat) ({ cls := "PinEnginesModel", name := "number", desc := "(II)I" } : Jvm.MethodName) ∈ tb := tb_of (lw_c11 (List.mem_of_getElem? (i := 166) (by decide +kernel))) rfl
theorem q2722 : Cond.instanceMethod ({ cls := "PinEnginesModel", name := "number", desc := "(II)I" } : Jvm.MethodName) ∈ tb := tb_of (lw_c11 (List.mem_of_getElem? (i := 168) (by decide +kernel))) rfl
set_option maxRecDepth 100000 in
theorem q2723 : Cond.code ({ cls := "PinEnginesModel", name := "number", desc := "(II)I" } : Jvm.MethodName) prog_15_method_118_code (4 : Nat) (Option.some Jvm.ClassFile.FieldType.int) ∈ tb := tb_of (lw_c11 (List.mem_of_getElem? (i := 169) rfl)) rfl
theorem q2724 : Cond.methodLink "PinEnginesModel" (561 : Nat) ({ cls := "PinEnginesModel", name := "readGroup", desc := "(II)V" } : Jvm.MethodName) ∈ tb := tb_of (lw_c11 (List.mem_of_getElem? (i := 170) (by decide +kernel))) rfl
theorem q2726 : Cond.instanceMethod ({ cls := "PinEnginesModel", name := "readGroup", desc := "(II)V" } : Jvm.MethodName) ∈ tb := tb_of (lw_c11 (List.mem_of_getElem? (i := 172) (by decide +kernel))) rfl
set_option maxRecDepth 100000 in
theorem q2727 : Cond.code ({ cls := "PinEnginesModel", name := "readGroup", desc := "(II)V" } : Jvm.MethodName) prog_15_method_126_code (3 : Nat) (Option.none : Option Jvm.ClassFile.FieldType) ∈ tb := tb_of (lw_c11 (List.mem_of_getElem? (i := 173) rfl)) rfl
theorem q2728 : Cond.methodLink "PinEnginesModel" (549 : Nat) ({ cls := "PinEnginesModel", name := "putNumber", desc := "(III)V" } : Jvm.MethodName) ∈ tb := tb_of (lw_c11 (List.mem_of_getElem? (i := 174) (by decide +kernel))) rfl
theorem q2730 : Cond.instanceMethod ({ cls := "PinEnginesModel", name := "putNumber", desc := "(III)V" } : Jvm.MethodName) ∈ tb := tb_of (lw_c11 (List.mem_of_getElem? (i := 176) (by decide +kernel))) rfl
set_option maxRecDepth 100000 in
theorem q2731 : Cond.code ({ cls := "PinEnginesModel", name := "putNumber", desc := "(III)V" } : Jvm.MethodName) prog_15_method_125_code (5 : Nat) (Option.none : Option Jvm.ClassFile.FieldType) ∈ tb := tb_of (lw_c11 (List.mem_of_getElem? (i := 177) rfl)) rfl
theorem q2732 : Cond.methodLink "PinEnginesModel" (564 : Nat) ({ cls := "PinEnginesModel", name := "readLimit", desc := "(I)V" } : Jvm.MethodName) ∈ tb := tb_of (lw_c11 (List.mem_of_getElem? (i := 178) (by decide +kernel))) rfl
theorem q2734 : Cond.instanceMethod ({ cls := "PinEnginesModel", name := "readLimit", desc := "(I)V" } : Jvm.MethodName) ∈ tb := tb_of (lw_c11 (List.mem_of_getElem? (i := 180) (by decide +kernel))) rfl
set_option maxRecDepth 100000 in
theorem q2735 : Cond.code ({ cls := "PinEnginesModel", name := "readLimit", desc := "(I)V" } : Jvm.MethodName) prog_15_method_127_code (2 : Nat) (Option.none : Option Jvm.ClassFile.FieldType) ∈ tb := tb_of (lw_c11 (List.mem_of_getElem? (i := 181) rfl)) rfl
theorem q2736 : Cond.methodLink "PinEnginesModel" (567 : Nat) ({ cls := "PinEnginesModel", name := "join", desc := "(II)V" } : Jvm.MethodName) ∈ tb := tb_of (lw_c11 (List.mem_of_getElem? (i := 182) (by decide +kernel))) rfl
theorem q2738 : Cond.instanceMethod ({ cls := "PinEnginesModel", name := "join", desc := "(II)V" } : Jvm.MethodName) ∈ tb := tb_of (lw_c11 (List.mem_of_getElem? (i := 184) (by decide +kernel))) rfl
set_option maxRecDepth 100000 in
theorem q2739 : Cond.code ({ cls := "PinEnginesModel", name := "join", desc := "(II)V" } : Jvm.MethodName) prog_15_method_128_code (3 : Nat) (Option.none : Option Jvm.ClassFile.FieldType) ∈ tb := tb_of (lw_c11 (List.mem_of_getElem? (i := 185) rfl)) rfl
theorem q2740 : Cond.methodLink "PinEnginesModel" (570 : Nat) ({ cls := "PinEnginesModel", name := "readFlag", desc := "(ILjava/lang/String;)Z" } : Jvm.MethodName) ∈ tb := tb_of (lw_c11 (List.mem_of_getElem? (i := 186) (by decide +kernel))) rfl
theorem q2742 : Cond.instanceMethod ({ cls := "PinEnginesModel", name := "readFlag", desc := "(ILjava/lang/String;)Z" } : Jvm.MethodName) ∈ tb := tb_of (lw_c11 (List.mem_of_getElem? (i := 188) (by decide +kernel))) rfl
set_option maxRecDepth 100000 in
theorem q2743 : Cond.code ({ cls := "PinEnginesModel", name := "readFlag", desc := "(ILjava/lang/String;)Z" } : Jvm.MethodName) prog_15_method_130_code (4 : Nat) (Option.some Jvm.ClassFile.FieldType.boolean) ∈ tb := tb_of (lw_c11 (List.mem_of_getElem? (i := 189) rfl)) rfl
theorem q2744 : Cond.methodLink "PinEnginesModel" (612 : Nat) ({ cls := "PinEnginesModel", name := "readLevel", desc := "()V" } : Jvm.MethodName) ∈ tb := tb_of (lw_c11 (List.mem_of_getElem? (i := 190) (by decide +kernel))) rfl
theorem q2746 : Cond.instanceMethod ({ cls := "PinEnginesModel", name := "readLevel", desc := "()V" } : Jvm.MethodName) ∈ tb := tb_of (lw_c11 (List.mem_of_getElem? (i := 192) (by decide +kernel))) rfl
set_option maxRecDepth 100000 in
theorem q2747 : Cond.code ({ cls := "PinEnginesModel", name := "readLevel", desc := "()V" } : Jvm.MethodName) prog_15_method_133_code (2 : Nat) (Option.none : Option Jvm.ClassFile.FieldType) ∈ tb := tb_of (lw_c11 (List.mem_of_getElem? (i := 193) rfl)) rfl
theorem q2748 : Cond.methodLink "PinEnginesModel" (615 : Nat) ({ cls := "PinEnginesModel", name := "readInstruction", desc := "()V" } : Jvm.MethodName) ∈ tb := tb_of (lw_c11 (List.mem_of_getElem? (i := 194) (by decide +kernel))) rfl
theorem q2750 : Cond.instanceMethod ({ cls := "PinEnginesModel", name := "readInstruction", desc := "()V" } : Jvm.MethodName) ∈ tb := tb_of (lw_c11 (List.mem_of_getElem? (i := 196) (by decide +kernel))) rfl
set_option maxRecDepth 100000 in
theorem q2751 : Cond.code ({ cls := "PinEnginesModel", name := "readInstruction", desc := "()V" } : Jvm.MethodName) prog_15_method_142_code (3 : Nat) (Option.none : Option Jvm.ClassFile.FieldType) ∈ tb := tb_of (lw_c11 (List.mem_of_getElem? (i := 197) rfl)) rfl
theorem q2752 : Cond.methodLink "PinEnginesModel" (603 : Nat) ({ cls := "PinEnginesModel", name := "readLabel", desc := "()V" } : Jvm.MethodName) ∈ tb := tb_of (lw_c11 (List.mem_of_getElem? (i := 198) (by decide +kernel))) rfl
theorem q2754 : Cond.instanceMethod ({ cls := "PinEnginesModel", name := "readLabel", desc := "()V" } : Jvm.MethodName) ∈ tb := tb_of (lw_c11 (List.mem_of_getElem? (i := 200) (by decide +kernel))) rfl
set_option maxRecDepth 100000 in
theorem q2755 : Cond.code ({ cls := "PinEnginesModel", name := "readLabel", desc := "()V" } : Jvm.MethodName) prog_15_method_141_code (4 : Nat) (Option.none : Option Jvm.ClassFile.FieldType) ∈ tb := tb_of (lw_c11 (List.mem_of_getElem? (i := 201) rfl)) rfl
theorem q2756 : Cond.methodLink "PinEnginesModel" (543 : Nat) ({ cls := "PinEnginesModel", name := "labelled", desc := "(III)I" } : Jvm.MethodName) ∈ tb := tb_of (lw_c11 (List.mem_of_getElem? (i := 202) (by decide +kernel))) rfl
theorem q2758 : Cond.instanceMethod ({ cls := "PinEnginesModel", name := "labelled", desc := "(III)I" } : Jvm.MethodName) ∈ tb := tb_of (lw_c11 (List.mem_of_getElem? (i := 204) (by decide +kernel))) rfl
set_option maxRecDepth 100000 in
theorem q2759 : Cond.code ({ cls := "PinEnginesModel", name := "labelled", desc := "(III)I" } : Jvm.MethodName) prog_15_method_122_code (5 : Nat) (Option.some Jvm.ClassFile.FieldType.int) ∈ tb := tb_of (lw_c11 (List.mem_of_getElem? (i := 205) rfl)) rfl
theorem q2760 : Cond.methodLink "PinEnginesModel" (533 : Nat) ({ cls := "PinEnginesModel", name := "isSame", desc := "(III)Z" } : Jvm.MethodName) ∈ tb := tb_of (lw_c11 (List.mem_of_getElem? (i := 206) (by decide +kernel))) rfl
theorem q2762 : Cond.instanceMethod ({ cls := "PinEnginesModel", name := "isSame", desc := "(III)Z" } : Jvm.MethodName) ∈ tb := tb_of (lw_c11 (List.mem_of_getElem? (i := 208) (by decide +kernel))) rfl
set_option maxRecDepth 100000 in
theorem q2763 : Cond.code ({ cls := "PinEnginesModel", name := "isSame", desc := "(III)Z" } : Jvm.MethodName) prog_15_method_121_code (5 : Nat) (Option.some Jvm.ClassFile.FieldType.boolean) ∈ tb := tb_of (lw_c11 (List.mem_of_getElem? (i := 209) rfl)) rfl
theorem q2764 : Cond.methodLink "PinEnginesModel" (600 : Nat) ({ cls := "PinEnginesModel", name := "expect", desc := "(I)V" } : Jvm.MethodName) ∈ tb := tb_of (lw_c11 (List.mem_of_getElem? (i := 210) (by decide +kernel))) rfl
theorem q2766 : Cond.instanceMethod ({ cls := "PinEnginesModel", name := "expect", desc := "(I)V" } : Jvm.MethodName) ∈ tb := tb_of (lw_c11 (List.mem_of_getElem? (i := 212) (by decide +kernel))) rfl
set_option maxRecDepth 100000 in
theorem q2767 : Cond.code ({ cls := "PinEnginesModel", name := "expect", desc := "(I)V" } : Jvm.MethodName) prog_15_method_116_code (2 : Nat) (Option.none : Option Jvm.ClassFile.FieldType) ∈ tb := tb_of (lw_c11 (List.mem_of_getElem? (i := 213) rfl)) rfl
theorem q2768 : Cond.methodLink "PinEnginesModel" (523 : Nat) ({ cls := "PinEnginesModel", name := "isSymbol", desc := "(I)Z" } : Jvm.MethodName) ∈ tb := tb_of (lw_c11 (List.mem_of_getElem? (i := 214) (by decide +kernel))) rfl
theorem q2770 : Cond.instanceMethod ({ cls := "PinEnginesModel", name := "isSymbol", desc := "(I)Z" } : Jvm.MethodName) ∈ tb := tb_of (lw_c11 (List.mem_of_getElem? (i := 216) (by decide +kernel))) rfl
set_option maxRecDepth 100000 in
theorem q2771 : Cond.code ({ cls := "PinEnginesModel", name := "isSymbol", desc := "(I)Z" } : Jvm.MethodName) prog_15_method_112_code (2 : Nat) (Option.some Jvm.ClassFile.FieldType.boolean) ∈ tb := tb_of (lw_c11 (List.mem_of_getElem? (i := 217) rfl)) rfl
theorem q2772 : Cond.methodLink "PinEnginesModel" (606 : Nat) ({ cls := "PinEnginesModel", name := "readOperands", desc := "(II)V" } : Jvm.MethodName) ∈ tb := tb_of (lw_c11 (List.mem_of_getElem? (i := 218) (by decide +kernel))) rfl
theorem q2774 : Cond.instanceMethod ({ cls := "PinEnginesModel", name := "readOperands", desc := "(II)V" } : Jvm.MethodName) ∈ tb := tb_of (lw_c11 (List.mem_of_getElem? (i := 220) (by decide +kernel))) rfl
set_option maxRecDepth 100000 in
theorem q2775 : Cond.code ({ cls := "PinEnginesModel", name := "readOperands", desc := "(II)V" } : Jvm.MethodName) prog_15_method_140_code (3 : Nat) (Option.none : Option Jvm.ClassFile.FieldType) ∈ tb := tb_of (lw_c11 (List.mem_of_getElem? (i := 221) rfl)) rfl
theorem q2776 : Cond.methodLink "PinEnginesModel" (584 : Nat) ({ cls := "PinEnginesModel", name := "readJump", desc := "(I)V" } : Jvm.MethodName) ∈ tb := tb_of (lw_c11 (List.mem_of_getElem? (i := 222) (by decide +kernel))) rfl
theorem q2778 : Cond.instanceMethod ({ cls := "PinEnginesModel", name := "readJump", desc := "(I)V" } : Jvm.MethodName) ∈ tb := tb_of (lw_c11 (List.mem_of_getElem? (i := 224) (by decide +kernel))) rfl
set_option maxRecDepth 100000 in
theorem q2779 : Cond.code ({ cls := "PinEnginesModel", name := "readJump", desc := "(I)V" } : Jvm.MethodName) prog_15_method_135_code (3 : Nat) (Option.none : Option Jvm.ClassFile.FieldType) ∈ tb := tb_of (lw_c11 (List.mem_of_getElem? (i := 225) rfl)) rfl
theorem q2780 : Cond.methodLink "PinEnginesModel" (587 : Nat) ({ cls := "PinEnginesModel", name := "readWait", desc := "(I)V" } : Jvm.MethodName) ∈ tb := tb_of (lw_c11 (List.mem_of_getElem? (i := 226) (by decide +kernel))) rfl
theorem q2782 : Cond.instanceMethod ({ cls := "PinEnginesModel", name := "readWait", desc := "(I)V" } : Jvm.MethodName) ∈ tb := tb_of (lw_c11 (List.mem_of_getElem? (i := 228) (by decide +kernel))) rfl
set_option maxRecDepth 100000 in
theorem q2783 : Cond.code ({ cls := "PinEnginesModel", name := "readWait", desc := "(I)V" } : Jvm.MethodName) prog_15_method_136_code (3 : Nat) (Option.none : Option Jvm.ClassFile.FieldType) ∈ tb := tb_of (lw_c11 (List.mem_of_getElem? (i := 229) rfl)) rfl
theorem q2784 : Cond.methodLink "PinEnginesModel" (581 : Nat) ({ cls := "PinEnginesModel", name := "readPlace", desc := "(II)V" } : Jvm.MethodName) ∈ tb := tb_of (lw_c11 (List.mem_of_getElem? (i := 230) (by decide +kernel))) rfl
theorem q2786 : Cond.instanceMethod ({ cls := "PinEnginesModel", name := "readPlace", desc := "(II)V" } : Jvm.MethodName) ∈ tb := tb_of (lw_c11 (List.mem_of_getElem? (i := 232) (by decide +kernel))) rfl
set_option maxRecDepth 100000 in
theorem q2787 : Cond.code ({ cls := "PinEnginesModel", name := "readPlace", desc := "(II)V" } : Jvm.MethodName) prog_15_method_134_code (4 : Nat) (Option.none : Option Jvm.ClassFile.FieldType) ∈ tb := tb_of (lw_c11 (List.mem_of_getElem? (i := 233) rfl)) rfl
theorem q2788 : Cond.methodLink "PinEnginesModel" (590 : Nat) ({ cls := "PinEnginesModel", name := "readQueueing", desc := "(ILjava/lang/String;)V" } : Jvm.MethodName) ∈ tb := tb_of (lw_c11 (List.mem_of_getElem? (i := 234) (by decide +kernel))) rfl
theorem q2790 : Cond.instanceMethod ({ cls := "PinEnginesModel", name := "readQueueing", desc := "(ILjava/lang/String;)V" } : Jvm.MethodName) ∈ tb := tb_of (lw_c11 (List.mem_of_getElem? (i := 236) (by decide +kernel))) rfl
set_option maxRecDepth 100000 in
theorem q2791 : Cond.code ({ cls := "PinEnginesModel", name := "readQueueing", desc := "(ILjava/lang/String;)V" } : Jvm.MethodName) prog_15_method_139_code (3 : Nat) (Option.none : Option Jvm.ClassFile.FieldType) ∈ tb := tb_of (lw_c11 (List.mem_of_getElem? (i := 237) rfl)) rfl
theorem q2792 : Cond.methodLink "PinEnginesModel" (594 : Nat) ({ cls := "PinEnginesModel", name := "readMove", desc := "(I)V" } : Jvm.MethodName) ∈ tb := tb_of (lw_c11 (List.mem_of_getElem? (i := 238) (by decide +kernel))) rfl
theorem q2794 : Cond.instanceMethod ({ cls := "PinEnginesModel", name := "readMove", desc := "(I)V" } : Jvm.MethodName) ∈ tb := tb_of (lw_c12 (List.mem_of_getElem? (i := 0) (by decide +kernel))) rfl
set_option maxRecDepth 100000 in
theorem q2795 : Cond.code ({ cls := "PinEnginesModel", name := "readMove", desc := "(I)V" } : Jvm.MethodName) prog_15_method_137_code (2 : Nat) (Option.none : Option Jvm.ClassFile.FieldType) ∈ tb := tb_of (lw_c12 (List.mem_of_getElem? (i := 1) rfl)) rfl
theorem q2796 : Cond.methodLink "PinEnginesModel" (597 : Nat) ({ cls := "PinEnginesModel", name := "readAccess", desc := "(II)V" } : Jvm.MethodName) ∈ tb := tb_of (lw_c12 (List.mem_of_getElem? (i := 2) (by decide +kernel))) rfl
theorem q2798 : Cond.instanceMethod ({ cls := "PinEnginesModel", name := "readAccess", desc := "(II)V" } : Jvm.MethodName) ∈ tb := tb_of (lw_c12 (List.mem_of_getElem? (i := 4) (by decide +kernel))) rfl
set_option maxRecDepth 100000 in
theorem q2799 : Cond.code ({ cls := "PinEnginesModel", name := "readAccess", desc := "(II)V" } : Jvm.MethodName) prog_15_method_138_code (3 : Nat) (Option.none : Option Jvm.ClassFile.FieldType) ∈ tb := tb_of (lw_c12 (List.mem_of_getElem? (i := 5) rfl)) rfl
theorem q2800 : Cond.methodLink "PinEnginesModel" (624 : Nat) ({ cls := "PinEnginesModel", name := "layNames", desc := "()V" } : Jvm.MethodName) ∈ tb := tb_of (lw_c12 (List.mem_of_getElem? (i := 6) (by decide +kernel))) rfl
theorem q2802 : Cond.instanceMethod ({ cls := "PinEnginesModel", name := "layNames", desc := "()V" } : Jvm.MethodName) ∈ tb := tb_of (lw_c12 (List.mem_of_getElem? (i := 8) (by decide +kernel))) rfl
set_option maxRecDepth 100000 in
theorem q2803 : Cond.code ({ cls := "PinEnginesModel", name := "layNames", desc := "()V" } : Jvm.MethodName) prog_15_method_124_code (3 : Nat) (Option.none : Option Jvm.ClassFile.FieldType) ∈ tb := tb_of (lw_c12 (List.mem_of_getElem? (i := 9) rfl)) rfl
theorem q2804 : Cond.methodLink "PinEnginesModel" (627 : Nat) ({ cls := "PinEnginesModel", name := "finish", desc := "()I" } : Jvm.MethodName) ∈ tb := tb_of (lw_c12 (List.mem_of_getElem? (i := 10) (by decide +kernel))) rfl
theorem q2806 : Cond.instanceMethod ({ cls := "PinEnginesModel", name := "finish", desc := "()I" } : Jvm.MethodName) ∈ tb := tb_of (lw_c12 (List.mem_of_getElem? (i := 12) (by decide +kernel))) rfl
set_option maxRecDepth 100000 in
theorem q2807 : Cond.code ({ cls := "PinEnginesModel", name := "finish", desc := "()I" } : Jvm.MethodName) prog_15_method_108_code (1 : Nat) (Option.some Jvm.ClassFile.FieldType.int) ∈ tb := tb_of (lw_c12 (List.mem_of_getElem? (i := 13) rfl)) rfl
theorem q2808 : Cond.methodLink "PinEnginesLaw" (261 : Nat) ({ cls := "PinEnginesModel", name := "format", desc := "(I)I" } : Jvm.MethodName) ∈ tb := tb_of (lw_c12 (List.mem_of_getElem? (i := 14) (by decide +kernel))) rfl
theorem q2812 : Cond.methodLink "PinEnginesModel" (636 : Nat) ({ cls := "PinEnginesModel", name := "write", desc := "(Ljava/lang/String;)V" } : Jvm.MethodName) ∈ tb := tb_of (lw_c12 (List.mem_of_getElem? (i := 18) (by decide +kernel))) rfl
theorem q2814 : Cond.instanceMethod ({ cls := "PinEnginesModel", name := "write", desc := "(Ljava/lang/String;)V" } : Jvm.MethodName) ∈ tb := tb_of (lw_c12 (List.mem_of_getElem? (i := 20) (by decide +kernel))) rfl
set_option maxRecDepth 100000 in
theorem q2815 : Cond.code ({ cls := "PinEnginesModel", name := "write", desc := "(Ljava/lang/String;)V" } : Jvm.MethodName) prog_15_method_145_code (3 : Nat) (Option.none : Option Jvm.ClassFile.FieldType) ∈ tb := tb_of (lw_c12 (List.mem_of_getElem? (i := 21) rfl)) rfl
theorem q2836 : Cond.methodLink "PinEnginesLaw" (265 : Nat) ({ cls := "PinEnginesModel", name := "formattedByte", desc := "(I)I" } : Jvm.MethodName) ∈ tb := tb_of (lw_c12 (List.mem_of_getElem? (i := 42) (by decide +kernel))) rfl
theorem q2840 : Cond.methodLink "PinEnginesLaw" (285 : Nat) ({ cls := "PinEnginesModel", name := "query", desc := "(I)I" } : Jvm.MethodName) ∈ tb := tb_of (lw_c12 (List.mem_of_getElem? (i := 46) (by decide +kernel))) rfl
theorem q2856 : Cond.methodLink "PinEnginesModel" (658 : Nat) ({ cls := "PinEnginesModel", name := "enter", desc := "()V" } : Jvm.MethodName) ∈ tb := tb_of (lw_c12 (List.mem_of_getElem? (i := 62) (by decide +kernel))) rfl
theorem q2858 : Cond.instanceMethod ({ cls := "PinEnginesModel", name := "enter", desc := "()V" } : Jvm.MethodName) ∈ tb := tb_of (lw_c12 (List.mem_of_getElem? (i := 64) (by decide +kernel))) rfl
set_option maxRecDepth 100000 in
theorem q2859 : Cond.code ({ cls := "PinEnginesModel", name := "enter", desc := "()V" } : Jvm.MethodName) prog_15_method_154_code (1 : Nat) (Option.none : Option Jvm.ClassFile.FieldType) ∈ tb := tb_of (lw_c12 (List.mem_of_getElem? (i := 65) rfl)) rfl
theorem q2860 : Cond.methodLink "PinEnginesModel" (655 : Nat) ({ cls := "PinEnginesModel", name := "emit", desc := "(I)V" } : Jvm.MethodName) ∈ tb := tb_of (lw_c12 (List.mem_of_getElem? (i := 66) (by decide +kernel))) rfl
theorem q2862 : Cond.instanceMethod ({ cls := "PinEnginesModel", name := "emit", desc := "(I)V" } : Jvm.MethodName) ∈ tb := tb_of (lw_c12 (List.mem_of_getElem? (i := 68) (by decide +kernel))) rfl
set_option maxRecDepth 100000 in
theorem q2863 : Cond.code ({ cls := "PinEnginesModel", name := "emit", desc := "(I)V" } : Jvm.MethodName) prog_15_method_153_code (2 : Nat) (Option.none : Option Jvm.ClassFile.FieldType) ∈ tb := tb_of (lw_c12 (List.mem_of_getElem? (i := 69) rfl)) rfl
theorem q2864 : Cond.methodLink "PinEnginesModel" (667 : Nat) ({ cls := "PinEnginesModel", name := "compileValue", desc := "()V" } : Jvm.MethodName) ∈ tb := tb_of (lw_c12 (List.mem_of_getElem? (i := 70) (by decide +kernel))) rfl
theorem q2866 : Cond.instanceMethod ({ cls := "PinEnginesModel", name := "compileValue", desc := "()V" } : Jvm.MethodName) ∈ tb := tb_of (lw_c12 (List.mem_of_getElem? (i := 72) (by decide +kernel))) rfl
set_option maxRecDepth 100000 in
theorem q2867 : Cond.code ({ cls := "PinEnginesModel", name := "compileValue", desc := "()V" } : Jvm.MethodName) prog_15_method_155_code (2 : Nat) (Option.none : Option Jvm.ClassFile.FieldType) ∈ tb := tb_of (lw_c12 (List.mem_of_getElem? (i := 73) rfl)) rfl
theorem q2868 : Cond.constant "PinEnginesModel" (654 : Nat) (99999 : Int32) ∈ tb := tb_of (lw_c12 (List.mem_of_getElem? (i := 74) (by decide +kernel))) rfl
theorem q2869 : Cond.constant "PinEnginesModel" (679 : Nat) (-1000000000 : Int32) ∈ tb := tb_of (lw_c12 (List.mem_of_getElem? (i := 75) (by decide +kernel))) rfl
theorem q2870 : Cond.methodLink "PinEnginesModel" (680 : Nat) ({ cls := "PinEnginesModel", name := "holdsFor", desc := "(I)Z" } : Jvm.MethodName) ∈ tb := tb_of (lw_c12 (List.mem_of_getElem? (i := 76) (by decide +kernel))) rfl
theorem q2872 : Cond.instanceMethod ({ cls := "PinEnginesModel", name := "holdsFor", desc := "(I)Z" } : Jvm.MethodName) ∈ tb := tb_of (lw_c12 (List.mem_of_getElem? (i := 78) (by decide +kernel))) rfl
set_option maxRecDepth 100000 in
theorem q2873 : Cond.code ({ cls := "PinEnginesModel", name := "holdsFor", desc := "(I)Z" } : Jvm.MethodName) prog_15_method_161_code (5 : Nat) (Option.some Jvm.ClassFile.FieldType.boolean) ∈ tb := tb_of (lw_c12 (List.mem_of_getElem? (i := 79) rfl)) rfl
theorem q2874 : Cond.methodLink "PinEnginesModel" (673 : Nat) ({ cls := "PinEnginesModel", name := "property", desc := "(II)I" } : Jvm.MethodName) ∈ tb := tb_of (lw_c12 (List.mem_of_getElem? (i := 80) (by decide +kernel))) rfl
theorem q2876 : Cond.instanceMethod ({ cls := "PinEnginesModel", name := "property", desc := "(II)I" } : Jvm.MethodName) ∈ tb := tb_of (lw_c12 (List.mem_of_getElem? (i := 82) (by decide +kernel))) rfl
set_option maxRecDepth 100000 in
theorem q2877 : Cond.code ({ cls := "PinEnginesModel", name := "property", desc := "(II)I" } : Jvm.MethodName) prog_15_method_160_code (3 : Nat) (Option.some Jvm.ClassFile.FieldType.int) ∈ tb := tb_of (lw_c12 (List.mem_of_getElem? (i := 83) rfl)) rfl
theorem q2878 : Cond.methodLink "PinEnginesModel" (676 : Nat) ({ cls := "PinEnginesModel", name := "operate", desc := "(III)I" } : Jvm.MethodName) ∈ tb := tb_of (lw_c12 (List.mem_of_getElem? (i := 84) (by decide +kernel))) rfl
theorem q2879 : Cond.static ({ cls := "PinEnginesModel", name := "operate", desc := "(III)I" } : Jvm.MethodName) ∈ tb := tb_of (lw_c12 (List.mem_of_getElem? (i := 85) (by decide +kernel))) rfl
set_option maxRecDepth 100000 in
theorem q2880 : Cond.code ({ cls := "PinEnginesModel", name := "operate", desc := "(III)I" } : Jvm.MethodName) prog_15_method_159_code (3 : Nat) (Option.some Jvm.ClassFile.FieldType.int) ∈ tb := tb_of (lw_c12 (List.mem_of_getElem? (i := 86) rfl)) rfl
theorem q2881 : Cond.arrayClass Jvm.ClassFile.FieldType.long ∈ tb := tb_of (lw_c12 (List.mem_of_getElem? (i := 87) (by decide +kernel))) rfl
theorem q2894 : Cond.selects "java/lang/StringBuilder" ({ cls := "java/lang/AbstractStringBuilder", name := "length", desc := "()I" } : Jvm.MethodName) ({ cls := "java/lang/StringBuilder", name := "length", desc := "()I" } : Jvm.MethodName) ∈ tb := tb_of (lw_c12 (List.mem_of_getElem? (i := 100) (by decide +kernel))) rfl
theorem q2914 : Cond.fieldLink "PinEngines$Symbol" (247 : Nat) "PinEngines$Symbol" "text" "Ljava/lang/String;" ∈ tb := tb_of (lw_c12 (List.mem_of_getElem? (i := 120) (by decide +kernel))) rfl
theorem q2915 : Cond.fieldLink "PinEngines$Tokens" (60 : Nat) "PinEngines$Symbol" "roles" "I" ∈ tb := tb_of (lw_c12 (List.mem_of_getElem? (i := 121) (by decide +kernel))) rfl
theorem q2916 : Cond.fieldLink "java/lang/Enum" (7 : Nat) "java/lang/Enum" "ordinal" "I" ∈ tb := tb_of (lw_c12 (List.mem_of_getElem? (i := 122) (by decide +kernel))) rfl
theorem qn250 : Cond.methodLinkNest "PinEngines$Program" (30 : Nat) ({ cls := "PinEngines$Instruction", name := "<init>", desc := "()V" } : Jvm.MethodName) "PinEngines" ∈ nwL := nw_of (lw_c1 (List.mem_of_getElem? (i := 96) (by decide +kernel))) rfl
theorem qn466 : Cond.methodLinkNest "PinEngines$Machine" (33 : Nat) ({ cls := "PinEngines$Engine", name := "<init>", desc := "()V" } : Jvm.MethodName) "PinEngines" ∈ nwL := nw_of (lw_c2 (List.mem_of_getElem? (i := 72) (by decide +kernel))) rfl
theorem qn472 : Cond.methodLinkNest "PinEngines$Engine" (11 : Nat) ({ cls := "PinEngines$Queue", name := "<init>", desc := "()V" } : Jvm.MethodName) "PinEngines" ∈ nwL := nw_of (lw_c2 (List.mem_of_getElem? (i := 78) (by decide +kernel))) rfl
theorem qn905 : Cond.castable "java/lang/IllegalArgumentException" "java/lang/IllegalArgumentException" ∈ nwL := nw_of (lw_c4 (List.mem_of_getElem? (i := 31) (by decide +kernel))) rfl
theorem qn906 : Cond.declares ({ cls := "java/lang/RuntimeException", name := "<init>", desc := "()V" } : Jvm.MethodName) ∈ nwL := nw_of (lw_c4 (List.mem_of_getElem? (i := 32) (by decide +kernel))) rfl
theorem qn907 : Cond.declares ({ cls := "java/lang/RuntimeException", name := "<init>", desc := "(Ljava/lang/String;)V" } : Jvm.MethodName) ∈ nwL := nw_of (lw_c4 (List.mem_of_getElem? (i := 33) (by decide +kernel))) rfl
theorem qn908 : Cond.declares ({ cls := "java/lang/Exception", name := "<init>", desc := "()V" } : Jvm.MethodName) ∈ nwL := nw_of (lw_c4 (List.mem_of_getElem? (i := 34) (by decide +kernel))) rfl
theorem qn909 : Cond.declares ({ cls := "java/lang/Exception", name := "<init>", desc := "(Ljava/lang/String;)V" } : Jvm.MethodName) ∈ nwL := nw_of (lw_c4 (List.mem_of_getElem? (i := 35) (by decide +kernel))) rfl
theorem qn910 : Cond.declares ({ cls := "java/lang/Throwable", name := "<init>", desc := "()V" } : Jvm.MethodName) ∈ nwL := nw_of (lw_c4 (List.mem_of_getElem? (i := 36) (by decide +kernel))) rfl
theorem qn911 : Cond.declares ({ cls := "java/lang/Throwable", name := "<init>", desc := "(Ljava/lang/String;)V" } : Jvm.MethodName) ∈ nwL := nw_of (lw_c4 (List.mem_of_getElem? (i := 37) (by decide +kernel))) rfl
theorem qn1124 : Cond.declares ({ cls := "java/lang/Enum", name := "ordinal", desc := "()I" } : Jvm.MethodName) ∈ nwL := nw_of (lw_c5 (List.mem_of_getElem? (i := 10) (by decide +kernel))) rfl
theorem qn1136 : Cond.methodLinkNest "PinEngines$ProgramReader" (302 : Nat) ({ cls := "PinEngines", name := "rotatedPins", desc := "(II)I" } : Jvm.MethodName) "PinEngines" ∈ nwL := nw_of (lw_c5 (List.mem_of_getElem? (i := 22) (by decide +kernel))) rfl
theorem qn1222 : Cond.castable "java/util/NoSuchElementException" "java/util/NoSuchElementException" ∈ nwL := nw_of (lw_c5 (List.mem_of_getElem? (i := 108) (by decide +kernel))) rfl
theorem qn1560 : Cond.methodLinkNest "PinEngines$Simulator" (131 : Nat) ({ cls := "PinEngines", name := "rotatedPins", desc := "(II)I" } : Jvm.MethodName) "PinEngines" ∈ nwL := nw_of (lw_c6 (List.mem_of_getElem? (i := 206) (by decide +kernel))) rfl
theorem qn1599 : Cond.methodLinkNest "PinEngines$Program" (57 : Nat) ({ cls := "PinEngines", name := "unsigned", desc := "(I)J" } : Jvm.MethodName) "PinEngines" ∈ nwL := nw_of (lw_c7 (List.mem_of_getElem? (i := 5) (by decide +kernel))) rfl
theorem qn1733 : Cond.castable "[B" "java/lang/Cloneable" ∈ nwL := nw_of (lw_c7 (List.mem_of_getElem? (i := 139) (by decide +kernel))) rfl
theorem qn1946 : Cond.methodLinkNest "PinEngines" (322 : Nat) ({ cls := "PinEngines$QueryReader", name := "readTest", desc := "(I)I" } : Jvm.MethodName) "PinEngines" ∈ nwL := nw_of (lw_c8 (List.mem_of_getElem? (i := 112) (by decide +kernel))) rfl
theorem qn2896 : Cond.castable "PinEngines" "java/lang/Object" ∈ nwL := nw_of (lw_c12 (List.mem_of_getElem? (i := 102) (by decide +kernel))) rfl
theorem qn2897 : Cond.castable "PinEngines$Tokens" "java/lang/Object" ∈ nwL := nw_of (lw_c12 (List.mem_of_getElem? (i := 103) (by decide +kernel))) rfl
theorem qn2898 : Cond.castable "PinEngines$Symbol" "java/lang/Object" ∈ nwL := nw_of (lw_c12 (List.mem_of_getElem? (i := 104) (by decide +kernel))) rfl
theorem qn2899 : Cond.castable "PinEngines$Program" "java/lang/Object" ∈ nwL := nw_of (lw_c12 (List.mem_of_getElem? (i := 105) (by decide +kernel))) rfl
theorem qn2900 : Cond.castable "PinEngines$Instruction" "java/lang/Object" ∈ nwL := nw_of (lw_c12 (List.mem_of_getElem? (i := 106) (by decide +kernel))) rfl
theorem qn2901 : Cond.castable "PinEngines$Setup" "java/lang/Object" ∈ nwL := nw_of (lw_c12 (List.mem_of_getElem? (i := 107) (by decide +kernel))) rfl
theorem qn2902 : Cond.castable "PinEngines$ProgramReader" "java/lang/Object" ∈ nwL := nw_of (lw_c12 (List.mem_of_getElem? (i := 108) (by decide +kernel))) rfl
theorem qn2903 : Cond.castable "PinEngines$Machine" "java/lang/Object" ∈ nwL := nw_of (lw_c12 (List.mem_of_getElem? (i := 109) (by decide +kernel))) rfl
theorem qn2904 : Cond.castable "PinEngines$Engine" "java/lang/Object" ∈ nwL := nw_of (lw_c12 (List.mem_of_getElem? (i := 110) (by decide +kernel))) rfl
theorem qn2905 : Cond.castable "PinEngines$Queue" "java/lang/Object" ∈ nwL := nw_of (lw_c12 (List.mem_of_getElem? (i := 111) (by decide +kernel))) rfl
theorem qn2906 : Cond.castable "PinEngines$Simulator" "java/lang/Object" ∈ nwL := nw_of (lw_c12 (List.mem_of_getElem? (i := 112) (by decide +kernel))) rfl
theorem qn2907 : Cond.castable "PinEngines$QueryReader" "java/lang/Object" ∈ nwL := nw_of (lw_c12 (List.mem_of_getElem? (i := 113) (by decide +kernel))) rfl
theorem qn2908 : Cond.castable "java/lang/StringBuilder" "java/lang/Object" ∈ nwL := nw_of (lw_c12 (List.mem_of_getElem? (i := 114) (by decide +kernel))) rfl
theorem qn2909 : Cond.castable "PinEnginesModel" "java/lang/Object" ∈ nwL := nw_of (lw_c12 (List.mem_of_getElem? (i := 115) (by decide +kernel))) rfl
theorem qn2910 : Cond.castable "java/lang/IllegalArgumentException" "java/lang/Object" ∈ nwL := nw_of (lw_c12 (List.mem_of_getElem? (i := 116) (by decide +kernel))) rfl
theorem qn2911 : Cond.castable "java/util/NoSuchElementException" "java/lang/Object" ∈ nwL := nw_of (lw_c12 (List.mem_of_getElem? (i := 117) (by decide +kernel))) rfl
theorem qn2912 : Cond.castable "java/lang/String" "java/lang/Object" ∈ nwL := nw_of (lw_c12 (List.mem_of_getElem? (i := 118) (by decide +kernel))) rfl
theorem qn2913 : Cond.castable "java/lang/Throwable" "java/lang/Object" ∈ nwL := nw_of (lw_c12 (List.mem_of_getElem? (i := 119) (by decide +kernel))) rfl
