/-! what the rows rest on: words by their places, fields, arrays, methods -/
theorem inX12 : ∀ w ∈ u_ws RX12 TX12 17, w ∈ tb := u_in (fun k hk => match k, hk with
  | 0, _ => q756
  | 1, _ => q758
  | 2, _ => q760
  | 3, _ => q762
  | 4, _ => q764
  | 5, _ => q766
  | 6, _ => q768
  | 7, _ => q770
  | 8, _ => q772
  | 9, _ => q774
  | 10, _ => q776
  | 11, _ => q778
  | 12, _ => q780
  | 13, _ => q782
  | 14, _ => q784
  | 15, _ => q786
  | 16, _ => q788
  | _ + 17, hk => absurd hk (by omega))
theorem fgX12_13_0 (vv : Nat) : FG vv RX12 13 0 1 1 (none) := ⟨13, _, RX12, TX12, kk0 _, rfl, inX12, rfl, q740⟩
theorem fpX12_13_0 (vv : Nat) : FP vv RX12 13 0 1 1 (none) (.int) := ⟨13, _, RX12, TX12, tyX12, kk0 _, rfl, inX12, rfl, q740, tyX12_ok, nmX12, rfl, by decide +kernel⟩
theorem fgX12_25_0 (vv : Nat) : FG vv RX12 25 0 1 3 (some (2, some (fun _ => 0))) := ⟨13, _, RX12, TX12, kk0 _, rfl, inX12, rfl, q742⟩
theorem fgX12_17_0 (vv : Nat) : FG vv RX12 17 0 1 2 (none) := ⟨13, _, RX12, TX12, kk0 _, rfl, inX12, rfl, q741⟩
theorem fgX12_32_0 (vv : Nat) : FG vv RX12 32 0 1 4 (some (5, none)) := ⟨13, _, RX12, TX12, kk0 _, rfl, inX12, rfl, q743⟩
theorem inX4 : ∀ w ∈ u_ws RX4 TX4 5, w ∈ tb := u_in (fun k hk => match k, hk with
  | 0, _ => q421
  | 1, _ => q423
  | 2, _ => q425
  | 3, _ => q427
  | 4, _ => q429
  | _ + 5, hk => absurd hk (by omega))
theorem fgX12_124_5 (vv : Nat) : FG vv RX12 124 5 2 0 (none) := ⟨5, _, RX4, TX4, kk5 _, rfl, inX4, rfl, q409⟩
theorem fgX12_51_0 (vv : Nat) : FG vv RX12 51 0 1 7 (some (12, some (fun _ => 0))) := ⟨13, _, RX12, TX12, kk0 _, rfl, inX12, rfl, q746⟩
theorem inX3 : ∀ w ∈ u_ws RX3 TX3 14, w ∈ tb := u_in (fun k hk => match k, hk with
  | 0, _ => q599
  | 1, _ => q601
  | 2, _ => q603
  | 3, _ => q605
  | 4, _ => q607
  | 5, _ => q609
  | 6, _ => q611
  | 7, _ => q613
  | 8, _ => q615
  | 9, _ => q617
  | 10, _ => q619
  | 11, _ => q621
  | 12, _ => q623
  | 13, _ => q625
  | _ + 14, hk => absurd hk (by omega))
theorem fgX12_131_12 (vv : Nat) : FG vv RX12 131 12 13 0 (none) := ⟨4, _, RX3, TX3, kk12 _, rfl, inX3, rfl, q572⟩
theorem fgX12_149_12 (vv : Nat) : FG vv RX12 149 12 13 4 (none) := ⟨4, _, RX3, TX3, kk12 _, rfl, inX3, rfl, q580⟩
theorem fgX12_159_12 (vv : Nat) : FG vv RX12 159 12 13 5 (none) := ⟨4, _, RX3, TX3, kk12 _, rfl, inX3, rfl, q583⟩
theorem fgX12_63_0 (vv : Nat) : FG vv RX12 63 0 1 9 (some (22, some (fun _ => 0))) := ⟨13, _, RX12, TX12, kk0 _, rfl, inX12, rfl, q748⟩
theorem fgX12_96_0 (vv : Nat) : FG vv RX12 96 0 1 16 (some (32, some (fun _ => 0))) := ⟨13, _, RX12, TX12, kk0 _, rfl, inX12, rfl, q755⟩
theorem fgX12_90_0 (vv : Nat) : FG vv RX12 90 0 1 15 (none) := ⟨13, _, RX12, TX12, kk0 _, rfl, inX12, rfl, q754⟩
theorem fgX12_87_0 (vv : Nat) : FG vv RX12 87 0 1 14 (none) := ⟨13, _, RX12, TX12, kk0 _, rfl, inX12, rfl, q753⟩
theorem fpX12_87_0 (vv : Nat) : FP vv RX12 87 0 1 14 (none) (.int) := ⟨13, _, RX12, TX12, tyX12, kk0 _, rfl, inX12, rfl, q753, tyX12_ok, nmX12, rfl, by decide +kernel⟩
theorem fpX12_90_0 (vv : Nat) : FP vv RX12 90 0 1 15 (none) (.int) := ⟨13, _, RX12, TX12, tyX12, kk0 _, rfl, inX12, rfl, q754, tyX12_ok, nmX12, rfl, by decide +kernel⟩
theorem fgX12_83_0 (vv : Nat) : FG vv RX12 83 0 1 13 (some (25, some (fun _ => 0))) := ⟨13, _, RX12, TX12, kk0 _, rfl, inX12, rfl, q752⟩
theorem ag25 (vv : Nat) : AG vv 25 1 7 (fun _ _ => 10) (some (some (12, some (fun _ k => 3 + k)))) := kk25 _
theorem fgX12_76_0 (vv : Nat) : FG vv RX12 76 0 1 11 (some (12, some (fun _ => 2))) := ⟨13, _, RX12, TX12, kk0 _, rfl, inX12, rfl, q750⟩
theorem fgX12_79_0 (vv : Nat) : FG vv RX12 79 0 1 12 (none) := ⟨13, _, RX12, TX12, kk0 _, rfl, inX12, rfl, q751⟩
theorem fgX12_9_0 (vv : Nat) : FG vv RX12 9 0 1 0 (some (1, some (fun _ => 0))) := ⟨13, _, RX12, TX12, kk0 _, rfl, inX12, rfl, q739⟩
theorem ag1 (vv : Nat) : AG vv 1 1 1 (fun _ _ => 1000) (none) := kk1 _
theorem fgX12_55_0 (vv : Nat) : FG vv RX12 55 0 1 8 (some (12, some (fun _ => 1))) := ⟨13, _, RX12, TX12, kk0 _, rfl, inX12, rfl, q747⟩
theorem fgX12_281_12 (vv : Nat) : FG vv RX12 281 12 13 7 (some (14, some (fun n => n))) := ⟨4, _, RX3, TX3, kk12 _, rfl, inX3, rfl, q590⟩
theorem ag14 (vv : Nat) : AG vv 14 13 4 (fun _ _ => 4) (some (some (18, some (fun n k => 4 * n + k)))) := kk14 _
theorem inX1 : ∀ w ∈ u_ws RX1 TX1 14, w ∈ tb := u_in (fun k hk => match k, hk with
  | 0, _ => q542
  | 1, _ => q544
  | 2, _ => q546
  | 3, _ => q548
  | 4, _ => q550
  | 5, _ => q552
  | 6, _ => q554
  | 7, _ => q556
  | 8, _ => q558
  | 9, _ => q560
  | 10, _ => q562
  | 11, _ => q564
  | 12, _ => q566
  | 13, _ => q568
  | _ + 14, hk => absurd hk (by omega))
theorem fgX12_217_18 (vv : Nat) : FG vv RX12 217 18 52 13 (some (21, some (fun n => n))) := ⟨2, _, RX1, TX1, kk18 _, rfl, inX1, rfl, q541⟩
theorem ag21 (vv : Nat) : AG vv 21 52 0 (fun _ _ => 6) (none) := kk21 _
theorem inX13 : ∀ w ∈ u_ws RX13 TX13 47, w ∈ tb := u_in (fun k hk => match k, hk with
  | 0, _ => q2133
  | 1, _ => q2135
  | 2, _ => q2137
  | 3, _ => q2139
  | 4, _ => q2141
  | 5, _ => q2143
  | 6, _ => q2145
  | 7, _ => q2147
  | 8, _ => q2149
  | 9, _ => q2151
  | 10, _ => q2153
  | 11, _ => q2155
  | 12, _ => q2157
  | 13, _ => q2159
  | 14, _ => q2161
  | 15, _ => q2163
  | 16, _ => q2165
  | 17, _ => q2167
  | 18, _ => q2169
  | 19, _ => q2171
  | 20, _ => q2173
  | 21, _ => q2175
  | 22, _ => q2177
  | 23, _ => q2179
  | 24, _ => q2181
  | 25, _ => q2183
  | 26, _ => q2185
  | 27, _ => q2187
  | 28, _ => q2189
  | 29, _ => q2191
  | 30, _ => q2193
  | 31, _ => q2195
  | 32, _ => q2197
  | 33, _ => q2199
  | 34, _ => q2201
  | 35, _ => q2203
  | 36, _ => q2205
  | 37, _ => q2207
  | 38, _ => q2209
  | 39, _ => q2211
  | 40, _ => q2213
  | 41, _ => q2215
  | 42, _ => q2217
  | 43, _ => q2219
  | 44, _ => q2221
  | 45, _ => q2223
  | 46, _ => q2225
  | _ + 47, hk => absurd hk (by omega))
theorem fgX13_231_26 {vv : Nat} (V : 1 ≤ vv) : FG vv RX13 231 26 1 6 (none) := ⟨14, _, RX13, TX13, kk26 V, rfl, inX13, rfl, q2092⟩
theorem fpX13_231_26 {vv : Nat} (V : 1 ≤ vv) : FP vv RX13 231 26 1 6 (none) (.int) := ⟨14, _, RX13, TX13, tyX13, kk26 V, rfl, inX13, rfl, q2092, tyX13_ok, nmX13, rfl, by decide +kernel⟩
theorem ag27 {vv : Nat} (V : 1 ≤ vv) : AG vv 27 5 0 (fun _ n => if n = 4 then 7000 else 700) (none) := kk27 V
theorem fgX13_9_26 {vv : Nat} (V : 1 ≤ vv) : FG vv RX13 9 26 1 0 (some (27, some (fun _ => 0))) := ⟨14, _, RX13, TX13, kk26 V, rfl, inX13, rfl, q2086⟩
theorem mmX13_add : MM yX13_add cX13_add 4 (none) 3 := ⟨q173, q2390, by decide +kernel, by decide +kernel, by decide +kernel⟩
theorem miX13_add : MI yX13_add := ⟨q2389, q60⟩
theorem rc26 {vv : Nat} (V : 1 ≤ vv) : RC vv 26 1 RX13 := ⟨14, _, TX13, _, kk26 V, rfl⟩
theorem mmX13_of : MM yX13_of cX13_of 3 (some .int) 2 := ⟨q173, q2310, by decide +kernel, by decide +kernel, by decide +kernel⟩
theorem miX13_of : MI yX13_of := ⟨q2309, q55⟩
theorem mmX13_code : MM yX13_code cX13_code 3 (some .int) 2 := ⟨q173, q2468, by decide +kernel, by decide +kernel, by decide +kernel⟩
theorem miX13_code : MI yX13_code := ⟨q2467, q72⟩
theorem mmX13_inRange : MM yX13_inRange cX13_inRange 3 (some .boolean) 3 := ⟨q173, q2258, by decide +kernel, by decide +kernel, by decide +kernel⟩
theorem mmX13_setting : MM yX13_setting cX13_setting 3 (some .int) 2 := ⟨q173, q2244, by decide +kernel, by decide +kernel, by decide +kernel⟩
theorem miX13_setting : MI yX13_setting := ⟨q2243, q48⟩
theorem mmX13_ofPin : MM yX13_ofPin cX13_ofPin 3 (some .int) 2 := ⟨q173, q2270, by decide +kernel, by decide +kernel, by decide +kernel⟩
theorem miX13_ofPin : MI yX13_ofPin := ⟨q2269, q51⟩
theorem mmX13_isPin : MM yX13_isPin cX13_isPin 1 (some .boolean) 1 := ⟨q173, q2255, by decide +kernel, by decide +kernel, by decide +kernel⟩
theorem mmX13_levelOf : MM yX13_levelOf cX13_levelOf 2 (some .int) 1 := ⟨q173, q2266, by decide +kernel, by decide +kernel, by decide +kernel⟩
theorem miX13_levelOf : MI yX13_levelOf := ⟨q2265, q50⟩
theorem mmX13_raise : MM yX13_raise cX13_raise 2 (some .int) 1 := ⟨q173, q2262, by decide +kernel, by decide +kernel, by decide +kernel⟩
theorem miX13_raise : MI yX13_raise := ⟨q2261, q49⟩
theorem mmX13_tellPin : MM yX13_tellPin cX13_tellPin 3 (some .int) 2 := ⟨q173, q2278, by decide +kernel, by decide +kernel, by decide +kernel⟩
theorem miX13_tellPin : MI yX13_tellPin := ⟨q2277, q52⟩
theorem mmX13_exists : MM yX13_exists cX13_exists 2 (some .boolean) 1 := ⟨q173, q2306, by decide +kernel, by decide +kernel, by decide +kernel⟩
theorem miX13_exists : MI yX13_exists := ⟨q2305, q54⟩
theorem mmX13_tell : MM yX13_tell cX13_tell 3 (some .int) 2 := ⟨q173, q2302, by decide +kernel, by decide +kernel, by decide +kernel⟩
theorem miX13_tell : MI yX13_tell := ⟨q2301, q53⟩
theorem mmX13_unsigned : MM yX13_unsigned cX13_unsigned 1 (some .long) 1 := ⟨q173, q2345, by decide +kernel, by decide +kernel, by decide +kernel⟩
theorem mmX13_set : MM yX13_set cX13_set 4 (none) 3 := ⟨q173, q2386, by decide +kernel, by decide +kernel, by decide +kernel⟩
theorem miX13_set : MI yX13_set := ⟨q2385, q59⟩
theorem mmX13_putPin : MM yX13_putPin cX13_putPin 4 (none) 3 := ⟨q173, q2419, by decide +kernel, by decide +kernel, by decide +kernel⟩
theorem miX13_putPin : MI yX13_putPin := ⟨q2418, q63⟩
theorem fpX13_287_26 {vv : Nat} (V : 1 ≤ vv) : FP vv RX13 287 26 1 16 (none) (.int) := ⟨14, _, RX13, TX13, tyX13, kk26 V, rfl, inX13, rfl, q2102, tyX13_ok, nmX13, rfl, by decide +kernel⟩
theorem fpX13_290_26 {vv : Nat} (V : 1 ≤ vv) : FP vv RX13 290 26 1 17 (none) (.int) := ⟨14, _, RX13, TX13, tyX13, kk26 V, rfl, inX13, rfl, q2103, tyX13_ok, nmX13, rfl, by decide +kernel⟩
theorem fgX13_28_26 {vv : Nat} (V : 1 ≤ vv) : FG vv RX13 28 26 1 9 (some (28, some (fun _ => 1))) := ⟨14, _, RX13, TX13, kk26 V, rfl, inX13, rfl, q2095⟩
theorem ag28 {vv : Nat} (V : 1 ≤ vv) : AG vv 28 17 0 (fun _ n => mil.getD n 0) (none) := kk28 V
theorem fgX13_25_26 {vv : Nat} (V : 1 ≤ vv) : FG vv RX13 25 26 1 8 (some (28, some (fun _ => 0))) := ⟨14, _, RX13, TX13, kk26 V, rfl, inX13, rfl, q2094⟩
theorem fgX13_31_26 {vv : Nat} (V : 1 ≤ vv) : FG vv RX13 31 26 1 10 (some (29, some (fun _ => 0))) := ⟨14, _, RX13, TX13, kk26 V, rfl, inX13, rfl, q2096⟩
theorem ag29 {vv : Nat} (V : 1 ≤ vv) : AG vv 29 1 2 (fun _ _ => 4) (none) := kk29 V
theorem fgX13_35_26 {vv : Nat} (V : 1 ≤ vv) : FG vv RX13 35 26 1 11 (some (28, some (fun _ => 2))) := ⟨14, _, RX13, TX13, kk26 V, rfl, inX13, rfl, q2097⟩
theorem fgX13_47_26 {vv : Nat} (V : 1 ≤ vv) : FG vv RX13 47 26 1 15 (some (28, some (fun _ => 6))) := ⟨14, _, RX13, TX13, kk26 V, rfl, inX13, rfl, q2101⟩
theorem mmX13_codeOf : MM yX13_codeOf cX13_codeOf 3 (some .int) 2 := ⟨q173, q2464, by decide +kernel, by decide +kernel, by decide +kernel⟩
theorem miX13_codeOf : MI yX13_codeOf := ⟨q2463, q71⟩
theorem fgX13_296_26 {vv : Nat} (V : 1 ≤ vv) : FG vv RX13 296 26 1 18 (none) := ⟨14, _, RX13, TX13, kk26 V, rfl, inX13, rfl, q2104⟩
theorem fpX13_296_26 {vv : Nat} (V : 1 ≤ vv) : FP vv RX13 296 26 1 18 (none) (.int) := ⟨14, _, RX13, TX13, tyX13, kk26 V, rfl, inX13, rfl, q2104, tyX13_ok, nmX13, rfl, by decide +kernel⟩
theorem mmX13_wantsPort : MM yX13_wantsPort cX13_wantsPort 2 (some .boolean) 1 := ⟨q173, q2460, by decide +kernel, by decide +kernel, by decide +kernel⟩
theorem miX13_wantsPort : MI yX13_wantsPort := ⟨q2459, q70⟩
theorem mmX13_writeBits : MM yX13_writeBits cX13_writeBits 6 (none) 4 := ⟨q173, q2575, by decide +kernel, by decide +kernel, by decide +kernel⟩
theorem miX13_writeBits : MI yX13_writeBits := ⟨q2574, q97⟩
theorem fgX13_38_26 {vv : Nat} (V : 1 ≤ vv) : FG vv RX13 38 26 1 12 (some (28, some (fun _ => 3))) := ⟨14, _, RX13, TX13, kk26 V, rfl, inX13, rfl, q2098⟩
theorem fgX13_41_26 {vv : Nat} (V : 1 ≤ vv) : FG vv RX13 41 26 1 13 (some (28, some (fun _ => 4))) := ⟨14, _, RX13, TX13, kk26 V, rfl, inX13, rfl, q2099⟩
theorem fgX13_44_26 {vv : Nat} (V : 1 ≤ vv) : FG vv RX13 44 26 1 14 (some (28, some (fun _ => 5))) := ⟨14, _, RX13, TX13, kk26 V, rfl, inX13, rfl, q2100⟩
theorem mmX13_recordLevels : MM yX13_recordLevels cX13_recordLevels 4 (none) 0 := ⟨q173, q2579, by decide +kernel, by decide +kernel, by decide +kernel⟩
theorem miX13_recordLevels : MI yX13_recordLevels := ⟨q2578, q98⟩
theorem fgX13_287_26 {vv : Nat} (V : 1 ≤ vv) : FG vv RX13 287 26 1 16 (none) := ⟨14, _, RX13, TX13, kk26 V, rfl, inX13, rfl, q2102⟩
theorem fgX13_290_26 {vv : Nat} (V : 1 ≤ vv) : FG vv RX13 290 26 1 17 (none) := ⟨14, _, RX13, TX13, kk26 V, rfl, inX13, rfl, q2103⟩
theorem mmX13_writeAll : MM yX13_writeAll cX13_writeAll 2 (none) 1 := ⟨q173, q2571, by decide +kernel, by decide +kernel, by decide +kernel⟩
theorem miX13_writeAll : MI yX13_writeAll := ⟨q2570, q96⟩
theorem mmX13_note : MM yX13_note cX13_note 3 (none) 2 := ⟨q173, q2476, by decide +kernel, by decide +kernel, by decide +kernel⟩
theorem miX13_note : MI yX13_note := ⟨q2475, q74⟩
theorem fgX13_332_26 {vv : Nat} (V : 1 ≤ vv) : FG vv RX13 332 26 1 19 (none) := ⟨14, _, RX13, TX13, kk26 V, rfl, inX13, rfl, q2105⟩
theorem fpX13_332_26 {vv : Nat} (V : 1 ≤ vv) : FP vv RX13 332 26 1 19 (none) (.int) := ⟨14, _, RX13, TX13, tyX13, kk26 V, rfl, inX13, rfl, q2105, tyX13_ok, nmX13, rfl, by decide +kernel⟩
theorem mmX13_decrease : MM yX13_decrease cX13_decrease 4 (some .boolean) 2 := ⟨q173, q2492, by decide +kernel, by decide +kernel, by decide +kernel⟩
theorem miX13_decrease : MI yX13_decrease := ⟨q2491, q78⟩
theorem mmX13_holds : MM yX13_holds cX13_holds 3 (some .boolean) 2 := ⟨q173, q2488, by decide +kernel, by decide +kernel, by decide +kernel⟩
theorem miX13_holds : MI yX13_holds := ⟨q2487, q77⟩
theorem mmX13_pinValue : MM yX13_pinValue cX13_pinValue 4 (some .int) 1 := ⟨q173, q2504, by decide +kernel, by decide +kernel, by decide +kernel⟩
theorem miX13_pinValue : MI yX13_pinValue := ⟨q2503, q81⟩
theorem mmX13_append : MM yX13_append cX13_append 5 (none) 3 := ⟨q173, q2382, by decide +kernel, by decide +kernel, by decide +kernel⟩
theorem miX13_append : MI yX13_append := ⟨q2381, q58⟩
theorem mmX13_removeFirst : MM yX13_removeFirst cX13_removeFirst 7 (some .int) 2 := ⟨q173, q2399, by decide +kernel, by decide +kernel, by decide +kernel⟩
theorem miX13_removeFirst : MI yX13_removeFirst := ⟨q2398, q61⟩
theorem mmX13_jumpToWord : MM yX13_jumpToWord cX13_jumpToWord 2 (none) 1 := ⟨q173, q2536, by decide +kernel, by decide +kernel, by decide +kernel⟩
theorem miX13_jumpToWord : MI yX13_jumpToWord := ⟨q2535, q88⟩
theorem mmX13_isFull : MM yX13_isFull cX13_isFull 3 (some .boolean) 2 := ⟨q173, q2371, by decide +kernel, by decide +kernel, by decide +kernel⟩
theorem miX13_isFull : MI yX13_isFull := ⟨q2370, q56⟩
theorem mmX13_emptyShifted : MM yX13_emptyShifted cX13_emptyShifted 2 (none) 1 := ⟨q173, q2520, by decide +kernel, by decide +kernel, by decide +kernel⟩
theorem miX13_emptyShifted : MI yX13_emptyShifted := ⟨q2519, q84⟩
theorem mmX13_refill : MM yX13_refill cX13_refill 2 (none) 1 := ⟨q173, q2528, by decide +kernel, by decide +kernel, by decide +kernel⟩
theorem miX13_refill : MI yX13_refill := ⟨q2527, q86⟩
theorem mmX13_write : MM yX13_write cX13_write 5 (some .int) 4 := ⟨q173, q2532, by decide +kernel, by decide +kernel, by decide +kernel⟩
theorem miX13_write : MI yX13_write := ⟨q2531, q87⟩
theorem mmX13_reversed : MM yX13_reversed cX13_reversed 3 (some .int) 1 := ⟨q173, q2551, by decide +kernel, by decide +kernel, by decide +kernel⟩
theorem mmX13_source : MM yX13_source cX13_source 3 (some .int) 2 := ⟨q173, q2500, by decide +kernel, by decide +kernel, by decide +kernel⟩
theorem miX13_source : MI yX13_source := ⟨q2499, q80⟩
theorem mmX13_doneByAll : MM yX13_doneByAll cX13_doneByAll 3 (some .int) 0 := ⟨q173, q2436, by decide +kernel, by decide +kernel, by decide +kernel⟩
theorem miX13_doneByAll : MI yX13_doneByAll := ⟨q2435, q64⟩
theorem mmX13_isLimit : MM yX13_isLimit cX13_isLimit 1 (some .boolean) 1 := ⟨q173, q2586, by decide +kernel, by decide +kernel, by decide +kernel⟩
theorem fgX13_16_26 {vv : Nat} (V : 1 ≤ vv) : FG vv RX13 16 26 1 2 (some (27, some (fun _ => 2))) := ⟨14, _, RX13, TX13, kk26 V, rfl, inX13, rfl, q2088⟩
theorem fgX13_22_26 {vv : Nat} (V : 1 ≤ vv) : FG vv RX13 22 26 1 4 (some (27, some (fun _ => 4))) := ⟨14, _, RX13, TX13, kk26 V, rfl, inX13, rfl, q2090⟩
theorem fgX13_459_26 {vv : Nat} (V : 1 ≤ vv) : FG vv RX13 459 26 1 5 (none) := ⟨14, _, RX13, TX13, kk26 V, rfl, inX13, rfl, q2091⟩
theorem mmX13_copy : MM yX13_copy cX13_copy 5 (none) 4 := ⟨q173, q2378, by decide +kernel, by decide +kernel, by decide +kernel⟩
theorem fpX13_459_26 {vv : Nat} (V : 1 ≤ vv) : FP vv RX13 459 26 1 5 (none) (.int) := ⟨14, _, RX13, TX13, tyX13, kk26 V, rfl, inX13, rfl, q2091, tyX13_ok, nmX13, rfl, by decide +kernel⟩
theorem fgX13_19_26 {vv : Nat} (V : 1 ≤ vv) : FG vv RX13 19 26 1 3 (some (27, some (fun _ => 3))) := ⟨14, _, RX13, TX13, kk26 V, rfl, inX13, rfl, q2089⟩
theorem fpX13_462_26 {vv : Nat} (V : 1 ≤ vv) : FP vv RX13 462 26 1 7 (none) (.boolean) := ⟨14, _, RX13, TX13, tyX13, kk26 V, rfl, inX13, rfl, q2093, tyX13_ok, nmX13, rfl, by decide +kernel⟩
theorem fgX13_462_26 {vv : Nat} (V : 1 ≤ vv) : FG vv RX13 462 26 1 7 (none) := ⟨14, _, RX13, TX13, kk26 V, rfl, inX13, rfl, q2093⟩
theorem fgX13_466_26 {vv : Nat} (V : 1 ≤ vv) : FG vv RX13 466 26 1 21 (none) := ⟨14, _, RX13, TX13, kk26 V, rfl, inX13, rfl, q2107⟩
theorem fgX13_50_26 {vv : Nat} (V : 1 ≤ vv) : FG vv RX13 50 26 1 20 (some (28, some (fun _ => 7))) := ⟨14, _, RX13, TX13, kk26 V, rfl, inX13, rfl, q2106⟩
theorem fpX13_466_26 {vv : Nat} (V : 1 ≤ vv) : FP vv RX13 466 26 1 21 (none) (.int) := ⟨14, _, RX13, TX13, tyX13, kk26 V, rfl, inX13, rfl, q2107, tyX13_ok, nmX13, rfl, by decide +kernel⟩
theorem fgX13_53_26 {vv : Nat} (V : 1 ≤ vv) : FG vv RX13 53 26 1 28 (none) := ⟨14, _, RX13, TX13, kk26 V, rfl, inX13, rfl, q2114⟩
theorem fgX13_469_26 {vv : Nat} (V : 1 ≤ vv) : FG vv RX13 469 26 1 22 (none) := ⟨14, _, RX13, TX13, kk26 V, rfl, inX13, rfl, q2108⟩
theorem mmX13_byteAt : MM yX13_byteAt cX13_byteAt 2 (some .int) 1 := ⟨q173, q2653, by decide +kernel, by decide +kernel, by decide +kernel⟩
theorem miX13_byteAt : MI yX13_byteAt := ⟨q2652, q101⟩
theorem fgX13_475_26 {vv : Nat} (V : 1 ≤ vv) : FG vv RX13 475 26 1 23 (none) := ⟨14, _, RX13, TX13, kk26 V, rfl, inX13, rfl, q2109⟩
theorem fpX13_475_26 {vv : Nat} (V : 1 ≤ vv) : FP vv RX13 475 26 1 23 (none) (.int) := ⟨14, _, RX13, TX13, tyX13, kk26 V, rfl, inX13, rfl, q2109, tyX13_ok, nmX13, rfl, by decide +kernel⟩
theorem fpX13_478_26 {vv : Nat} (V : 1 ≤ vv) : FP vv RX13 478 26 1 24 (none) (.int) := ⟨14, _, RX13, TX13, tyX13, kk26 V, rfl, inX13, rfl, q2110, tyX13_ok, nmX13, rfl, by decide +kernel⟩
theorem mmX13_isLetter : MM yX13_isLetter cX13_isLetter 2 (some .boolean) 1 := ⟨q173, q2657, by decide +kernel, by decide +kernel, by decide +kernel⟩
theorem miX13_isLetter : MI yX13_isLetter := ⟨q2656, q102⟩
theorem fpX13_481_26 {vv : Nat} (V : 1 ≤ vv) : FP vv RX13 481 26 1 25 (none) (.int) := ⟨14, _, RX13, TX13, tyX13, kk26 V, rfl, inX13, rfl, q2111, tyX13_ok, nmX13, rfl, by decide +kernel⟩
theorem mmX13_isDigit : MM yX13_isDigit cX13_isDigit 2 (some .boolean) 1 := ⟨q173, q2661, by decide +kernel, by decide +kernel, by decide +kernel⟩
theorem miX13_isDigit : MI yX13_isDigit := ⟨q2660, q103⟩
theorem fpX13_469_26 {vv : Nat} (V : 1 ≤ vv) : FP vv RX13 469 26 1 22 (none) (.int) := ⟨14, _, RX13, TX13, tyX13, kk26 V, rfl, inX13, rfl, q2108, tyX13_ok, nmX13, rfl, by decide +kernel⟩
theorem fpX13_490_26 {vv : Nat} (V : 1 ≤ vv) : FP vv RX13 490 26 1 26 (none) (.int) := ⟨14, _, RX13, TX13, tyX13, kk26 V, rfl, inX13, rfl, q2112, tyX13_ok, nmX13, rfl, by decide +kernel⟩
theorem fpX13_493_26 {vv : Nat} (V : 1 ≤ vv) : FP vv RX13 493 26 1 29 (none) (.int) := ⟨14, _, RX13, TX13, tyX13, kk26 V, rfl, inX13, rfl, q2115, tyX13_ok, nmX13, rfl, by decide +kernel⟩
theorem mmX13_scan : MM yX13_scan cX13_scan 1 (none) 0 := ⟨q173, q2649, by decide +kernel, by decide +kernel, by decide +kernel⟩
theorem miX13_scan : MI yX13_scan := ⟨q2648, q100⟩
theorem fpX13_53_26 {vv : Nat} (V : 1 ≤ vv) : FP vv RX13 53 26 1 28 (none) (.int) := ⟨14, _, RX13, TX13, tyX13, kk26 V, rfl, inX13, rfl, q2114, tyX13_ok, nmX13, rfl, by decide +kernel⟩
theorem fgX13_490_26 {vv : Nat} (V : 1 ≤ vv) : FG vv RX13 490 26 1 26 (none) := ⟨14, _, RX13, TX13, kk26 V, rfl, inX13, rfl, q2112⟩
theorem fgX13_499_26 {vv : Nat} (V : 1 ≤ vv) : FG vv RX13 499 26 1 27 (none) := ⟨14, _, RX13, TX13, kk26 V, rfl, inX13, rfl, q2113⟩
theorem fgX13_478_26 {vv : Nat} (V : 1 ≤ vv) : FG vv RX13 478 26 1 24 (none) := ⟨14, _, RX13, TX13, kk26 V, rfl, inX13, rfl, q2110⟩
theorem fpX13_499_26 {vv : Nat} (V : 1 ≤ vv) : FP vv RX13 499 26 1 27 (none) (.int) := ⟨14, _, RX13, TX13, tyX13, kk26 V, rfl, inX13, rfl, q2113, tyX13_ok, nmX13, rfl, by decide +kernel⟩
theorem mmX13_fail : MM yX13_fail cX13_fail 2 (none) 1 := ⟨q173, q2687, by decide +kernel, by decide +kernel, by decide +kernel⟩
theorem miX13_fail : MI yX13_fail := ⟨q2686, q109⟩
theorem fgX13_481_26 {vv : Nat} (V : 1 ≤ vv) : FG vv RX13 481 26 1 25 (none) := ⟨14, _, RX13, TX13, kk26 V, rfl, inX13, rfl, q2111⟩
theorem mmX13_isWord : MM yX13_isWord cX13_isWord 4 (some .boolean) 1 := ⟨q173, q2673, by decide +kernel, by decide +kernel, by decide +kernel⟩
theorem miX13_isWord : MI yX13_isWord := ⟨q2672, q106⟩
theorem mmX13_check : MM yX13_check cX13_check 3 (none) 2 := ⟨q173, q2683, by decide +kernel, by decide +kernel, by decide +kernel⟩
theorem miX13_check : MI yX13_check := ⟨q2682, q108⟩
theorem mmX13_advance : MM yX13_advance cX13_advance 1 (none) 0 := ⟨q173, q2695, by decide +kernel, by decide +kernel, by decide +kernel⟩
theorem miX13_advance : MI yX13_advance := ⟨q2694, q111⟩
theorem mmX13_isSymbol : MM yX13_isSymbol cX13_isSymbol 2 (some .boolean) 1 := ⟨q173, q2771, by decide +kernel, by decide +kernel, by decide +kernel⟩
theorem miX13_isSymbol : MI yX13_isSymbol := ⟨q2770, q130⟩
theorem mmX13_value : MM yX13_value cX13_value 3 (some .int) 0 := ⟨q173, q2691, by decide +kernel, by decide +kernel, by decide +kernel⟩
theorem miX13_value : MI yX13_value := ⟨q2690, q110⟩
theorem ag30 {vv : Nat} (V : 1 ≤ vv) : AG vv 30 5 9 (fun _ n => stl.getD n 0) (some (some (51, some (fun n k => strAt n k)))) := kk30 V
theorem fgX13_85_26 {vv : Nat} (V : 1 ≤ vv) : FG vv RX13 85 26 1 30 (some (30, some (fun _ => 0))) := ⟨14, _, RX13, TX13, kk26 V, rfl, inX13, rfl, q2116⟩
theorem mmX13_indexIn : MM yX13_indexIn cX13_indexIn 3 (some .int) 1 := ⟨q173, q2711, by decide +kernel, by decide +kernel, by decide +kernel⟩
theorem miX13_indexIn : MI yX13_indexIn := ⟨q2710, q115⟩
theorem fgX13_105_26 {vv : Nat} (V : 1 ≤ vv) : FG vv RX13 105 26 1 31 (some (30, some (fun _ => 1))) := ⟨14, _, RX13, TX13, kk26 V, rfl, inX13, rfl, q2117⟩
theorem fgX13_126_26 {vv : Nat} (V : 1 ≤ vv) : FG vv RX13 126 26 1 32 (some (30, some (fun _ => 2))) := ⟨14, _, RX13, TX13, kk26 V, rfl, inX13, rfl, q2118⟩
theorem fgX13_195_26 {vv : Nat} (V : 1 ≤ vv) : FG vv RX13 195 26 1 33 (some (30, some (fun _ => 3))) := ⟨14, _, RX13, TX13, kk26 V, rfl, inX13, rfl, q2119⟩
theorem fgX13_201_26 {vv : Nat} (V : 1 ≤ vv) : FG vv RX13 201 26 1 35 (some (28, some (fun _ => 9))) := ⟨14, _, RX13, TX13, kk26 V, rfl, inX13, rfl, q2121⟩
theorem fgX13_198_26 {vv : Nat} (V : 1 ≤ vv) : FG vv RX13 198 26 1 34 (some (28, some (fun _ => 8))) := ⟨14, _, RX13, TX13, kk26 V, rfl, inX13, rfl, q2120⟩
theorem mmX13_isSame : MM yX13_isSame cX13_isSame 5 (some .boolean) 3 := ⟨q173, q2763, by decide +kernel, by decide +kernel, by decide +kernel⟩
theorem miX13_isSame : MI yX13_isSame := ⟨q2762, q128⟩
theorem fgX13_204_26 {vv : Nat} (V : 1 ≤ vv) : FG vv RX13 204 26 1 36 (some (28, some (fun _ => 10))) := ⟨14, _, RX13, TX13, kk26 V, rfl, inX13, rfl, q2122⟩
theorem fgX13_540_26 {vv : Nat} (V : 1 ≤ vv) : FG vv RX13 540 26 1 39 (none) := ⟨14, _, RX13, TX13, kk26 V, rfl, inX13, rfl, q2125⟩
theorem fgX13_207_26 {vv : Nat} (V : 1 ≤ vv) : FG vv RX13 207 26 1 37 (some (28, some (fun _ => 11))) := ⟨14, _, RX13, TX13, kk26 V, rfl, inX13, rfl, q2123⟩
theorem fgX13_210_26 {vv : Nat} (V : 1 ≤ vv) : FG vv RX13 210 26 1 38 (some (28, some (fun _ => 12))) := ⟨14, _, RX13, TX13, kk26 V, rfl, inX13, rfl, q2124⟩
theorem fpX13_540_26 {vv : Nat} (V : 1 ≤ vv) : FP vv RX13 540 26 1 39 (none) (.int) := ⟨14, _, RX13, TX13, tyX13, kk26 V, rfl, inX13, rfl, q2125, tyX13_ok, nmX13, rfl, by decide +kernel⟩
theorem mmX13_isName : MM yX13_isName cX13_isName 1 (some .boolean) 0 := ⟨q173, q2707, by decide +kernel, by decide +kernel, by decide +kernel⟩
theorem miX13_isName : MI yX13_isName := ⟨q2706, q114⟩
theorem fgX13_13_26 {vv : Nat} (V : 1 ≤ vv) : FG vv RX13 13 26 1 1 (some (27, some (fun _ => 1))) := ⟨14, _, RX13, TX13, kk26 V, rfl, inX13, rfl, q2087⟩
theorem mmX13_labelled : MM yX13_labelled cX13_labelled 5 (some .int) 3 := ⟨q173, q2759, by decide +kernel, by decide +kernel, by decide +kernel⟩
theorem miX13_labelled : MI yX13_labelled := ⟨q2758, q127⟩
theorem mmX13_number : MM yX13_number cX13_number 4 (some .int) 2 := ⟨q173, q2723, by decide +kernel, by decide +kernel, by decide +kernel⟩
theorem miX13_number : MI yX13_number := ⟨q2722, q118⟩
theorem mmX13_putNumber : MM yX13_putNumber cX13_putNumber 5 (none) 3 := ⟨q173, q2731, by decide +kernel, by decide +kernel, by decide +kernel⟩
theorem miX13_putNumber : MI yX13_putNumber := ⟨q2730, q120⟩
theorem mmX13_accept : MM yX13_accept cX13_accept 3 (some .boolean) 1 := ⟨q173, q2669, by decide +kernel, by decide +kernel, by decide +kernel⟩
theorem miX13_accept : MI yX13_accept := ⟨q2668, q105⟩
theorem mmX13_readFlag : MM yX13_readFlag cX13_readFlag 4 (some .boolean) 2 := ⟨q173, q2743, by decide +kernel, by decide +kernel, by decide +kernel⟩
theorem miX13_readFlag : MI yX13_readFlag := ⟨q2742, q123⟩
theorem mmX13_join : MM yX13_join cX13_join 3 (none) 2 := ⟨q173, q2739, by decide +kernel, by decide +kernel, by decide +kernel⟩
theorem miX13_join : MI yX13_join := ⟨q2738, q122⟩
theorem mmX13_readLimit : MM yX13_readLimit cX13_readLimit 2 (none) 1 := ⟨q173, q2735, by decide +kernel, by decide +kernel, by decide +kernel⟩
theorem miX13_readLimit : MI yX13_readLimit := ⟨q2734, q121⟩
theorem mmX13_readGroup : MM yX13_readGroup cX13_readGroup 3 (none) 2 := ⟨q173, q2727, by decide +kernel, by decide +kernel, by decide +kernel⟩
theorem miX13_readGroup : MI yX13_readGroup := ⟨q2726, q119⟩
theorem mmX13_readName : MM yX13_readName cX13_readName 2 (none) 1 := ⟨q173, q2703, by decide +kernel, by decide +kernel, by decide +kernel⟩
theorem miX13_readName : MI yX13_readName := ⟨q2702, q113⟩
theorem mmX13_readClock : MM yX13_readClock cX13_readClock 4 (none) 1 := ⟨q173, q2719, by decide +kernel, by decide +kernel, by decide +kernel⟩
theorem miX13_readClock : MI yX13_readClock := ⟨q2718, q117⟩
theorem mmX13_readSetting : MM yX13_readSetting cX13_readSetting 2 (some .boolean) 1 := ⟨q173, q2715, by decide +kernel, by decide +kernel, by decide +kernel⟩
theorem miX13_readSetting : MI yX13_readSetting := ⟨q2714, q116⟩
theorem mmX13_expectWord : MM yX13_expectWord cX13_expectWord 2 (none) 1 := ⟨q173, q2699, by decide +kernel, by decide +kernel, by decide +kernel⟩
theorem miX13_expectWord : MI yX13_expectWord := ⟨q2698, q112⟩
theorem mmX13_readPlace : MM yX13_readPlace cX13_readPlace 4 (none) 2 := ⟨q173, q2787, by decide +kernel, by decide +kernel, by decide +kernel⟩
theorem miX13_readPlace : MI yX13_readPlace := ⟨q2786, q134⟩
theorem mmX13_readJump : MM yX13_readJump cX13_readJump 3 (none) 1 := ⟨q173, q2779, by decide +kernel, by decide +kernel, by decide +kernel⟩
theorem miX13_readJump : MI yX13_readJump := ⟨q2778, q132⟩
theorem mmX13_readWait : MM yX13_readWait cX13_readWait 3 (none) 1 := ⟨q173, q2783, by decide +kernel, by decide +kernel, by decide +kernel⟩
theorem miX13_readWait : MI yX13_readWait := ⟨q2782, q133⟩
theorem mmX13_readQueueing : MM yX13_readQueueing cX13_readQueueing 3 (none) 2 := ⟨q173, q2791, by decide +kernel, by decide +kernel, by decide +kernel⟩
theorem miX13_readQueueing : MI yX13_readQueueing := ⟨q2790, q135⟩
theorem mmX13_readMove : MM yX13_readMove cX13_readMove 2 (none) 1 := ⟨q173, q2795, by decide +kernel, by decide +kernel, by decide +kernel⟩
theorem miX13_readMove : MI yX13_readMove := ⟨q2794, q136⟩
theorem mmX13_readAccess : MM yX13_readAccess cX13_readAccess 3 (none) 2 := ⟨q173, q2799, by decide +kernel, by decide +kernel, by decide +kernel⟩
theorem miX13_readAccess : MI yX13_readAccess := ⟨q2798, q137⟩
theorem mmX13_expect : MM yX13_expect cX13_expect 2 (none) 1 := ⟨q173, q2767, by decide +kernel, by decide +kernel, by decide +kernel⟩
theorem miX13_expect : MI yX13_expect := ⟨q2766, q129⟩
theorem mmX13_readOperands : MM yX13_readOperands cX13_readOperands 3 (none) 2 := ⟨q173, q2775, by decide +kernel, by decide +kernel, by decide +kernel⟩
theorem miX13_readOperands : MI yX13_readOperands := ⟨q2774, q131⟩
theorem mmX13_readLabel : MM yX13_readLabel cX13_readLabel 4 (none) 0 := ⟨q173, q2755, by decide +kernel, by decide +kernel, by decide +kernel⟩
theorem miX13_readLabel : MI yX13_readLabel := ⟨q2754, q126⟩
theorem mmX13_readInstruction : MM yX13_readInstruction cX13_readInstruction 3 (none) 0 := ⟨q173, q2751, by decide +kernel, by decide +kernel, by decide +kernel⟩
theorem miX13_readInstruction : MI yX13_readInstruction := ⟨q2750, q125⟩
theorem mmX13_readLevel : MM yX13_readLevel cX13_readLevel 2 (none) 0 := ⟨q173, q2747, by decide +kernel, by decide +kernel, by decide +kernel⟩
theorem miX13_readLevel : MI yX13_readLevel := ⟨q2746, q124⟩
theorem mmX13_readEngine : MM yX13_readEngine cX13_readEngine 2 (none) 0 := ⟨q173, q2679, by decide +kernel, by decide +kernel, by decide +kernel⟩
theorem miX13_readEngine : MI yX13_readEngine := ⟨q2678, q107⟩
theorem mmX13_layNames : MM yX13_layNames cX13_layNames 3 (none) 0 := ⟨q173, q2803, by decide +kernel, by decide +kernel, by decide +kernel⟩
theorem miX13_layNames : MI yX13_layNames := ⟨q2802, q138⟩
theorem mmX13_finish : MM yX13_finish cX13_finish 1 (some .int) 0 := ⟨q173, q2807, by decide +kernel, by decide +kernel, by decide +kernel⟩
theorem miX13_finish : MI yX13_finish := ⟨q2806, q139⟩
theorem mmX13_begin : MM yX13_begin cX13_begin 3 (none) 1 := ⟨q173, q2411, by decide +kernel, by decide +kernel, by decide +kernel⟩
theorem miX13_begin : MI yX13_begin := ⟨q2410, q62⟩
theorem mmX13_readClause : MM yX13_readClause cX13_readClause 1 (none) 0 := ⟨q173, q2665, by decide +kernel, by decide +kernel, by decide +kernel⟩
theorem miX13_readClause : MI yX13_readClause := ⟨q2664, q104⟩
theorem mmX13_clear : MM yX13_clear cX13_clear 2 (none) 1 := ⟨q173, q2085, by decide +kernel, by decide +kernel, by decide +kernel⟩
theorem mmX13_startText : MM yX13_startText cX13_startText 2 (none) 1 := ⟨q173, q2645, by decide +kernel, by decide +kernel, by decide +kernel⟩
theorem miX13_startText : MI yX13_startText := ⟨q2644, q99⟩
theorem fgX13_213_26 {vv : Nat} (V : 1 ≤ vv) : FG vv RX13 213 26 1 40 (some (28, some (fun _ => 13))) := ⟨14, _, RX13, TX13, kk26 V, rfl, inX13, rfl, q2126⟩
theorem fgX13_630_26 {vv : Nat} (V : 1 ≤ vv) : FG vv RX13 630 26 1 41 (none) := ⟨14, _, RX13, TX13, kk26 V, rfl, inX13, rfl, q2127⟩
theorem fpX13_630_26 {vv : Nat} (V : 1 ≤ vv) : FP vv RX13 630 26 1 41 (none) (.int) := ⟨14, _, RX13, TX13, tyX13, kk26 V, rfl, inX13, rfl, q2127, tyX13_ok, nmX13, rfl, by decide +kernel⟩
theorem mmX13_write_ : MM yX13_write_ cX13_write_ 3 (none) 1 := ⟨q173, q2815, by decide +kernel, by decide +kernel, by decide +kernel⟩
theorem miX13_write_ : MI yX13_write_ := ⟨q2814, q140⟩
theorem fgX13_222_26 {vv : Nat} (V : 1 ≤ vv) : FG vv RX13 222 26 1 44 (some (28, some (fun _ => 15))) := ⟨14, _, RX13, TX13, kk26 V, rfl, inX13, rfl, q2130⟩
theorem fgX13_651_26 {vv : Nat} (V : 1 ≤ vv) : FG vv RX13 651 26 1 46 (none) := ⟨14, _, RX13, TX13, kk26 V, rfl, inX13, rfl, q2132⟩
theorem fpX13_651_26 {vv : Nat} (V : 1 ≤ vv) : FP vv RX13 651 26 1 46 (none) (.int) := ⟨14, _, RX13, TX13, tyX13, kk26 V, rfl, inX13, rfl, q2132, tyX13_ok, nmX13, rfl, by decide +kernel⟩
theorem fgX13_493_26 {vv : Nat} (V : 1 ≤ vv) : FG vv RX13 493 26 1 29 (none) := ⟨14, _, RX13, TX13, kk26 V, rfl, inX13, rfl, q2115⟩
theorem mmX13_emit : MM yX13_emit cX13_emit 2 (none) 1 := ⟨q173, q2863, by decide +kernel, by decide +kernel, by decide +kernel⟩
theorem miX13_emit : MI yX13_emit := ⟨q2862, q150⟩
theorem fgX13_216_26 {vv : Nat} (V : 1 ≤ vv) : FG vv RX13 216 26 1 42 (some (30, some (fun _ => 4))) := ⟨14, _, RX13, TX13, kk26 V, rfl, inX13, rfl, q2128⟩
theorem mmX13_compileValue : MM yX13_compileValue cX13_compileValue 2 (none) 0 := ⟨q173, q2867, by decide +kernel, by decide +kernel, by decide +kernel⟩
theorem miX13_compileValue : MI yX13_compileValue := ⟨q2866, q151⟩
theorem mmX13_enter : MM yX13_enter cX13_enter 1 (none) 0 := ⟨q173, q2859, by decide +kernel, by decide +kernel, by decide +kernel⟩
theorem miX13_enter : MI yX13_enter := ⟨q2858, q149⟩
theorem fgX13_219_26 {vv : Nat} (V : 1 ≤ vv) : FG vv RX13 219 26 1 43 (some (28, some (fun _ => 14))) := ⟨14, _, RX13, TX13, kk26 V, rfl, inX13, rfl, q2129⟩
theorem fgX13_225_26 {vv : Nat} (V : 1 ≤ vv) : FG vv RX13 225 26 1 45 (some (28, some (fun _ => 16))) := ⟨14, _, RX13, TX13, kk26 V, rfl, inX13, rfl, q2131⟩
theorem mmX13_operate : MM yX13_operate cX13_operate 3 (some .int) 3 := ⟨q173, q2880, by decide +kernel, by decide +kernel, by decide +kernel⟩
theorem mmX13_property : MM yX13_property cX13_property 3 (some .int) 2 := ⟨q173, q2877, by decide +kernel, by decide +kernel, by decide +kernel⟩
theorem miX13_property : MI yX13_property := ⟨q2876, q153⟩
theorem mmX13_holdsFor : MM yX13_holdsFor cX13_holdsFor 5 (some .boolean) 1 := ⟨q173, q2873, by decide +kernel, by decide +kernel, by decide +kernel⟩
theorem miX13_holdsFor : MI yX13_holdsFor := ⟨q2872, q152⟩
theorem fgX1_21_18 (vv : Nat) : FG vv RX1 21 18 52 13 (some (21, some (fun n => n))) := ⟨2, _, RX1, TX1, kk18 _, rfl, inX1, rfl, q539⟩
theorem inX8 : ∀ w ∈ u_ws RX8 TX8 20, w ∈ tb := u_in (fun k hk => match k, hk with
  | 0, _ => q367
  | 1, _ => q369
  | 2, _ => q371
  | 3, _ => q373
  | 4, _ => q375
  | 5, _ => q377
  | 6, _ => q379
  | 7, _ => q381
  | 8, _ => q383
  | 9, _ => q385
  | 10, _ => q387
  | 11, _ => q389
  | 12, _ => q391
  | 13, _ => q393
  | 14, _ => q395
  | 15, _ => q397
  | 16, _ => q399
  | 17, _ => q401
  | 18, _ => q403
  | 19, _ => q405
  | _ + 20, hk => absurd hk (by omega))
theorem fgX1_33_8 (vv : Nat) : FG vv RX1 33 8 8 1 (none) := ⟨9, _, RX8, TX8, kk8 _, rfl, inX8, rfl, q311⟩
theorem fpX1_39_18 (vv : Nat) : FP vv RX1 39 18 52 0 (none) (.int) := ⟨2, _, RX1, TX1, tyX1, kk18 _, rfl, inX1, rfl, q492, tyX1_ok, nmX1, rfl, by decide +kernel⟩
theorem fpX1_42_18 (vv : Nat) : FP vv RX1 42 18 52 1 (none) (.int) := ⟨2, _, RX1, TX1, tyX1, kk18 _, rfl, inX1, rfl, q496, tyX1_ok, nmX1, rfl, by decide +kernel⟩
theorem fpX1_45_18 (vv : Nat) : FP vv RX1 45 18 52 2 (none) (.int) := ⟨2, _, RX1, TX1, tyX1, kk18 _, rfl, inX1, rfl, q500, tyX1_ok, nmX1, rfl, by decide +kernel⟩
theorem fpX1_48_18 (vv : Nat) : FP vv RX1 48 18 52 3 (none) (.int) := ⟨2, _, RX1, TX1, tyX1, kk18 _, rfl, inX1, rfl, q504, tyX1_ok, nmX1, rfl, by decide +kernel⟩
theorem fpX1_51_18 (vv : Nat) : FP vv RX1 51 18 52 4 (none) (.int) := ⟨2, _, RX1, TX1, tyX1, kk18 _, rfl, inX1, rfl, q508, tyX1_ok, nmX1, rfl, by decide +kernel⟩
theorem fpX1_54_18 (vv : Nat) : FP vv RX1 54 18 52 5 (none) (.int) := ⟨2, _, RX1, TX1, tyX1, kk18 _, rfl, inX1, rfl, q512, tyX1_ok, nmX1, rfl, by decide +kernel⟩
theorem fpX1_57_18 (vv : Nat) : FP vv RX1 57 18 52 6 (none) (.int) := ⟨2, _, RX1, TX1, tyX1, kk18 _, rfl, inX1, rfl, q516, tyX1_ok, nmX1, rfl, by decide +kernel⟩
theorem fpX1_60_18 (vv : Nat) : FP vv RX1 60 18 52 7 (none) (.int) := ⟨2, _, RX1, TX1, tyX1, kk18 _, rfl, inX1, rfl, q520, tyX1_ok, nmX1, rfl, by decide +kernel⟩
theorem fpX1_63_18 (vv : Nat) : FP vv RX1 63 18 52 8 (none) (.int) := ⟨2, _, RX1, TX1, tyX1, kk18 _, rfl, inX1, rfl, q524, tyX1_ok, nmX1, rfl, by decide +kernel⟩
theorem fgX1_66_8 (vv : Nat) : FG vv RX1 66 8 8 4 (none) := ⟨9, _, RX8, TX8, kk8 _, rfl, inX8, rfl, q320⟩
theorem fpX1_69_18 (vv : Nat) : FP vv RX1 69 18 52 9 (none) (.int) := ⟨2, _, RX1, TX1, tyX1, kk18 _, rfl, inX1, rfl, q528, tyX1_ok, nmX1, rfl, by decide +kernel⟩
theorem fgX1_12_18 (vv : Nat) : FG vv RX1 12 18 52 11 (some (19, some (fun n => 2 * n))) := ⟨2, _, RX1, TX1, kk18 _, rfl, inX1, rfl, q531⟩
theorem fgX1_72_8 (vv : Nat) : FG vv RX1 72 8 8 19 (none) := ⟨9, _, RX8, TX8, kk8 _, rfl, inX8, rfl, q365⟩
theorem fgX1_39_18 (vv : Nat) : FG vv RX1 39 18 52 0 (none) := ⟨2, _, RX1, TX1, kk18 _, rfl, inX1, rfl, q492⟩
theorem fgX1_42_18 (vv : Nat) : FG vv RX1 42 18 52 1 (none) := ⟨2, _, RX1, TX1, kk18 _, rfl, inX1, rfl, q496⟩
theorem fgX1_45_18 (vv : Nat) : FG vv RX1 45 18 52 2 (none) := ⟨2, _, RX1, TX1, kk18 _, rfl, inX1, rfl, q500⟩
theorem fgX1_48_18 (vv : Nat) : FG vv RX1 48 18 52 3 (none) := ⟨2, _, RX1, TX1, kk18 _, rfl, inX1, rfl, q504⟩
theorem fgX1_51_18 (vv : Nat) : FG vv RX1 51 18 52 4 (none) := ⟨2, _, RX1, TX1, kk18 _, rfl, inX1, rfl, q508⟩
theorem fgX1_54_18 (vv : Nat) : FG vv RX1 54 18 52 5 (none) := ⟨2, _, RX1, TX1, kk18 _, rfl, inX1, rfl, q512⟩
theorem fgX1_57_18 (vv : Nat) : FG vv RX1 57 18 52 6 (none) := ⟨2, _, RX1, TX1, kk18 _, rfl, inX1, rfl, q516⟩
theorem fgX1_60_18 (vv : Nat) : FG vv RX1 60 18 52 7 (none) := ⟨2, _, RX1, TX1, kk18 _, rfl, inX1, rfl, q520⟩
theorem fgX1_63_18 (vv : Nat) : FG vv RX1 63 18 52 8 (none) := ⟨2, _, RX1, TX1, kk18 _, rfl, inX1, rfl, q524⟩
theorem fgX1_69_18 (vv : Nat) : FG vv RX1 69 18 52 9 (none) := ⟨2, _, RX1, TX1, kk18 _, rfl, inX1, rfl, q528⟩
theorem fgX1_29_18 (vv : Nat) : FG vv RX1 29 18 52 10 (none) := ⟨2, _, RX1, TX1, kk18 _, rfl, inX1, rfl, q529⟩
theorem fpX1_29_18 (vv : Nat) : FP vv RX1 29 18 52 10 (none) (.boolean) := ⟨2, _, RX1, TX1, tyX1, kk18 _, rfl, inX1, rfl, q529, tyX1_ok, nmX1, rfl, by decide +kernel⟩
theorem fgX1_18_18 (vv : Nat) : FG vv RX1 18 18 52 12 (some (19, some (fun n => 2 * n + 1))) := ⟨2, _, RX1, TX1, kk18 _, rfl, inX1, rfl, q535⟩
theorem inX2 : ∀ w ∈ u_ws RX2 TX2 8, w ∈ tb := u_in (fun k hk => match k, hk with
  | 0, _ => q280
  | 1, _ => q282
  | 2, _ => q284
  | 3, _ => q286
  | 4, _ => q288
  | 5, _ => q290
  | 6, _ => q292
  | 7, _ => q294
  | _ + 8, hk => absurd hk (by omega))
theorem fpX2_15_9 (vv : Nat) : FP vv RX2 15 9 66 0 (some (50, none)) (.object "PinEngines$Symbol") := ⟨3, _, RX2, TX2, tyX2, kk9 _, rfl, inX2, rfl, q256, tyX2_ok, nmX2, rfl, by decide +kernel⟩
theorem fpX2_20_9 (vv : Nat) : FP vv RX2 20 9 66 1 (none) (.int) := ⟨3, _, RX2, TX2, tyX2, kk9 _, rfl, inX2, rfl, q259, tyX2_ok, nmX2, rfl, by decide +kernel⟩
theorem fpX2_24_9 (vv : Nat) : FP vv RX2 24 9 66 2 (some (50, none)) (.object "PinEngines$Symbol") := ⟨3, _, RX2, TX2, tyX2, kk9 _, rfl, inX2, rfl, q262, tyX2_ok, nmX2, rfl, by decide +kernel⟩
theorem fpX2_27_9 (vv : Nat) : FP vv RX2 27 9 66 3 (some (50, none)) (.object "PinEngines$Symbol") := ⟨3, _, RX2, TX2, tyX2, kk9 _, rfl, inX2, rfl, q265, tyX2_ok, nmX2, rfl, by decide +kernel⟩
theorem fpX2_30_9 (vv : Nat) : FP vv RX2 30 9 66 4 (some (50, none)) (.object "PinEngines$Symbol") := ⟨3, _, RX2, TX2, tyX2, kk9 _, rfl, inX2, rfl, q268, tyX2_ok, nmX2, rfl, by decide +kernel⟩
theorem fpX2_33_9 (vv : Nat) : FP vv RX2 33 9 66 5 (none) (.int) := ⟨3, _, RX2, TX2, tyX2, kk9 _, rfl, inX2, rfl, q271, tyX2_ok, nmX2, rfl, by decide +kernel⟩
theorem fpX2_36_9 (vv : Nat) : FP vv RX2 36 9 66 6 (none) (.int) := ⟨3, _, RX2, TX2, tyX2, kk9 _, rfl, inX2, rfl, q274, tyX2_ok, nmX2, rfl, by decide +kernel⟩
theorem fpX2_39_9 (vv : Nat) : FP vv RX2 39 9 66 7 (none) (.int) := ⟨3, _, RX2, TX2, tyX2, kk9 _, rfl, inX2, rfl, q277, tyX2_ok, nmX2, rfl, by decide +kernel⟩
theorem fgX2_15_9 (vv : Nat) : FG vv RX2 15 9 66 0 (some (50, none)) := ⟨3, _, RX2, TX2, kk9 _, rfl, inX2, rfl, q256⟩
theorem fgX2_39_9 (vv : Nat) : FG vv RX2 39 9 66 7 (none) := ⟨3, _, RX2, TX2, kk9 _, rfl, inX2, rfl, q277⟩
theorem fgX3_27_12 (vv : Nat) : FG vv RX3 27 12 13 12 (some (17, some (fun n => 2 * n))) := ⟨4, _, RX3, TX3, kk12 _, rfl, inX3, rfl, q596⟩
theorem ag17 (vv : Nat) : AG vv 17 26 0 (fun _ _ => 16) (none) := kk17 _
theorem fgX3_30_12 (vv : Nat) : FG vv RX3 30 12 13 13 (some (17, some (fun n => 2 * n + 1))) := ⟨4, _, RX3, TX3, kk12 _, rfl, inX3, rfl, q598⟩
theorem fpX3_64_12 (vv : Nat) : FP vv RX3 64 12 13 8 (none) (.int) := ⟨4, _, RX3, TX3, tyX3, kk12 _, rfl, inX3, rfl, q591, tyX3_ok, nmX3, rfl, by decide +kernel⟩
theorem fgX3_64_12 (vv : Nat) : FG vv RX3 64 12 13 8 (none) := ⟨4, _, RX3, TX3, kk12 _, rfl, inX3, rfl, q591⟩
theorem fgX3_21_12 (vv : Nat) : FG vv RX3 21 12 13 9 (some (15, some (fun n => n))) := ⟨4, _, RX3, TX3, kk12 _, rfl, inX3, rfl, q593⟩
theorem ag15 (vv : Nat) : AG vv 15 13 0 (fun _ _ => 32) (none) := kk15 _
theorem fgX3_71_12 (vv : Nat) : FG vv RX3 71 12 13 10 (none) := ⟨4, _, RX3, TX3, kk12 _, rfl, inX3, rfl, q594⟩
theorem fpX3_71_12 (vv : Nat) : FP vv RX3 71 12 13 10 (none) (.int) := ⟨4, _, RX3, TX3, tyX3, kk12 _, rfl, inX3, rfl, q594, tyX3_ok, nmX3, rfl, by decide +kernel⟩
theorem fgX3_24_12 (vv : Nat) : FG vv RX3 24 12 13 11 (some (16, some (fun n => n))) := ⟨4, _, RX3, TX3, kk12 _, rfl, inX3, rfl, q595⟩
theorem ag16 (vv : Nat) : AG vv 16 13 0 (fun _ _ => 64) (none) := kk16 _
theorem fgX3_17_12 (vv : Nat) : FG vv RX3 17 12 13 7 (some (14, some (fun n => n))) := ⟨4, _, RX3, TX3, kk12 _, rfl, inX3, rfl, q587⟩
theorem fgX3_38_12 (vv : Nat) : FG vv RX3 38 12 13 1 (none) := ⟨4, _, RX3, TX3, kk12 _, rfl, inX3, rfl, q573⟩
theorem fgX3_41_12 (vv : Nat) : FG vv RX3 41 12 13 2 (none) := ⟨4, _, RX3, TX3, kk12 _, rfl, inX3, rfl, q575⟩
theorem fgX3_49_12 (vv : Nat) : FG vv RX3 49 12 13 3 (none) := ⟨4, _, RX3, TX3, kk12 _, rfl, inX3, rfl, q577⟩
theorem fpX3_38_12 (vv : Nat) : FP vv RX3 38 12 13 1 (none) (.int) := ⟨4, _, RX3, TX3, tyX3, kk12 _, rfl, inX3, rfl, q573, tyX3_ok, nmX3, rfl, by decide +kernel⟩
theorem fpX3_41_12 (vv : Nat) : FP vv RX3 41 12 13 2 (none) (.int) := ⟨4, _, RX3, TX3, tyX3, kk12 _, rfl, inX3, rfl, q575, tyX3_ok, nmX3, rfl, by decide +kernel⟩
theorem fpX3_49_12 (vv : Nat) : FP vv RX3 49 12 13 3 (none) (.int) := ⟨4, _, RX3, TX3, tyX3, kk12 _, rfl, inX3, rfl, q577, tyX3_ok, nmX3, rfl, by decide +kernel⟩
theorem fgX3_34_12 (vv : Nat) : FG vv RX3 34 12 13 0 (none) := ⟨4, _, RX3, TX3, kk12 _, rfl, inX3, rfl, q571⟩
theorem mmX3_driveOutside : MM yX3_driveOutside cX3_driveOutside 3 (none) 2 := ⟨q163, q1445, by decide +kernel, by decide +kernel, by decide +kernel⟩
theorem miX3_driveOutside : MI yX3_driveOutside := ⟨q1443, q1444⟩
theorem rc12 (vv : Nat) : RC vv 12 13 RX3 := ⟨4, _, TX3, _, kk12 _, rfl⟩
theorem fpX3_34_12 (vv : Nat) : FP vv RX3 34 12 13 0 (none) (.int) := ⟨4, _, RX3, TX3, tyX3, kk12 _, rfl, inX3, rfl, q571, tyX3_ok, nmX3, rfl, by decide +kernel⟩
theorem mmX3_levels : MM yX3_levels cX3_levels 1 (some .int) 0 := ⟨q163, q738, by decide +kernel, by decide +kernel, by decide +kernel⟩
theorem miX3_levels : MI yX3_levels := ⟨q736, q737⟩
theorem fgX4_20_5 (vv : Nat) : FG vv RX4 20 5 2 2 (some (6, some (fun n => n))) := ⟨5, _, RX4, TX4, kk5 _, rfl, inX4, rfl, q414⟩
theorem ag6 (vv : Nat) : AG vv 6 2 6 (fun _ _ => 4) (some (some (8, some (fun n k => 4 * n + k)))) := kk6 _
theorem fgX4_9_5 (vv : Nat) : FG vv RX4 9 5 2 0 (none) := ⟨5, _, RX4, TX4, kk5 _, rfl, inX4, rfl, q408⟩
theorem mmX4_isFull : MM yX4_isFull cX4_isFull 1 (some .boolean) 0 := ⟨q159, q1167, by decide +kernel, by decide +kernel, by decide +kernel⟩
theorem miX4_isFull : MI yX4_isFull := ⟨q1165, q1166⟩
theorem rc5 (vv : Nat) : RC vv 5 2 RX4 := ⟨5, _, TX4, _, kk5 _, rfl⟩
theorem fgX4_26_5 (vv : Nat) : FG vv RX4 26 5 2 3 (some (7, some (fun n => n))) := ⟨5, _, RX4, TX4, kk5 _, rfl, inX4, rfl, q419⟩
theorem ag7 (vv : Nat) : AG vv 7 2 5 (fun _ _ => 32) (some (some (9, some (fun n k => 33 * n + k)))) := kk7 _
theorem mmX2_clearTo : MM yX2_clearTo cX2_clearTo 2 (none) 1 := ⟨q160, q1176, by decide +kernel, by decide +kernel, by decide +kernel⟩
theorem miX2_clearTo : MI yX2_clearTo := ⟨q1174, q1175⟩
theorem rc9 (vv : Nat) : RC vv 9 66 RX2 := ⟨3, _, TX2, _, kk9 _, rfl⟩
theorem fpX4_9_5 (vv : Nat) : FP vv RX4 9 5 2 0 (none) (.int) := ⟨5, _, RX4, TX4, tyX4, kk5 _, rfl, inX4, rfl, q408, tyX4_ok, nmX4, rfl, by decide +kernel⟩
theorem fgX4_31_5 (vv : Nat) : FG vv RX4 31 5 2 4 (some (9, some (fun n => 33 * n + 32))) := ⟨5, _, RX4, TX4, kk5 _, rfl, inX4, rfl, q420⟩
theorem fgX4_47_8 (vv : Nat) : FG vv RX4 47 8 8 0 (none) := ⟨9, _, RX8, TX8, kk8 _, rfl, inX8, rfl, q309⟩
theorem fgX4_51_8 (vv : Nat) : FG vv RX4 51 8 8 3 (none) := ⟨9, _, RX8, TX8, kk8 _, rfl, inX8, rfl, q318⟩
theorem fgX4_54_8 (vv : Nat) : FG vv RX4 54 8 8 2 (none) := ⟨9, _, RX8, TX8, kk8 _, rfl, inX8, rfl, q315⟩
theorem mmX12_unsigned : MM yX12_unsigned cX12_unsigned 1 (some .long) 1 := ⟨q155, q1345, by decide +kernel, by decide +kernel, by decide +kernel⟩
theorem inX5 : ∀ w ∈ u_ws RX5 TX5 6, w ∈ tb := u_in (fun k hk => match k, hk with
  | 0, _ => q444
  | 1, _ => q446
  | 2, _ => q448
  | 3, _ => q450
  | 4, _ => q452
  | 5, _ => q454
  | _ + 6, hk => absurd hk (by omega))
theorem fpX5_30_10 (vv : Nat) : FP vv RX5 30 10 1 1 (some (5, none)) (.object "PinEngines$Program") := ⟨6, _, RX5, TX5, tyX5, kk10 _, rfl, inX5, rfl, q439, tyX5_ok, nmX5, rfl, by decide +kernel⟩
theorem fpX5_9_10 (vv : Nat) : FP vv RX5 9 10 1 2 (none) (.boolean) := ⟨6, _, RX5, TX5, tyX5, kk10 _, rfl, inX5, rfl, q440, tyX5_ok, nmX5, rfl, by decide +kernel⟩
theorem fpX5_15_10 (vv : Nat) : FP vv RX5 15 10 1 3 (none) (.int) := ⟨6, _, RX5, TX5, tyX5, kk10 _, rfl, inX5, rfl, q441, tyX5_ok, nmX5, rfl, by decide +kernel⟩
theorem fgX5_26_10 (vv : Nat) : FG vv RX5 26 10 1 0 (some (2, some (fun _ => 0))) := ⟨6, _, RX5, TX5, kk10 _, rfl, inX5, rfl, q438⟩
theorem fpX5_186_8 (vv : Nat) : FP vv RX5 186 8 8 13 (none) (.boolean) := ⟨9, _, RX8, TX8, tyX8, kk8 _, rfl, inX8, rfl, q347, tyX8_ok, nmX8, rfl, by decide +kernel⟩
theorem fpX5_189_8 (vv : Nat) : FP vv RX5 189 8 8 14 (none) (.boolean) := ⟨9, _, RX8, TX8, tyX8, kk8 _, rfl, inX8, rfl, q350, tyX8_ok, nmX8, rfl, by decide +kernel⟩
theorem fpX5_192_8 (vv : Nat) : FP vv RX5 192 8 8 15 (none) (.boolean) := ⟨9, _, RX8, TX8, tyX8, kk8 _, rfl, inX8, rfl, q353, tyX8_ok, nmX8, rfl, by decide +kernel⟩
theorem fgX5_15_10 (vv : Nat) : FG vv RX5 15 10 1 3 (none) := ⟨6, _, RX5, TX5, kk10 _, rfl, inX5, rfl, q441⟩
theorem fgX5_19_10 (vv : Nat) : FG vv RX5 19 10 1 4 (some (11, some (fun _ => 0))) := ⟨6, _, RX5, TX5, kk10 _, rfl, inX5, rfl, q442⟩
theorem ag11 (vv : Nat) : AG vv 11 2 0 (fun _ _ => 32) (none) := kk11 _
theorem fgX5_257_9 (vv : Nat) : FG vv RX5 257 9 66 0 (some (50, none)) := ⟨3, _, RX2, TX2, kk9 _, rfl, inX2, rfl, q258⟩
theorem inX6 : ∀ w ∈ u_ws RX6 TX6 4, w ∈ tb := u_in (fun k hk => match k, hk with
  | 0, _ => q667
  | 1, _ => q669
  | 2, _ => q671
  | 3, _ => q673
  | _ + 4, hk => absurd hk (by omega))
theorem fgX6_18_23 (vv : Nat) : FG vv RX6 18 23 1 0 (some (2, some (fun _ => 0))) := ⟨7, _, RX6, TX6, kk23 _, rfl, inX6, rfl, q663⟩
theorem fgX6_9_23 (vv : Nat) : FG vv RX6 9 23 1 2 (some (24, some (fun _ => 0))) := ⟨7, _, RX6, TX6, kk23 _, rfl, inX6, rfl, q665⟩
theorem ag24 (vv : Nat) : AG vv 24 2 0 (fun _ _ => 4) (none) := kk24 _
theorem fgX6_15_23 (vv : Nat) : FG vv RX6 15 23 1 3 (some (24, some (fun _ => 1))) := ⟨7, _, RX6, TX6, kk23 _, rfl, inX6, rfl, q666⟩
theorem fgX6_162_18 (vv : Nat) : FG vv RX6 162 18 52 12 (some (19, some (fun n => 2 * n + 1))) := ⟨2, _, RX1, TX1, kk18 _, rfl, inX1, rfl, q536⟩
theorem inX7 : ∀ w ∈ u_ws RX7 TX7 4, w ∈ tb := u_in (fun k hk => match k, hk with
  | 0, _ => q483
  | 1, _ => q485
  | 2, _ => q487
  | 3, _ => q489
  | _ + 4, hk => absurd hk (by omega))
theorem fgX6_157_19 (vv : Nat) : FG vv RX6 157 19 104 0 (none) := ⟨8, _, RX7, TX7, kk19 _, rfl, inX7, rfl, q477⟩
theorem fgX6_22_23 (vv : Nat) : FG vv RX6 22 23 1 1 (some (12, some (fun _ => 0))) := ⟨7, _, RX6, TX6, kk23 _, rfl, inX6, rfl, q664⟩
theorem fgX6_109_12 (vv : Nat) : FG vv RX6 109 12 13 7 (some (14, some (fun n => n))) := ⟨4, _, RX3, TX3, kk12 _, rfl, inX3, rfl, q589⟩
theorem fgX6_129_18 (vv : Nat) : FG vv RX6 129 18 52 1 (none) := ⟨2, _, RX1, TX1, kk18 _, rfl, inX1, rfl, q498⟩
theorem fgX6_132_18 (vv : Nat) : FG vv RX6 132 18 52 2 (none) := ⟨2, _, RX1, TX1, kk18 _, rfl, inX1, rfl, q502⟩
theorem fgX6_135_18 (vv : Nat) : FG vv RX6 135 18 52 3 (none) := ⟨2, _, RX1, TX1, kk18 _, rfl, inX1, rfl, q505⟩
theorem fgX6_138_18 (vv : Nat) : FG vv RX6 138 18 52 4 (none) := ⟨2, _, RX1, TX1, kk18 _, rfl, inX1, rfl, q509⟩
theorem fgX6_123_18 (vv : Nat) : FG vv RX6 123 18 52 0 (none) := ⟨2, _, RX1, TX1, kk18 _, rfl, inX1, rfl, q494⟩
theorem fgX6_141_18 (vv : Nat) : FG vv RX6 141 18 52 5 (none) := ⟨2, _, RX1, TX1, kk18 _, rfl, inX1, rfl, q513⟩
theorem fgX6_144_18 (vv : Nat) : FG vv RX6 144 18 52 6 (none) := ⟨2, _, RX1, TX1, kk18 _, rfl, inX1, rfl, q518⟩
theorem fgX6_147_18 (vv : Nat) : FG vv RX6 147 18 52 7 (none) := ⟨2, _, RX1, TX1, kk18 _, rfl, inX1, rfl, q522⟩
theorem fgX6_150_18 (vv : Nat) : FG vv RX6 150 18 52 8 (none) := ⟨2, _, RX1, TX1, kk18 _, rfl, inX1, rfl, q526⟩
theorem fgX6_153_18 (vv : Nat) : FG vv RX6 153 18 52 11 (some (19, some (fun n => 2 * n))) := ⟨2, _, RX1, TX1, kk18 _, rfl, inX1, rfl, q532⟩
theorem fpX7_9_19 (vv : Nat) : FP vv RX7 9 19 104 0 (none) (.int) := ⟨8, _, RX7, TX7, tyX7, kk19 _, rfl, inX7, rfl, q476, tyX7_ok, nmX7, rfl, by decide +kernel⟩
theorem fpX7_18_19 (vv : Nat) : FP vv RX7 18 19 104 2 (none) (.int) := ⟨8, _, RX7, TX7, tyX7, kk19 _, rfl, inX7, rfl, q481, tyX7_ok, nmX7, rfl, by decide +kernel⟩
theorem fpX7_15_19 (vv : Nat) : FP vv RX7 15 19 104 1 (none) (.int) := ⟨8, _, RX7, TX7, tyX7, kk19 _, rfl, inX7, rfl, q480, tyX7_ok, nmX7, rfl, by decide +kernel⟩
theorem fgX7_9_19 (vv : Nat) : FG vv RX7 9 19 104 0 (none) := ⟨8, _, RX7, TX7, kk19 _, rfl, inX7, rfl, q476⟩
theorem fgX7_15_19 (vv : Nat) : FG vv RX7 15 19 104 1 (none) := ⟨8, _, RX7, TX7, kk19 _, rfl, inX7, rfl, q480⟩
theorem fgX7_18_19 (vv : Nat) : FG vv RX7 18 19 104 2 (none) := ⟨8, _, RX7, TX7, kk19 _, rfl, inX7, rfl, q481⟩
theorem fgX7_21_19 (vv : Nat) : FG vv RX7 21 19 104 3 (some (20, some (fun n => n))) := ⟨8, _, RX7, TX7, kk19 _, rfl, inX7, rfl, q482⟩
theorem ag20 (vv : Nat) : AG vv 20 104 0 (fun _ _ => 8) (none) := kk20 _
theorem mmX7_isFull : MM yX7_isFull cX7_isFull 1 (some .boolean) 0 := ⟨q165, q1394, by decide +kernel, by decide +kernel, by decide +kernel⟩
theorem miX7_isFull : MI yX7_isFull := ⟨q1392, q1393⟩
theorem rc19 (vv : Nat) : RC vv 19 104 RX7 := ⟨8, _, TX7, _, kk19 _, rfl⟩
theorem fpX8_14_8 (vv : Nat) : FP vv RX8 14 8 8 0 (none) (.boolean) := ⟨9, _, RX8, TX8, tyX8, kk8 _, rfl, inX8, rfl, q306, tyX8_ok, nmX8, rfl, by decide +kernel⟩
theorem fpX8_18_8 (vv : Nat) : FP vv RX8 18 8 8 1 (none) (.int) := ⟨9, _, RX8, TX8, tyX8, kk8 _, rfl, inX8, rfl, q310, tyX8_ok, nmX8, rfl, by decide +kernel⟩
theorem fpX8_22_8 (vv : Nat) : FP vv RX8 22 8 8 2 (none) (.int) := ⟨9, _, RX8, TX8, tyX8, kk8 _, rfl, inX8, rfl, q313, tyX8_ok, nmX8, rfl, by decide +kernel⟩
theorem fpX8_25_8 (vv : Nat) : FP vv RX8 25 8 8 3 (none) (.int) := ⟨9, _, RX8, TX8, tyX8, kk8 _, rfl, inX8, rfl, q316, tyX8_ok, nmX8, rfl, by decide +kernel⟩
theorem fpX8_28_8 (vv : Nat) : FP vv RX8 28 8 8 4 (none) (.int) := ⟨9, _, RX8, TX8, tyX8, kk8 _, rfl, inX8, rfl, q319, tyX8_ok, nmX8, rfl, by decide +kernel⟩
theorem fpX8_31_8 (vv : Nat) : FP vv RX8 31 8 8 5 (none) (.int) := ⟨9, _, RX8, TX8, tyX8, kk8 _, rfl, inX8, rfl, q322, tyX8_ok, nmX8, rfl, by decide +kernel⟩
theorem fpX8_34_8 (vv : Nat) : FP vv RX8 34 8 8 6 (none) (.int) := ⟨9, _, RX8, TX8, tyX8, kk8 _, rfl, inX8, rfl, q325, tyX8_ok, nmX8, rfl, by decide +kernel⟩
theorem fpX8_37_8 (vv : Nat) : FP vv RX8 37 8 8 7 (none) (.int) := ⟨9, _, RX8, TX8, tyX8, kk8 _, rfl, inX8, rfl, q328, tyX8_ok, nmX8, rfl, by decide +kernel⟩
theorem fpX8_40_8 (vv : Nat) : FP vv RX8 40 8 8 8 (none) (.int) := ⟨9, _, RX8, TX8, tyX8, kk8 _, rfl, inX8, rfl, q331, tyX8_ok, nmX8, rfl, by decide +kernel⟩
theorem fpX8_43_8 (vv : Nat) : FP vv RX8 43 8 8 9 (none) (.int) := ⟨9, _, RX8, TX8, tyX8, kk8 _, rfl, inX8, rfl, q334, tyX8_ok, nmX8, rfl, by decide +kernel⟩
theorem fpX8_46_8 (vv : Nat) : FP vv RX8 46 8 8 10 (none) (.int) := ⟨9, _, RX8, TX8, tyX8, kk8 _, rfl, inX8, rfl, q337, tyX8_ok, nmX8, rfl, by decide +kernel⟩
theorem fpX8_49_8 (vv : Nat) : FP vv RX8 49 8 8 11 (none) (.int) := ⟨9, _, RX8, TX8, tyX8, kk8 _, rfl, inX8, rfl, q340, tyX8_ok, nmX8, rfl, by decide +kernel⟩
theorem fpX8_52_8 (vv : Nat) : FP vv RX8 52 8 8 12 (none) (.int) := ⟨9, _, RX8, TX8, tyX8, kk8 _, rfl, inX8, rfl, q343, tyX8_ok, nmX8, rfl, by decide +kernel⟩
theorem fpX8_55_8 (vv : Nat) : FP vv RX8 55 8 8 13 (none) (.boolean) := ⟨9, _, RX8, TX8, tyX8, kk8 _, rfl, inX8, rfl, q346, tyX8_ok, nmX8, rfl, by decide +kernel⟩
theorem fpX8_58_8 (vv : Nat) : FP vv RX8 58 8 8 14 (none) (.boolean) := ⟨9, _, RX8, TX8, tyX8, kk8 _, rfl, inX8, rfl, q349, tyX8_ok, nmX8, rfl, by decide +kernel⟩
theorem fpX8_61_8 (vv : Nat) : FP vv RX8 61 8 8 15 (none) (.boolean) := ⟨9, _, RX8, TX8, tyX8, kk8 _, rfl, inX8, rfl, q352, tyX8_ok, nmX8, rfl, by decide +kernel⟩
theorem fpX8_64_8 (vv : Nat) : FP vv RX8 64 8 8 16 (none) (.boolean) := ⟨9, _, RX8, TX8, tyX8, kk8 _, rfl, inX8, rfl, q355, tyX8_ok, nmX8, rfl, by decide +kernel⟩
theorem fpX8_67_8 (vv : Nat) : FP vv RX8 67 8 8 17 (none) (.int) := ⟨9, _, RX8, TX8, tyX8, kk8 _, rfl, inX8, rfl, q358, tyX8_ok, nmX8, rfl, by decide +kernel⟩
theorem fpX8_70_8 (vv : Nat) : FP vv RX8 70 8 8 18 (none) (.int) := ⟨9, _, RX8, TX8, tyX8, kk8 _, rfl, inX8, rfl, q361, tyX8_ok, nmX8, rfl, by decide +kernel⟩
theorem fpX8_73_8 (vv : Nat) : FP vv RX8 73 8 8 19 (none) (.int) := ⟨9, _, RX8, TX8, tyX8, kk8 _, rfl, inX8, rfl, q364, tyX8_ok, nmX8, rfl, by decide +kernel⟩
theorem fgX8_73_8 (vv : Nat) : FG vv RX8 73 8 8 19 (none) := ⟨9, _, RX8, TX8, kk8 _, rfl, inX8, rfl, q364⟩
theorem inX9 : ∀ w ∈ u_ws RX9 TX9 7, w ∈ tb := u_in (fun k hk => match k, hk with
  | 0, _ => q642
  | 1, _ => q644
  | 2, _ => q646
  | 3, _ => q648
  | 4, _ => q650
  | 5, _ => q652
  | 6, _ => q654
  | _ + 7, hk => absurd hk (by omega))
theorem fgX9_15_22 (vv : Nat) : FG vv RX9 15 22 1 1 (some (12, none)) := ⟨10, _, RX9, TX9, kk22 _, rfl, inX9, rfl, q636⟩
theorem fgX9_34_22 (vv : Nat) : FG vv RX9 34 22 1 3 (none) := ⟨10, _, RX9, TX9, kk22 _, rfl, inX9, rfl, q638⟩
theorem fgX9_38_22 (vv : Nat) : FG vv RX9 38 22 1 5 (none) := ⟨10, _, RX9, TX9, kk22 _, rfl, inX9, rfl, q640⟩
theorem fgX9_35_22 (vv : Nat) : FG vv RX9 35 22 1 4 (none) := ⟨10, _, RX9, TX9, kk22 _, rfl, inX9, rfl, q639⟩
theorem fpX9_31_12 (vv : Nat) : FP vv RX9 31 12 13 4 (none) (.int) := ⟨4, _, RX3, TX3, tyX3, kk12 _, rfl, inX3, rfl, q579, tyX3_ok, nmX3, rfl, by decide +kernel⟩
theorem mmX3_endCycle : MM yX3_endCycle cX3_endCycle 4 (none) 0 := ⟨q163, q1646, by decide +kernel, by decide +kernel, by decide +kernel⟩
theorem miX3_endCycle : MI yX3_endCycle := ⟨q1644, q1645⟩
theorem fgX9_9_22 (vv : Nat) : FG vv RX9 9 22 1 0 (some (5, none)) := ⟨10, _, RX9, TX9, kk22 _, rfl, inX9, rfl, q634⟩
theorem fgX9_52_5 (vv : Nat) : FG vv RX9 52 5 2 2 (some (6, some (fun n => n))) := ⟨5, _, RX4, TX4, kk5 _, rfl, inX4, rfl, q416⟩
theorem fgX9_65_8 (vv : Nat) : FG vv RX9 65 8 8 0 (none) := ⟨9, _, RX8, TX8, kk8 _, rfl, inX8, rfl, q307⟩
theorem fgX9_48_12 (vv : Nat) : FG vv RX9 48 12 13 7 (some (14, some (fun n => n))) := ⟨4, _, RX3, TX3, kk12 _, rfl, inX3, rfl, q588⟩
theorem mmX1_countCycle : MM yX1_countCycle cX1_countCycle 2 (some .boolean) 1 := ⟨q164, q1489, by decide +kernel, by decide +kernel, by decide +kernel⟩
theorem miX1_countCycle : MI yX1_countCycle := ⟨q1487, q1488⟩
theorem rc18 (vv : Nat) : RC vv 18 52 RX1 := ⟨2, _, TX1, _, kk18 _, rfl⟩
theorem fgX9_77_12 (vv : Nat) : FG vv RX9 77 12 13 5 (none) := ⟨4, _, RX3, TX3, kk12 _, rfl, inX3, rfl, q582⟩
theorem fgX9_84_18 (vv : Nat) : FG vv RX9 84 18 52 7 (none) := ⟨2, _, RX1, TX1, kk18 _, rfl, inX1, rfl, q521⟩
theorem fgX9_87_18 (vv : Nat) : FG vv RX9 87 18 52 0 (none) := ⟨2, _, RX1, TX1, kk18 _, rfl, inX1, rfl, q493⟩
theorem mmX4_instructionAt : MM yX4_instructionAt cX4_instructionAt 2 (some (.object "PinEngines$Instruction")) 1 := ⟨q159, q1501, by decide +kernel, by decide +kernel, by decide +kernel⟩
theorem miX4_instructionAt : MI yX4_instructionAt := ⟨q1499, q1500⟩
theorem mmX2_usesPort : MM yX2_usesPort cX2_usesPort 1 (some .boolean) 0 := ⟨q160, q1505, by decide +kernel, by decide +kernel, by decide +kernel⟩
theorem miX2_usesPort : MI yX2_usesPort := ⟨q1503, q1504⟩
theorem fpX9_104_18 (vv : Nat) : FP vv RX9 104 18 52 8 (none) (.int) := ⟨2, _, RX1, TX1, tyX1, kk18 _, rfl, inX1, rfl, q525, tyX1_ok, nmX1, rfl, by decide +kernel⟩
theorem fgX9_139_9 (vv : Nat) : FG vv RX9 139 9 66 7 (none) := ⟨3, _, RX2, TX2, kk9 _, rfl, inX2, rfl, q278⟩
theorem fpX9_84_18 (vv : Nat) : FP vv RX9 84 18 52 7 (none) (.int) := ⟨2, _, RX1, TX1, tyX1, kk18 _, rfl, inX1, rfl, q521, tyX1_ok, nmX1, rfl, by decide +kernel⟩
theorem fgX9_111_22 (vv : Nat) : FG vv RX9 111 22 1 6 (none) := ⟨10, _, RX9, TX9, kk22 _, rfl, inX9, rfl, q641⟩
theorem fpX9_87_18 (vv : Nat) : FP vv RX9 87 18 52 0 (none) (.int) := ⟨2, _, RX1, TX1, tyX1, kk18 _, rfl, inX1, rfl, q493, tyX1_ok, nmX1, rfl, by decide +kernel⟩
theorem fgX9_100_18 (vv : Nat) : FG vv RX9 100 18 52 13 (some (21, some (fun n => n))) := ⟨2, _, RX1, TX1, kk18 _, rfl, inX1, rfl, q540⟩
theorem fgX9_122_9 (vv : Nat) : FG vv RX9 122 9 66 6 (none) := ⟨3, _, RX2, TX2, kk9 _, rfl, inX2, rfl, q275⟩
theorem fgX9_125_8 (vv : Nat) : FG vv RX9 125 8 8 10 (none) := ⟨9, _, RX8, TX8, kk8 _, rfl, inX8, rfl, q339⟩
theorem fgX9_128_8 (vv : Nat) : FG vv RX9 128 8 8 9 (none) := ⟨9, _, RX8, TX8, kk8 _, rfl, inX8, rfl, q336⟩
theorem mmX12_rotatedPins : MM yX12_rotatedPins cX12_rotatedPins 3 (some .int) 2 := ⟨q155, q1138, by decide +kernel, by decide +kernel, by decide +kernel⟩
theorem mmX3_writeLatches : MM yX3_writeLatches cX3_writeLatches 3 (none) 2 := ⟨q163, q1590, by decide +kernel, by decide +kernel, by decide +kernel⟩
theorem miX3_writeLatches : MI yX3_writeLatches := ⟨q1588, q1589⟩
theorem mmX4_addressAfter : MM yX4_addressAfter cX4_addressAfter 3 (some .int) 2 := ⟨q159, q1517, by decide +kernel, by decide +kernel, by decide +kernel⟩
theorem miX4_addressAfter : MI yX4_addressAfter := ⟨q1515, q1516⟩
theorem fpX9_111_22 (vv : Nat) : FP vv RX9 111 22 1 6 (none) (.int) := ⟨10, _, RX9, TX9, tyX9, kk22 _, rfl, inX9, rfl, q641, tyX9_ok, nmX9, rfl, by decide +kernel⟩
theorem fgX9_145_9 (vv : Nat) : FG vv RX9 145 9 66 0 (some (50, none)) := ⟨3, _, RX2, TX2, kk9 _, rfl, inX2, rfl, q257⟩
theorem fgX9_154_9 (vv : Nat) : FG vv RX9 154 9 66 2 (some (50, none)) := ⟨3, _, RX2, TX2, kk9 _, rfl, inX2, rfl, q263⟩
theorem fgX9_195_18 (vv : Nat) : FG vv RX9 195 18 52 1 (none) := ⟨2, _, RX1, TX1, kk18 _, rfl, inX1, rfl, q497⟩
theorem fgX9_198_18 (vv : Nat) : FG vv RX9 198 18 52 2 (none) := ⟨2, _, RX1, TX1, kk18 _, rfl, inX1, rfl, q501⟩
theorem fpX9_195_18 (vv : Nat) : FP vv RX9 195 18 52 1 (none) (.int) := ⟨2, _, RX1, TX1, tyX1, kk18 _, rfl, inX1, rfl, q497, tyX1_ok, nmX1, rfl, by decide +kernel⟩
theorem fpX9_198_18 (vv : Nat) : FP vv RX9 198 18 52 2 (none) (.int) := ⟨2, _, RX1, TX1, tyX1, kk18 _, rfl, inX1, rfl, q501, tyX1_ok, nmX1, rfl, by decide +kernel⟩
theorem fgX9_28_22 (vv : Nat) : FG vv RX9 28 22 1 2 (none) := ⟨10, _, RX9, TX9, kk22 _, rfl, inX9, rfl, q637⟩
theorem fgX9_201_8 (vv : Nat) : FG vv RX9 201 8 8 12 (none) := ⟨9, _, RX8, TX8, kk8 _, rfl, inX8, rfl, q345⟩
theorem fgX9_204_18 (vv : Nat) : FG vv RX9 204 18 52 6 (none) := ⟨2, _, RX1, TX1, kk18 _, rfl, inX1, rfl, q517⟩
theorem fgX9_207_8 (vv : Nat) : FG vv RX9 207 8 8 18 (none) := ⟨9, _, RX8, TX8, kk8 _, rfl, inX8, rfl, q363⟩
theorem fgX9_161_9 (vv : Nat) : FG vv RX9 161 9 66 5 (none) := ⟨3, _, RX2, TX2, kk9 _, rfl, inX2, rfl, q272⟩
theorem fgX9_216_9 (vv : Nat) : FG vv RX9 216 9 66 1 (none) := ⟨3, _, RX2, TX2, kk9 _, rfl, inX2, rfl, q260⟩
theorem fpX9_38_22 (vv : Nat) : FP vv RX9 38 22 1 5 (none) (.int) := ⟨10, _, RX9, TX9, tyX9, kk22 _, rfl, inX9, rfl, q640, tyX9_ok, nmX9, rfl, by decide +kernel⟩
theorem fgX9_213_8 (vv : Nat) : FG vv RX9 213 8 8 11 (none) := ⟨9, _, RX8, TX8, kk8 _, rfl, inX8, rfl, q342⟩
theorem fpX9_204_18 (vv : Nat) : FP vv RX9 204 18 52 6 (none) (.int) := ⟨2, _, RX1, TX1, tyX1, kk18 _, rfl, inX1, rfl, q517, tyX1_ok, nmX1, rfl, by decide +kernel⟩
theorem fgX9_237_18 (vv : Nat) : FG vv RX9 237 18 52 12 (some (19, some (fun n => 2 * n + 1))) := ⟨2, _, RX1, TX1, kk18 _, rfl, inX1, rfl, q537⟩
theorem fgX9_282_9 (vv : Nat) : FG vv RX9 282 9 66 4 (some (50, none)) := ⟨3, _, RX2, TX2, kk9 _, rfl, inX2, rfl, q269⟩
theorem mmX1_setIsr : MM yX1_setIsr cX1_setIsr 3 (none) 2 := ⟨q164, q1566, by decide +kernel, by decide +kernel, by decide +kernel⟩
theorem miX1_setIsr : MI yX1_setIsr := ⟨q1564, q1565⟩
theorem fgX9_261_18 (vv : Nat) : FG vv RX9 261 18 52 11 (some (19, some (fun n => 2 * n))) := ⟨2, _, RX1, TX1, kk18 _, rfl, inX1, rfl, q533⟩
theorem fgX9_264_19 (vv : Nat) : FG vv RX9 264 19 104 0 (none) := ⟨8, _, RX7, TX7, kk19 _, rfl, inX7, rfl, q478⟩
theorem mmX1_setOsr : MM yX1_setOsr cX1_setOsr 2 (none) 1 := ⟨q164, q1536, by decide +kernel, by decide +kernel, by decide +kernel⟩
theorem miX1_setOsr : MI yX1_setOsr := ⟨q1534, q1535⟩
theorem fgX9_104_18 (vv : Nat) : FG vv RX9 104 18 52 8 (none) := ⟨2, _, RX1, TX1, kk18 _, rfl, inX1, rfl, q525⟩
theorem fpX9_35_22 (vv : Nat) : FP vv RX9 35 22 1 4 (none) (.int) := ⟨10, _, RX9, TX9, tyX9, kk22 _, rfl, inX9, rfl, q639, tyX9_ok, nmX9, rfl, by decide +kernel⟩
theorem fgX9_295_8 (vv : Nat) : FG vv RX9 295 8 8 7 (none) := ⟨9, _, RX8, TX8, kk8 _, rfl, inX8, rfl, q330⟩
theorem fgX9_252_18 (vv : Nat) : FG vv RX9 252 18 52 3 (none) := ⟨2, _, RX1, TX1, kk18 _, rfl, inX1, rfl, q506⟩
theorem fgX9_270_18 (vv : Nat) : FG vv RX9 270 18 52 4 (none) := ⟨2, _, RX1, TX1, kk18 _, rfl, inX1, rfl, q510⟩
theorem fgX9_343_8 (vv : Nat) : FG vv RX9 343 8 8 6 (none) := ⟨9, _, RX8, TX8, kk8 _, rfl, inX8, rfl, q327⟩
theorem fgX9_346_8 (vv : Nat) : FG vv RX9 346 8 8 5 (none) := ⟨9, _, RX8, TX8, kk8 _, rfl, inX8, rfl, q324⟩
theorem mmX3_writeOutputs : MM yX3_writeOutputs cX3_writeOutputs 3 (none) 2 := ⟨q163, q1594, by decide +kernel, by decide +kernel, by decide +kernel⟩
theorem miX3_writeOutputs : MI yX3_writeOutputs := ⟨q1592, q1593⟩
theorem mmX4_addressOf : MM yX4_addressOf cX4_addressOf 2 (some .int) 1 := ⟨q159, q1598, by decide +kernel, by decide +kernel, by decide +kernel⟩
theorem miX4_addressOf : MI yX4_addressOf := ⟨q1596, q1597⟩
theorem inX11 : ∀ w ∈ u_ws RX11 TX11 9, w ∈ tb := u_in (fun k hk => match k, hk with
  | 0, _ => q218
  | 1, _ => q220
  | 2, _ => q222
  | 3, _ => q224
  | 4, _ => q226
  | 5, _ => q228
  | 6, _ => q230
  | 7, _ => q232
  | 8, _ => q234
  | _ + 9, hk => absurd hk (by omega))
theorem fgX11_11_2 (vv : Nat) : FG vv RX11 11 2 1 1 (some (3, some (fun _ => 0))) := ⟨12, _, RX11, TX11, kk2 _, rfl, inX11, rfl, q206⟩
theorem fgX11_27_2 (vv : Nat) : FG vv RX11 27 2 1 5 (none) := ⟨12, _, RX11, TX11, kk2 _, rfl, inX11, rfl, q210⟩
theorem ag3 (vv : Nat) : AG vv 3 1 8 (fun _ _ => 1001) (some (some (50, none))) := kk3 _
theorem fgX11_17_2 (vv : Nat) : FG vv RX11 17 2 1 2 (some (4, some (fun _ => 0))) := ⟨12, _, RX11, TX11, kk2 _, rfl, inX11, rfl, q207⟩
theorem ag4 (vv : Nat) : AG vv 4 3 0 (fun _ _ => 1001) (none) := kk4 _
theorem fgX11_21_2 (vv : Nat) : FG vv RX11 21 2 1 3 (some (4, some (fun _ => 1))) := ⟨12, _, RX11, TX11, kk2 _, rfl, inX11, rfl, q208⟩
theorem fpX11_31_2 (vv : Nat) : FP vv RX11 31 2 1 6 (none) (.int) := ⟨12, _, RX11, TX11, tyX11, kk2 _, rfl, inX11, rfl, q211, tyX11_ok, nmX11, rfl, by decide +kernel⟩
theorem fgX11_34_2 (vv : Nat) : FG vv RX11 34 2 1 7 (none) := ⟨12, _, RX11, TX11, kk2 _, rfl, inX11, rfl, q213⟩
theorem fpX11_34_2 (vv : Nat) : FP vv RX11 34 2 1 7 (none) (.int) := ⟨12, _, RX11, TX11, tyX11, kk2 _, rfl, inX11, rfl, q213, tyX11_ok, nmX11, rfl, by decide +kernel⟩
theorem fgX11_31_2 (vv : Nat) : FG vv RX11 31 2 1 6 (none) := ⟨12, _, RX11, TX11, kk2 _, rfl, inX11, rfl, q211⟩
theorem fpX11_37_2 (vv : Nat) : FP vv RX11 37 2 1 8 (none) (.int) := ⟨12, _, RX11, TX11, tyX11, kk2 _, rfl, inX11, rfl, q216, tyX11_ok, nmX11, rfl, by decide +kernel⟩
theorem mmX11_at : MM yX11_at cX11_at 2 (some .boolean) 1 := ⟨q156, q1049, by decide +kernel, by decide +kernel, by decide +kernel⟩
theorem miX11_at : MI yX11_at := ⟨q1047, q1048⟩
theorem rc2 (vv : Nat) : RC vv 2 1 RX11 := ⟨12, _, TX11, _, kk2 _, rfl⟩
theorem fgX11_24_2 (vv : Nat) : FG vv RX11 24 2 1 4 (some (4, some (fun _ => 2))) := ⟨12, _, RX11, TX11, kk2 _, rfl, inX11, rfl, q209⟩
theorem mmX11_skip : MM yX11_skip cX11_skip 2 (some .boolean) 1 := ⟨q156, q1055, by decide +kernel, by decide +kernel, by decide +kernel⟩
theorem miX11_skip : MI yX11_skip := ⟨q1053, q1054⟩
theorem mmX11_fail : MM yX11_fail cX11_fail 2 (none) 1 := ⟨q156, q1076, by decide +kernel, by decide +kernel, by decide +kernel⟩
theorem miX11_fail : MI yX11_fail := ⟨q1074, q1075⟩
theorem mmX11_atRole : MM yX11_atRole cX11_atRole 2 (some .boolean) 1 := ⟨q156, q1105, by decide +kernel, by decide +kernel, by decide +kernel⟩
theorem miX11_atRole : MI yX11_atRole := ⟨q1103, q1104⟩
theorem mmX11_takeOptional : MM yX11_takeOptional cX11_takeOptional 2 (some (.object "PinEngines$Symbol")) 1 := ⟨q156, q1113, by decide +kernel, by decide +kernel, by decide +kernel⟩
theorem miX11_takeOptional : MI yX11_takeOptional := ⟨q1111, q1112⟩
theorem fgX11_40_2 (vv : Nat) : FG vv RX11 40 2 1 0 (some (1, some (fun _ => 0))) := ⟨12, _, RX11, TX11, kk2 _, rfl, inX11, rfl, q205⟩
theorem fpX11_27_2 (vv : Nat) : FP vv RX11 27 2 1 5 (none) (.int) := ⟨12, _, RX11, TX11, tyX11, kk2 _, rfl, inX11, rfl, q210, tyX11_ok, nmX11, rfl, by decide +kernel⟩
theorem mmX12_appendBytes : MM yX12_appendBytes cX12_appendBytes 3 (none) 1 := ⟨q155, q798, by decide +kernel, by decide +kernel, by decide +kernel⟩
theorem miX12_appendBytes : MI yX12_appendBytes := ⟨q797, q0⟩
theorem rc0 (vv : Nat) : RC vv 0 1 RX12 := ⟨13, _, TX12, _, kk0 _, rfl⟩
theorem mmX4_engineMask : MM yX4_engineMask cX4_engineMask 3 (some .int) 0 := ⟨q159, q814, by decide +kernel, by decide +kernel, by decide +kernel⟩
theorem miX4_engineMask : MI yX4_engineMask := ⟨q812, q813⟩
theorem mmX12_checkPin : MM yX12_checkPin cX12_checkPin 1 (none) 1 := ⟨q155, q1219, by decide +kernel, by decide +kernel, by decide +kernel⟩
theorem fgX12_140_12 (vv : Nat) : FG vv RX12 140 12 13 1 (none) := ⟨4, _, RX3, TX3, kk12 _, rfl, inX3, rfl, q574⟩
theorem fgX12_143_12 (vv : Nat) : FG vv RX12 143 12 13 2 (none) := ⟨4, _, RX3, TX3, kk12 _, rfl, inX3, rfl, q576⟩
theorem mmX12_checkMemory : MM yX12_checkMemory cX12_checkMemory 1 (none) 1 := ⟨q155, q1266, by decide +kernel, by decide +kernel, by decide +kernel⟩
theorem fgX12_155_12 (vv : Nat) : FG vv RX12 155 12 13 6 (some (13, some (fun n => n))) := ⟨4, _, RX3, TX3, kk12 _, rfl, inX3, rfl, q585⟩
theorem ag13 (vv : Nat) : AG vv 13 13 0 (fun _ _ => 16) (none) := kk13 _
theorem mmX3_levelsAfter : MM yX3_levelsAfter cX3_levelsAfter 2 (some .int) 1 := ⟨q163, q1365, by decide +kernel, by decide +kernel, by decide +kernel⟩
theorem miX3_levelsAfter : MI yX3_levelsAfter := ⟨q1363, q1364⟩
theorem fgX12_223_12 (vv : Nat) : FG vv RX12 223 12 13 12 (some (17, some (fun n => 2 * n))) := ⟨4, _, RX3, TX3, kk12 _, rfl, inX3, rfl, q597⟩
theorem mmX3_highCycles : MM yX3_highCycles cX3_highCycles 3 (some .int) 1 := ⟨q163, q1383, by decide +kernel, by decide +kernel, by decide +kernel⟩
theorem miX3_highCycles : MI yX3_highCycles := ⟨q1381, q1382⟩
theorem mmX12_checkLevel : MM yX12_checkLevel cX12_checkLevel 1 (none) 1 := ⟨q155, q1441, by decide +kernel, by decide +kernel, by decide +kernel⟩
theorem fgX12_260_12 (vv : Nat) : FG vv RX12 260 12 13 8 (none) := ⟨4, _, RX3, TX3, kk12 _, rfl, inX3, rfl, q592⟩
theorem mmX12_checkAddress : MM yX12_checkAddress cX12_checkAddress 2 (none) 1 := ⟨q155, q1667, by decide +kernel, by decide +kernel, by decide +kernel⟩
theorem miX12_checkAddress : MI yX12_checkAddress := ⟨q1666, q40⟩
theorem mmX4_hasEngine : MM yX4_hasEngine cX4_hasEngine 2 (some .boolean) 1 := ⟨q159, q1072, by decide +kernel, by decide +kernel, by decide +kernel⟩
theorem miX4_hasEngine : MI yX4_hasEngine := ⟨q1070, q1071⟩
theorem fgX12_195_18 (vv : Nat) : FG vv RX12 195 18 52 10 (none) := ⟨2, _, RX1, TX1, kk18 _, rfl, inX1, rfl, q530⟩
theorem mmX12_existingEngine : MM yX12_existingEngine cX12_existingEngine 2 (some (.object "PinEngines$Engine")) 1 := ⟨q155, q1277, by decide +kernel, by decide +kernel, by decide +kernel⟩
theorem miX12_existingEngine : MI yX12_existingEngine := ⟨q1276, q20⟩
theorem fgX12_351_18 (vv : Nat) : FG vv RX12 351 18 52 11 (some (19, some (fun n => 2 * n))) := ⟨2, _, RX1, TX1, kk18 _, rfl, inX1, rfl, q534⟩
theorem fgX12_347_18 (vv : Nat) : FG vv RX12 347 18 52 12 (some (19, some (fun n => 2 * n + 1))) := ⟨2, _, RX1, TX1, kk18 _, rfl, inX1, rfl, q538⟩
theorem mmX13_nextAddress : MM yX13_nextAddress cX13_nextAddress 3 (some .int) 1 := ⟨q173, q2567, by decide +kernel, by decide +kernel, by decide +kernel⟩
theorem miX13_nextAddress : MI yX13_nextAddress := ⟨q2566, q95⟩
theorem mmX13_jump : MM yX13_jump cX13_jump 3 (some .int) 2 := ⟨q173, q2484, by decide +kernel, by decide +kernel, by decide +kernel⟩
theorem miX13_jump : MI yX13_jump := ⟨q2483, q76⟩
theorem mmX13_waitFor : MM yX13_waitFor cX13_waitFor 6 (some .int) 2 := ⟨q173, q2496, by decide +kernel, by decide +kernel, by decide +kernel⟩
theorem miX13_waitFor : MI yX13_waitFor := ⟨q2495, q79⟩
theorem mmX13_lowest : MM yX13_lowest cX13_lowest 2 (some .int) 2 := ⟨q173, q2511, by decide +kernel, by decide +kernel, by decide +kernel⟩
theorem mmX13_appendShifted : MM yX13_appendShifted cX13_appendShifted 2 (none) 1 := ⟨q173, q2516, by decide +kernel, by decide +kernel, by decide +kernel⟩
theorem miX13_appendShifted : MI yX13_appendShifted := ⟨q2515, q83⟩
theorem mmX13_record : MM yX13_record cX13_record 2 (none) 0 := ⟨q173, q2375, by decide +kernel, by decide +kernel, by decide +kernel⟩
theorem miX13_record : MI yX13_record := ⟨q2374, q57⟩
theorem mmX7_clear : MM yX7_clear cX7_clear 2 (none) 1 := ⟨q165, q724, by decide +kernel, by decide +kernel, by decide +kernel⟩
theorem miX7_clear : MI yX7_clear := ⟨q722, q723⟩
theorem mmX8_outputRoom : MM yX8_outputRoom cX8_outputRoom 1 (some .int) 0 := ⟨q161, q734, by decide +kernel, by decide +kernel, by decide +kernel⟩
theorem miX8_outputRoom : MI yX8_outputRoom := ⟨q732, q733⟩
theorem rc8 (vv : Nat) : RC vv 8 8 RX8 := ⟨9, _, TX8, _, kk8 _, rfl⟩
theorem mmX7_copyFrom : MM yX7_copyFrom cX7_copyFrom 2 (none) 1 := ⟨q165, q884, by decide +kernel, by decide +kernel, by decide +kernel⟩
theorem miX7_copyFrom : MI yX7_copyFrom := ⟨q882, q883⟩
theorem mmX7_append : MM yX7_append cX7_append 2 (none) 1 := ⟨q165, q1403, by decide +kernel, by decide +kernel, by decide +kernel⟩
theorem miX7_append : MI yX7_append := ⟨q1401, q1402⟩
theorem mmX7_removeFirst : MM yX7_removeFirst cX7_removeFirst 2 (some .int) 0 := ⟨q165, q1416, by decide +kernel, by decide +kernel, by decide +kernel⟩
theorem miX7_removeFirst : MI yX7_removeFirst := ⟨q1414, q1415⟩
theorem fgX3_56_5 (vv : Nat) : FG vv RX3 56 5 2 2 (some (6, some (fun n => n))) := ⟨5, _, RX4, TX4, kk5 _, rfl, inX4, rfl, q415⟩
theorem mmX1_copyFrom : MM yX1_copyFrom cX1_copyFrom 2 (none) 1 := ⟨q164, q880, by decide +kernel, by decide +kernel, by decide +kernel⟩
theorem miX1_copyFrom : MI yX1_copyFrom := ⟨q878, q879⟩
theorem fgX3_50_12 (vv : Nat) : FG vv RX3 50 12 13 4 (none) := ⟨4, _, RX3, TX3, kk12 _, rfl, inX3, rfl, q578⟩
theorem fpX3_50_12 (vv : Nat) : FP vv RX3 50 12 13 4 (none) (.int) := ⟨4, _, RX3, TX3, tyX3, kk12 _, rfl, inX3, rfl, q578, tyX3_ok, nmX3, rfl, by decide +kernel⟩
theorem fgX3_53_12 (vv : Nat) : FG vv RX3 53 12 13 5 (none) := ⟨4, _, RX3, TX3, kk12 _, rfl, inX3, rfl, q581⟩
theorem fpX3_53_12 (vv : Nat) : FP vv RX3 53 12 13 5 (none) (.int) := ⟨4, _, RX3, TX3, tyX3, kk12 _, rfl, inX3, rfl, q581, tyX3_ok, nmX3, rfl, by decide +kernel⟩
theorem fgX3_9_12 (vv : Nat) : FG vv RX3 9 12 13 6 (some (13, some (fun n => n))) := ⟨4, _, RX3, TX3, kk12 _, rfl, inX3, rfl, q584⟩
theorem mmX8_clear : MM yX8_clear cX8_clear 1 (none) 0 := ⟨q161, q305, by decide +kernel, by decide +kernel, by decide +kernel⟩
theorem miX8_clear : MI yX8_clear := ⟨q303, q304⟩
theorem fpX4_15_5 (vv : Nat) : FP vv RX4 15 5 2 1 (none) (.int) := ⟨5, _, RX4, TX4, tyX4, kk5 _, rfl, inX4, rfl, q411, tyX4_ok, nmX4, rfl, by decide +kernel⟩
theorem mmX11_expect : MM yX11_expect cX11_expect 2 (none) 1 := ⟨q156, q1087, by decide +kernel, by decide +kernel, by decide +kernel⟩
theorem miX11_expect : MI yX11_expect := ⟨q1085, q1086⟩
theorem mmX11_takeRole : MM yX11_takeRole cX11_takeRole 3 (some (.object "PinEngines$Symbol")) 1 := ⟨q156, q1109, by decide +kernel, by decide +kernel, by decide +kernel⟩
theorem miX11_takeRole : MI yX11_takeRole := ⟨q1107, q1108⟩
theorem mmX11_takeNumber : MM yX11_takeNumber cX11_takeNumber 4 (some .int) 2 := ⟨q156, q1080, by decide +kernel, by decide +kernel, by decide +kernel⟩
theorem miX11_takeNumber : MI yX11_takeNumber := ⟨q1078, q1079⟩
theorem fpX5_144_8 (vv : Nat) : FP vv RX5 144 8 8 4 (none) (.int) := ⟨9, _, RX8, TX8, tyX8, kk8 _, rfl, inX8, rfl, q321, tyX8_ok, nmX8, rfl, by decide +kernel⟩
theorem fgX5_144_8 (vv : Nat) : FG vv RX5 144 8 8 4 (none) := ⟨9, _, RX8, TX8, kk8 _, rfl, inX8, rfl, q321⟩
theorem fpX5_195_8 (vv : Nat) : FP vv RX5 195 8 8 17 (none) (.int) := ⟨9, _, RX8, TX8, tyX8, kk8 _, rfl, inX8, rfl, q359, tyX8_ok, nmX8, rfl, by decide +kernel⟩
theorem fpX5_198_8 (vv : Nat) : FP vv RX5 198 8 8 16 (none) (.boolean) := ⟨9, _, RX8, TX8, tyX8, kk8 _, rfl, inX8, rfl, q356, tyX8_ok, nmX8, rfl, by decide +kernel⟩
theorem fpX5_201_8 (vv : Nat) : FP vv RX5 201 8 8 18 (none) (.int) := ⟨9, _, RX8, TX8, tyX8, kk8 _, rfl, inX8, rfl, q362, tyX8_ok, nmX8, rfl, by decide +kernel⟩
theorem fpX5_204_8 (vv : Nat) : FP vv RX5 204 8 8 19 (none) (.int) := ⟨9, _, RX8, TX8, tyX8, kk8 _, rfl, inX8, rfl, q366, tyX8_ok, nmX8, rfl, by decide +kernel⟩
theorem fgX5_9_10 (vv : Nat) : FG vv RX5 9 10 1 2 (none) := ⟨6, _, RX5, TX5, kk10 _, rfl, inX5, rfl, q440⟩
theorem mmX11_isSameAs : MM yX11_isSameAs cX11_isSameAs 4 (some .boolean) 1 := ⟨q156, q1101, by decide +kernel, by decide +kernel, by decide +kernel⟩
theorem miX11_isSameAs : MI yX11_isSameAs := ⟨q1099, q1100⟩
theorem fgX5_23_10 (vv : Nat) : FG vv RX5 23 10 1 5 (some (11, some (fun _ => 1))) := ⟨6, _, RX5, TX5, kk10 _, rfl, inX5, rfl, q443⟩
theorem fpX5_254_9 (vv : Nat) : FP vv RX5 254 9 66 7 (none) (.int) := ⟨3, _, RX2, TX2, tyX2, kk9 _, rfl, inX2, rfl, q279, tyX2_ok, nmX2, rfl, by decide +kernel⟩
theorem fgX5_30_10 (vv : Nat) : FG vv RX5 30 10 1 1 (some (5, none)) := ⟨6, _, RX5, TX5, kk10 _, rfl, inX5, rfl, q439⟩
theorem mmX4_add : MM yX4_add cX4_add 3 (some (.object "PinEngines$Instruction")) 1 := ⟨q159, q1171, by decide +kernel, by decide +kernel, by decide +kernel⟩
theorem miX4_add : MI yX4_add := ⟨q1169, q1170⟩
theorem fpX5_263_9 (vv : Nat) : FP vv RX5 263 9 66 2 (some (50, none)) (.object "PinEngines$Symbol") := ⟨3, _, RX2, TX2, tyX2, kk9 _, rfl, inX2, rfl, q264, tyX2_ok, nmX2, rfl, by decide +kernel⟩
theorem fpX5_290_9 (vv : Nat) : FP vv RX5 290 9 66 4 (some (50, none)) (.object "PinEngines$Symbol") := ⟨3, _, RX2, TX2, tyX2, kk9 _, rfl, inX2, rfl, q270, tyX2_ok, nmX2, rfl, by decide +kernel⟩
theorem fgX5_290_9 (vv : Nat) : FG vv RX5 290 9 66 4 (some (50, none)) := ⟨3, _, RX2, TX2, kk9 _, rfl, inX2, rfl, q270⟩
theorem fpX5_266_9 (vv : Nat) : FP vv RX5 266 9 66 5 (none) (.int) := ⟨3, _, RX2, TX2, tyX2, kk9 _, rfl, inX2, rfl, q273, tyX2_ok, nmX2, rfl, by decide +kernel⟩
theorem mmX5_labelAddress : MM yX5_labelAddress cX5_labelAddress 2 (some .int) 0 := ⟨q162, q1097, by decide +kernel, by decide +kernel, by decide +kernel⟩
theorem miX5_labelAddress : MI yX5_labelAddress := ⟨q1096, q7⟩
theorem rc10 (vv : Nat) : RC vv 10 1 RX5 := ⟨6, _, TX5, _, kk10 _, rfl⟩
theorem mmX6_compares : MM yX6_compares cX6_compares 3 (some .boolean) 3 := ⟨q167, q1984, by decide +kernel, by decide +kernel, by decide +kernel⟩
theorem mmX6_propertyOf : MM yX6_propertyOf cX6_propertyOf 4 (some .int) 2 := ⟨q167, q1977, by decide +kernel, by decide +kernel, by decide +kernel⟩
theorem miX6_propertyOf : MI yX6_propertyOf := ⟨q1976, q47⟩
theorem rc23 (vv : Nat) : RC vv 23 1 RX6 := ⟨7, _, TX6, _, kk23 _, rfl⟩
theorem mmX9_wantsPort : MM yX9_wantsPort cX9_wantsPort 2 (some .boolean) 1 := ⟨q166, q1497, by decide +kernel, by decide +kernel, by decide +kernel⟩
theorem miX9_wantsPort : MI yX9_wantsPort := ⟨q1496, q25⟩
theorem rc22 (vv : Nat) : RC vv 22 1 RX9 := ⟨10, _, TX9, _, kk22 _, rfl⟩
theorem fpX9_77_12 (vv : Nat) : FP vv RX9 77 12 13 5 (none) (.int) := ⟨4, _, RX3, TX3, tyX3, kk12 _, rfl, inX3, rfl, q582, tyX3_ok, nmX3, rfl, by decide +kernel⟩
theorem mmX9_holds : MM yX9_holds cX9_holds 4 (some .boolean) 3 := ⟨q166, q1546, by decide +kernel, by decide +kernel, by decide +kernel⟩
theorem miX9_holds : MI yX9_holds := ⟨q1545, q29⟩
theorem mmX9_awaitLevel : MM yX9_awaitLevel cX9_awaitLevel 4 (some .int) 2 := ⟨q166, q1550, by decide +kernel, by decide +kernel, by decide +kernel⟩
theorem miX9_awaitLevel : MI yX9_awaitLevel := ⟨q1549, q30⟩
theorem mmX1_pushIsr : MM yX1_pushIsr cX1_pushIsr 1 (none) 0 := ⟨q164, q1570, by decide +kernel, by decide +kernel, by decide +kernel⟩
theorem miX1_pushIsr : MI yX1_pushIsr := ⟨q1568, q1569⟩
theorem fgX9_249_8 (vv : Nat) : FG vv RX9 249 8 8 13 (none) := ⟨9, _, RX8, TX8, kk8 _, rfl, inX8, rfl, q348⟩
theorem mmX9_sourceWord : MM yX9_sourceWord cX9_sourceWord 4 (some .int) 3 := ⟨q166, q1559, by decide +kernel, by decide +kernel, by decide +kernel⟩
theorem miX9_sourceWord : MI yX9_sourceWord := ⟨q1558, q32⟩
theorem fgX9_223_18 (vv : Nat) : FG vv RX9 223 18 52 5 (none) := ⟨2, _, RX1, TX1, kk18 _, rfl, inX1, rfl, q514⟩
theorem fgX9_231_8 (vv : Nat) : FG vv RX9 231 8 8 15 (none) := ⟨9, _, RX8, TX8, kk8 _, rfl, inX8, rfl, q354⟩
theorem fgX9_234_8 (vv : Nat) : FG vv RX9 234 8 8 17 (none) := ⟨9, _, RX8, TX8, kk8 _, rfl, inX8, rfl, q360⟩
theorem mmX9_deliver : MM yX9_deliver cX9_deliver 5 (none) 4 := ⟨q166, q1586, by decide +kernel, by decide +kernel, by decide +kernel⟩
theorem miX9_deliver : MI yX9_deliver := ⟨q1585, q34⟩
theorem fpX9_223_18 (vv : Nat) : FP vv RX9 223 18 52 5 (none) (.int) := ⟨2, _, RX1, TX1, tyX1, kk18 _, rfl, inX1, rfl, q514, tyX1_ok, nmX1, rfl, by decide +kernel⟩
theorem fgX9_273_8 (vv : Nat) : FG vv RX9 273 8 8 14 (none) := ⟨9, _, RX8, TX8, kk8 _, rfl, inX8, rfl, q351⟩
theorem fpX9_270_18 (vv : Nat) : FP vv RX9 270 18 52 4 (none) (.int) := ⟨2, _, RX1, TX1, tyX1, kk18 _, rfl, inX1, rfl, q510, tyX1_ok, nmX1, rfl, by decide +kernel⟩
theorem fgX9_258_8 (vv : Nat) : FG vv RX9 258 8 8 16 (none) := ⟨9, _, RX8, TX8, kk8 _, rfl, inX8, rfl, q357⟩
theorem mmX1_pullOsr : MM yX1_pullOsr cX1_pullOsr 1 (none) 0 := ⟨q164, q1580, by decide +kernel, by decide +kernel, by decide +kernel⟩
theorem miX1_pullOsr : MI yX1_pullOsr := ⟨q1578, q1579⟩
theorem fgX9_301_8 (vv : Nat) : FG vv RX9 301 8 8 8 (none) := ⟨9, _, RX8, TX8, kk8 _, rfl, inX8, rfl, q333⟩
theorem mmX9_placeOf : MM yX9_placeOf cX9_placeOf 2 (some .int) 2 := ⟨q166, q1524, by decide +kernel, by decide +kernel, by decide +kernel⟩
theorem fgX9_316_12 (vv : Nat) : FG vv RX9 316 12 13 6 (some (13, some (fun n => n))) := ⟨4, _, RX3, TX3, kk12 _, rfl, inX3, rfl, q586⟩
theorem mmX9_storedWord : MM yX9_storedWord cX9_storedWord 2 (some .int) 2 := ⟨q166, q1532, by decide +kernel, by decide +kernel, by decide +kernel⟩
theorem fgX9_329_9 (vv : Nat) : FG vv RX9 329 9 66 3 (some (50, none)) := ⟨3, _, RX2, TX2, kk9 _, rfl, inX2, rfl, q267⟩
theorem mmX10_isSpelled : MM yX10_isSpelled cX10_isSpelled 5 (some .boolean) 3 := ⟨q158, q995, by decide +kernel, by decide +kernel, by decide +kernel⟩
theorem miX10_isSpelled : MI yX10_isSpelled := ⟨q993, q3⟩
theorem mmX11_rewind : MM yX11_rewind cX11_rewind 1 (none) 0 := ⟨q156, q1030, by decide +kernel, by decide +kernel, by decide +kernel⟩
theorem miX11_rewind : MI yX11_rewind := ⟨q1028, q1029⟩
theorem mmX11_isDigit : MM yX11_isDigit cX11_isDigit 1 (some .boolean) 1 := ⟨q156, q979, by decide +kernel, by decide +kernel, by decide +kernel⟩
theorem mmX10_spelled : MM yX10_spelled cX10_spelled 5 (some (.object "PinEngines$Symbol")) 4 := ⟨q158, q988, by decide +kernel, by decide +kernel, by decide +kernel⟩
theorem mmX11_isLetter : MM yX11_isLetter cX11_isLetter 1 (some .boolean) 1 := ⟨q156, q983, by decide +kernel, by decide +kernel, by decide +kernel⟩
theorem mmJ6_reverseBytes_0f7a4 : MM yJ6_reverseBytes_0f7a4 cJ6_reverseBytes_0f7a4 1 (some .int) 1 := ⟨q184, q1629, by decide +kernel, by decide +kernel, by decide +kernel⟩
theorem fgX12_166_18 (vv : Nat) : FG vv RX12 166 18 52 0 (none) := ⟨2, _, RX1, TX1, kk18 _, rfl, inX1, rfl, q495⟩
theorem fgX12_171_18 (vv : Nat) : FG vv RX12 171 18 52 1 (none) := ⟨2, _, RX1, TX1, kk18 _, rfl, inX1, rfl, q499⟩
theorem fgX12_174_18 (vv : Nat) : FG vv RX12 174 18 52 2 (none) := ⟨2, _, RX1, TX1, kk18 _, rfl, inX1, rfl, q503⟩
theorem fgX12_177_18 (vv : Nat) : FG vv RX12 177 18 52 3 (none) := ⟨2, _, RX1, TX1, kk18 _, rfl, inX1, rfl, q507⟩
theorem fgX12_180_18 (vv : Nat) : FG vv RX12 180 18 52 4 (none) := ⟨2, _, RX1, TX1, kk18 _, rfl, inX1, rfl, q511⟩
theorem fgX12_183_18 (vv : Nat) : FG vv RX12 183 18 52 5 (none) := ⟨2, _, RX1, TX1, kk18 _, rfl, inX1, rfl, q515⟩
theorem fgX12_186_18 (vv : Nat) : FG vv RX12 186 18 52 6 (none) := ⟨2, _, RX1, TX1, kk18 _, rfl, inX1, rfl, q519⟩
theorem fgX12_189_18 (vv : Nat) : FG vv RX12 189 18 52 7 (none) := ⟨2, _, RX1, TX1, kk18 _, rfl, inX1, rfl, q523⟩
theorem fgX12_192_18 (vv : Nat) : FG vv RX12 192 18 52 8 (none) := ⟨2, _, RX1, TX1, kk18 _, rfl, inX1, rfl, q527⟩
theorem mmX12_existingQueue : MM yX12_existingQueue cX12_existingQueue 4 (some (.object "PinEngines$Queue")) 2 := ⟨q155, q1331, by decide +kernel, by decide +kernel, by decide +kernel⟩
theorem miX12_existingQueue : MI yX12_existingQueue := ⟨q1330, q21⟩
theorem fgX12_202_19 (vv : Nat) : FG vv RX12 202 19 104 0 (none) := ⟨8, _, RX7, TX7, kk19 _, rfl, inX7, rfl, q479⟩
theorem mmX7_wordAt : MM yX7_wordAt cX7_wordAt 2 (some .int) 1 := ⟨q165, q1342, by decide +kernel, by decide +kernel, by decide +kernel⟩
theorem miX7_wordAt : MI yX7_wordAt := ⟨q1340, q1341⟩
theorem mmX3_copyFrom : MM yX3_copyFrom cX3_copyFrom 3 (none) 1 := ⟨q163, q873, by decide +kernel, by decide +kernel, by decide +kernel⟩
theorem miX3_copyFrom : MI yX3_copyFrom := ⟨q871, q872⟩
theorem fpX12_79_0 (vv : Nat) : FP vv RX12 79 0 1 12 (none) (.boolean) := ⟨13, _, RX12, TX12, tyX12, kk0 _, rfl, inX12, rfl, q751, tyX12_ok, nmX12, rfl, by decide +kernel⟩
theorem mmX1_reset : MM yX1_reset cX1_reset 2 (none) 1 := ⟨q164, q720, by decide +kernel, by decide +kernel, by decide +kernel⟩
theorem miX1_reset : MI yX1_reset := ⟨q718, q719⟩
theorem mmX1_begin : MM yX1_begin cX1_begin 3 (none) 1 := ⟨q164, q716, by decide +kernel, by decide +kernel, by decide +kernel⟩
theorem miX1_begin : MI yX1_begin := ⟨q714, q715⟩
theorem fgX3_44_5 (vv : Nat) : FG vv RX3 44 5 2 1 (none) := ⟨5, _, RX4, TX4, kk5 _, rfl, inX4, rfl, q412⟩
theorem mmX5_takeName : MM yX5_takeName cX5_takeName 2 (some .int) 0 := ⟨q162, q1092, by decide +kernel, by decide +kernel, by decide +kernel⟩
theorem miX5_takeName : MI yX5_takeName := ⟨q1091, q6⟩
theorem fpX5_147_8 (vv : Nat) : FP vv RX5 147 8 8 2 (none) (.int) := ⟨9, _, RX8, TX8, tyX8, kk8 _, rfl, inX8, rfl, q314, tyX8_ok, nmX8, rfl, by decide +kernel⟩
theorem fpX5_150_8 (vv : Nat) : FP vv RX5 150 8 8 3 (none) (.int) := ⟨9, _, RX8, TX8, tyX8, kk8 _, rfl, inX8, rfl, q317, tyX8_ok, nmX8, rfl, by decide +kernel⟩
theorem mmX5_takePin : MM yX5_takePin cX5_takePin 1 (some .int) 0 := ⟨q162, q1131, by decide +kernel, by decide +kernel, by decide +kernel⟩
theorem miX5_takePin : MI yX5_takePin := ⟨q1130, q9⟩
theorem fpX5_156_8 (vv : Nat) : FP vv RX5 156 8 8 5 (none) (.int) := ⟨9, _, RX8, TX8, tyX8, kk8 _, rfl, inX8, rfl, q323, tyX8_ok, nmX8, rfl, by decide +kernel⟩
theorem fgX5_156_8 (vv : Nat) : FG vv RX5 156 8 8 5 (none) := ⟨9, _, RX8, TX8, kk8 _, rfl, inX8, rfl, q323⟩
theorem mmX5_takeGroup : MM yX5_takeGroup cX5_takeGroup 4 (some .int) 2 := ⟨q162, q1135, by decide +kernel, by decide +kernel, by decide +kernel⟩
theorem miX5_takeGroup : MI yX5_takeGroup := ⟨q1134, q10⟩
theorem fpX5_162_8 (vv : Nat) : FP vv RX5 162 8 8 6 (none) (.int) := ⟨9, _, RX8, TX8, tyX8, kk8 _, rfl, inX8, rfl, q326, tyX8_ok, nmX8, rfl, by decide +kernel⟩
theorem fpX5_165_8 (vv : Nat) : FP vv RX5 165 8 8 7 (none) (.int) := ⟨9, _, RX8, TX8, tyX8, kk8 _, rfl, inX8, rfl, q329, tyX8_ok, nmX8, rfl, by decide +kernel⟩
theorem fgX5_165_8 (vv : Nat) : FG vv RX5 165 8 8 7 (none) := ⟨9, _, RX8, TX8, kk8 _, rfl, inX8, rfl, q329⟩
theorem fpX5_168_8 (vv : Nat) : FP vv RX5 168 8 8 8 (none) (.int) := ⟨9, _, RX8, TX8, tyX8, kk8 _, rfl, inX8, rfl, q332, tyX8_ok, nmX8, rfl, by decide +kernel⟩
theorem fpX5_171_8 (vv : Nat) : FP vv RX5 171 8 8 9 (none) (.int) := ⟨9, _, RX8, TX8, tyX8, kk8 _, rfl, inX8, rfl, q335, tyX8_ok, nmX8, rfl, by decide +kernel⟩
theorem fgX5_171_8 (vv : Nat) : FG vv RX5 171 8 8 9 (none) := ⟨9, _, RX8, TX8, kk8 _, rfl, inX8, rfl, q335⟩
theorem fpX5_174_8 (vv : Nat) : FP vv RX5 174 8 8 10 (none) (.int) := ⟨9, _, RX8, TX8, tyX8, kk8 _, rfl, inX8, rfl, q338, tyX8_ok, nmX8, rfl, by decide +kernel⟩
theorem fpX5_177_8 (vv : Nat) : FP vv RX5 177 8 8 11 (none) (.int) := ⟨9, _, RX8, TX8, tyX8, kk8 _, rfl, inX8, rfl, q341, tyX8_ok, nmX8, rfl, by decide +kernel⟩
theorem fpX5_180_8 (vv : Nat) : FP vv RX5 180 8 8 12 (none) (.int) := ⟨9, _, RX8, TX8, tyX8, kk8 _, rfl, inX8, rfl, q344, tyX8_ok, nmX8, rfl, by decide +kernel⟩
theorem mmX5_readShifting : MM yX5_readShifting cX5_readShifting 3 (none) 2 := ⟨q162, q1143, by decide +kernel, by decide +kernel, by decide +kernel⟩
theorem miX5_readShifting : MI yX5_readShifting := ⟨q1142, q11⟩
theorem fgX5_207_5 (vv : Nat) : FG vv RX5 207 5 2 1 (none) := ⟨5, _, RX4, TX4, kk5 _, rfl, inX4, rfl, q413⟩
theorem fpX5_207_5 (vv : Nat) : FP vv RX5 207 5 2 1 (none) (.int) := ⟨5, _, RX4, TX4, tyX4, kk5 _, rfl, inX4, rfl, q413, tyX4_ok, nmX4, rfl, by decide +kernel⟩
theorem fgX5_222_2 (vv : Nat) : FG vv RX5 222 2 1 6 (none) := ⟨12, _, RX11, TX11, kk2 _, rfl, inX11, rfl, q212⟩
theorem fgX5_225_5 (vv : Nat) : FG vv RX5 225 5 2 0 (none) := ⟨5, _, RX4, TX4, kk5 _, rfl, inX4, rfl, q410⟩
theorem fpX5_268_9 (vv : Nat) : FP vv RX5 268 9 66 1 (none) (.int) := ⟨3, _, RX2, TX2, tyX2, kk9 _, rfl, inX2, rfl, q261, tyX2_ok, nmX2, rfl, by decide +kernel⟩
theorem fgX5_263_9 (vv : Nat) : FG vv RX5 263 9 66 2 (some (50, none)) := ⟨3, _, RX2, TX2, kk9 _, rfl, inX2, rfl, q264⟩
theorem mmX5_takeFlag : MM yX5_takeFlag cX5_takeFlag 1 (some .int) 0 := ⟨q162, q1187, by decide +kernel, by decide +kernel, by decide +kernel⟩
theorem miX5_takeFlag : MI yX5_takeFlag := ⟨q1186, q17⟩
theorem mmX5_readWays : MM yX5_readWays cX5_readWays 3 (none) 2 := ⟨q162, q1193, by decide +kernel, by decide +kernel, by decide +kernel⟩
theorem miX5_readWays : MI yX5_readWays := ⟨q1192, q18⟩
theorem fpX5_287_9 (vv : Nat) : FP vv RX5 287 9 66 3 (some (50, none)) (.object "PinEngines$Symbol") := ⟨3, _, RX2, TX2, tyX2, kk9 _, rfl, inX2, rfl, q266, tyX2_ok, nmX2, rfl, by decide +kernel⟩
theorem mmX5_readPlace : MM yX5_readPlace cX5_readPlace 2 (none) 1 := ⟨q162, q1201, by decide +kernel, by decide +kernel, by decide +kernel⟩
theorem miX5_readPlace : MI yX5_readPlace := ⟨q1200, q19⟩
theorem mmX6_readValue : MM yX6_readValue cX6_readValue 5 (none) 1 := ⟨q167, q1969, by decide +kernel, by decide +kernel, by decide +kernel⟩
theorem miX6_readValue : MI yX6_readValue := ⟨q1968, q46⟩
theorem mmX9_shiftIn : MM yX9_shiftIn cX9_shiftIn 8 (some .int) 3 := ⟨q166, q1555, by decide +kernel, by decide +kernel, by decide +kernel⟩
theorem miX9_shiftIn : MI yX9_shiftIn := ⟨q1554, q31⟩
theorem mmX9_shiftOut : MM yX9_shiftOut cX9_shiftOut 6 (some .int) 3 := ⟨q166, q1576, by decide +kernel, by decide +kernel, by decide +kernel⟩
theorem miX9_shiftOut : MI yX9_shiftOut := ⟨q1575, q33⟩
theorem mmX9_push : MM yX9_push cX9_push 4 (some .int) 3 := ⟨q166, q1605, by decide +kernel, by decide +kernel, by decide +kernel⟩
theorem miX9_push : MI yX9_push := ⟨q1604, q35⟩
theorem mmX9_pull : MM yX9_pull cX9_pull 4 (some .int) 3 := ⟨q166, q1611, by decide +kernel, by decide +kernel, by decide +kernel⟩
theorem miX9_pull : MI yX9_pull := ⟨q1610, q36⟩
theorem mmJ6_reverse_0f7a4 : MM yJ6_reverse_0f7a4 cJ6_reverse_0f7a4 1 (some .int) 1 := ⟨q184, q1623, by decide +kernel, by decide +kernel, by decide +kernel⟩
theorem mmX11_scanToken : MM yX11_scanToken cX11_scanToken 6 (some .int) 2 := ⟨q156, q974, by decide +kernel, by decide +kernel, by decide +kernel⟩
theorem miX11_scanToken : MI yX11_scanToken := ⟨q973, q2⟩
theorem mmX11_scan : MM yX11_scan cX11_scan 5 (none) 1 := ⟨q156, q969, by decide +kernel, by decide +kernel, by decide +kernel⟩
theorem miX11_scan : MI yX11_scan := ⟨q967, q968⟩
theorem fgX12_44_0 (vv : Nat) : FG vv RX12 44 0 1 6 (some (10, some (fun _ => 0))) := ⟨13, _, RX12, TX12, kk0 _, rfl, inX12, rfl, q745⟩
theorem fgX12_36_0 (vv : Nat) : FG vv RX12 36 0 1 5 (some (5, none)) := ⟨13, _, RX12, TX12, kk0 _, rfl, inX12, rfl, q744⟩
theorem mmX12_remember : MM yX12_remember cX12_remember 1 (none) 0 := ⟨q155, q1398, by decide +kernel, by decide +kernel, by decide +kernel⟩
theorem miX12_remember : MI yX12_remember := ⟨q1397, q22⟩
theorem fpX12_195_18 (vv : Nat) : FP vv RX12 195 18 52 10 (none) (.boolean) := ⟨2, _, RX1, TX1, tyX1, kk18 _, rfl, inX1, rfl, q530, tyX1_ok, nmX1, rfl, by decide +kernel⟩
theorem fgX12_244_5 (vv : Nat) : FG vv RX12 244 5 2 2 (some (6, some (fun n => n))) := ⟨5, _, RX4, TX4, kk5 _, rfl, inX4, rfl, q418⟩
theorem mmX3_addScheduled : MM yX3_addScheduled cX3_addScheduled 4 (none) 3 := ⟨q163, q1457, by decide +kernel, by decide +kernel, by decide +kernel⟩
theorem miX3_addScheduled : MI yX3_addScheduled := ⟨q1455, q1456⟩
theorem fgX12_72_0 (vv : Nat) : FG vv RX12 72 0 1 10 (some (23, some (fun _ => 0))) := ⟨13, _, RX12, TX12, kk0 _, rfl, inX12, rfl, q749⟩
theorem mmX13_shiftIn : MM yX13_shiftIn cX13_shiftIn 10 (some .int) 3 := ⟨q173, q2508, by decide +kernel, by decide +kernel, by decide +kernel⟩
theorem miX13_shiftIn : MI yX13_shiftIn := ⟨q2507, q82⟩
theorem mmX13_shiftOut : MM yX13_shiftOut cX13_shiftOut 7 (some .int) 3 := ⟨q173, q2524, by decide +kernel, by decide +kernel, by decide +kernel⟩
theorem miX13_shiftOut : MI yX13_shiftOut := ⟨q2523, q85⟩
theorem mmX13_push : MM yX13_push cX13_push 4 (some .int) 3 := ⟨q173, q2540, by decide +kernel, by decide +kernel, by decide +kernel⟩
theorem miX13_push : MI yX13_push := ⟨q2539, q89⟩
theorem mmX13_pull : MM yX13_pull cX13_pull 4 (some .int) 3 := ⟨q173, q2544, by decide +kernel, by decide +kernel, by decide +kernel⟩
theorem miX13_pull : MI yX13_pull := ⟨q2543, q90⟩
theorem mmX13_move : MM yX13_move cX13_move 6 (some .int) 4 := ⟨q173, q2548, by decide +kernel, by decide +kernel, by decide +kernel⟩
theorem miX13_move : MI yX13_move := ⟨q2547, q91⟩
theorem mmX13_signal : MM yX13_signal cX13_signal 3 (some .int) 2 := ⟨q173, q2555, by decide +kernel, by decide +kernel, by decide +kernel⟩
theorem miX13_signal : MI yX13_signal := ⟨q2554, q92⟩
theorem mmX13_assign : MM yX13_assign cX13_assign 4 (some .int) 3 := ⟨q173, q2559, by decide +kernel, by decide +kernel, by decide +kernel⟩
theorem miX13_assign : MI yX13_assign := ⟨q2558, q93⟩
theorem mmX13_access : MM yX13_access cX13_access 5 (some .int) 2 := ⟨q173, q2563, by decide +kernel, by decide +kernel, by decide +kernel⟩
theorem miX13_access : MI yX13_access := ⟨q2562, q94⟩
theorem mmX5_readSetting : MM yX5_readSetting cX5_readSetting 3 (none) 2 := ⟨q162, q1119, by decide +kernel, by decide +kernel, by decide +kernel⟩
theorem miX5_readSetting : MI yX5_readSetting := ⟨q1118, q8⟩
theorem fgX5_103_5 (vv : Nat) : FG vv RX5 103 5 2 2 (some (6, some (fun n => n))) := ⟨5, _, RX4, TX4, kk5 _, rfl, inX4, rfl, q417⟩
theorem fpX5_111_8 (vv : Nat) : FP vv RX5 111 8 8 0 (none) (.boolean) := ⟨9, _, RX8, TX8, tyX8, kk8 _, rfl, inX8, rfl, q308, tyX8_ok, nmX8, rfl, by decide +kernel⟩
theorem fpX5_122_8 (vv : Nat) : FP vv RX5 122 8 8 1 (none) (.int) := ⟨9, _, RX8, TX8, tyX8, kk8 _, rfl, inX8, rfl, q312, tyX8_ok, nmX8, rfl, by decide +kernel⟩
theorem mmX11_atNumberBelow : MM yX11_atNumberBelow cX11_atNumberBelow 2 (some .boolean) 1 := ⟨q156, q1064, by decide +kernel, by decide +kernel, by decide +kernel⟩
theorem miX11_atNumberBelow : MI yX11_atNumberBelow := ⟨q1062, q1063⟩
theorem mmX11_number : MM yX11_number cX11_number 1 (some .int) 0 := ⟨q156, q1068, by decide +kernel, by decide +kernel, by decide +kernel⟩
theorem miX11_number : MI yX11_number := ⟨q1066, q1067⟩
theorem mmX5_defineLabel : MM yX5_defineLabel cX5_defineLabel 1 (none) 0 := ⟨q162, q1157, by decide +kernel, by decide +kernel, by decide +kernel⟩
theorem miX5_defineLabel : MI yX5_defineLabel := ⟨q1156, q14⟩
theorem mmX5_readOperands : MM yX5_readOperands cX5_readOperands 2 (none) 1 := ⟨q162, q1180, by decide +kernel, by decide +kernel, by decide +kernel⟩
theorem miX5_readOperands : MI yX5_readOperands := ⟨q1179, q16⟩
theorem fpX5_246_9 (vv : Nat) : FP vv RX5 246 9 66 6 (none) (.int) := ⟨3, _, RX2, TX2, tyX2, kk9 _, rfl, inX2, rfl, q276, tyX2_ok, nmX2, rfl, by decide +kernel⟩
theorem mmX9_moved : MM yX9_moved cX9_moved 5 (some .int) 3 := ⟨q166, q1616, by decide +kernel, by decide +kernel, by decide +kernel⟩
theorem miX9_moved : MI yX9_moved := ⟨q1615, q37⟩
theorem mmX9_signal : MM yX9_signal cX9_signal 3 (some .int) 2 := ⟨q166, q1634, by decide +kernel, by decide +kernel, by decide +kernel⟩
theorem miX9_signal : MI yX9_signal := ⟨q1633, q38⟩
theorem mmX9_set : MM yX9_set cX9_set 5 (none) 3 := ⟨q166, q1638, by decide +kernel, by decide +kernel, by decide +kernel⟩
theorem miX9_set : MI yX9_set := ⟨q1637, q39⟩
theorem mmX13_execute : MM yX13_execute cX13_execute 3 (some .int) 1 := ⟨q173, q2480, by decide +kernel, by decide +kernel, by decide +kernel⟩
theorem miX13_execute : MI yX13_execute := ⟨q2479, q75⟩
theorem mmX5_readLabel : MM yX5_readLabel cX5_readLabel 1 (none) 0 := ⟨q162, q1153, by decide +kernel, by decide +kernel, by decide +kernel⟩
theorem miX5_readLabel : MI yX5_readLabel := ⟨q1152, q13⟩
theorem mmX5_readInstruction : MM yX5_readInstruction cX5_readInstruction 2 (none) 0 := ⟨q162, q1163, by decide +kernel, by decide +kernel, by decide +kernel⟩
theorem miX5_readInstruction : MI yX5_readInstruction := ⟨q1162, q15⟩
theorem mmX5_readLevel : MM yX5_readLevel cX5_readLevel 3 (none) 0 := ⟨q162, q1149, by decide +kernel, by decide +kernel, by decide +kernel⟩
theorem miX5_readLevel : MI yX5_readLevel := ⟨q1148, q12⟩
theorem mmX5_readEngine : MM yX5_readEngine cX5_readEngine 3 (none) 0 := ⟨q162, q1060, by decide +kernel, by decide +kernel, by decide +kernel⟩
theorem miX5_readEngine : MI yX5_readEngine := ⟨q1059, q5⟩
theorem mmX4_clear : MM yX4_clear cX4_clear 2 (none) 0 := ⟨q159, q1042, by decide +kernel, by decide +kernel, by decide +kernel⟩
theorem miX4_clear : MI yX4_clear := ⟨q1040, q1041⟩
theorem mmX9_execute : MM yX9_execute cX9_execute 4 (some .int) 3 := ⟨q166, q1540, by decide +kernel, by decide +kernel, by decide +kernel⟩
theorem miX9_execute : MI yX9_execute := ⟨q1539, q28⟩
theorem mmX9_access : MM yX9_access cX9_access 5 (some .int) 3 := ⟨q166, q1521, by decide +kernel, by decide +kernel, by decide +kernel⟩
theorem miX9_access : MI yX9_access := ⟨q1520, q27⟩
theorem mmX13_tick : MM yX13_tick cX13_tick 4 (none) 1 := ⟨q173, q2472, by decide +kernel, by decide +kernel, by decide +kernel⟩
theorem miX13_tick : MI yX13_tick := ⟨q2471, q73⟩
theorem mmX13_givePort : MM yX13_givePort cX13_givePort 3 (none) 0 := ⟨q173, q2456, by decide +kernel, by decide +kernel, by decide +kernel⟩
theorem miX13_givePort : MI yX13_givePort := ⟨q2455, q69⟩
theorem mmX13_countOn : MM yX13_countOn cX13_countOn 3 (none) 1 := ⟨q173, q2452, by decide +kernel, by decide +kernel, by decide +kernel⟩
theorem miX13_countOn : MI yX13_countOn := ⟨q2451, q68⟩
theorem mmX13_applyScheduled : MM yX13_applyScheduled cX13_applyScheduled 5 (none) 0 := ⟨q173, q2444, by decide +kernel, by decide +kernel, by decide +kernel⟩
theorem miX13_applyScheduled : MI yX13_applyScheduled := ⟨q2443, q66⟩
theorem mmX13_readAll : MM yX13_readAll cX13_readAll 2 (none) 0 := ⟨q173, q2448, by decide +kernel, by decide +kernel, by decide +kernel⟩
theorem miX13_readAll : MI yX13_readAll := ⟨q2447, q67⟩
theorem mmX13_passCycle : MM yX13_passCycle cX13_passCycle 2 (none) 0 := ⟨q173, q2440, by decide +kernel, by decide +kernel, by decide +kernel⟩
theorem miX13_passCycle : MI yX13_passCycle := ⟨q2439, q65⟩
theorem mmX5_readClauses : MM yX5_readClauses cX5_readClauses 2 (none) 0 := ⟨q162, q1038, by decide +kernel, by decide +kernel, by decide +kernel⟩
theorem miX5_readClauses : MI yX5_readClauses := ⟨q1037, q4⟩
theorem fgX5_37_2 (vv : Nat) : FG vv RX5 37 2 1 7 (none) := ⟨12, _, RX11, TX11, kk2 _, rfl, inX11, rfl, q214⟩
theorem mmX9_doTick : MM yX9_doTick cX9_doTick 7 (some .boolean) 3 := ⟨q166, q1513, by decide +kernel, by decide +kernel, by decide +kernel⟩
theorem miX9_doTick : MI yX9_doTick := ⟨q1512, q26⟩
theorem fpX9_15_22 (vv : Nat) : FP vv RX9 15 22 1 1 (some (12, none)) (.object "PinEngines$Machine") := ⟨10, _, RX9, TX9, tyX9, kk22 _, rfl, inX9, rfl, q636, tyX9_ok, nmX9, rfl, by decide +kernel⟩
theorem mmX3_applyScheduled : MM yX3_applyScheduled cX3_applyScheduled 4 (none) 0 := ⟨q163, q1479, by decide +kernel, by decide +kernel, by decide +kernel⟩
theorem miX3_applyScheduled : MI yX3_applyScheduled := ⟨q1477, q1478⟩
theorem fpX9_28_22 (vv : Nat) : FP vv RX9 28 22 1 2 (none) (.int) := ⟨10, _, RX9, TX9, tyX9, kk22 _, rfl, inX9, rfl, q637, tyX9_ok, nmX9, rfl, by decide +kernel⟩
theorem fgX9_31_12 (vv : Nat) : FG vv RX9 31 12 13 4 (none) := ⟨4, _, RX3, TX3, kk12 _, rfl, inX3, rfl, q579⟩
theorem fpX9_34_22 (vv : Nat) : FP vv RX9 34 22 1 3 (none) (.int) := ⟨10, _, RX9, TX9, tyX9, kk22 _, rfl, inX9, rfl, q638, tyX9_ok, nmX9, rfl, by decide +kernel⟩
theorem mmX9_tickingEngines : MM yX9_tickingEngines cX9_tickingEngines 4 (some .int) 0 := ⟨q166, q1485, by decide +kernel, by decide +kernel, by decide +kernel⟩
theorem miX9_tickingEngines : MI yX9_tickingEngines := ⟨q1484, q23⟩
theorem mmX9_grantPort : MM yX9_grantPort cX9_grantPort 4 (some .int) 1 := ⟨q166, q1493, by decide +kernel, by decide +kernel, by decide +kernel⟩
theorem miX9_grantPort : MI yX9_grantPort := ⟨q1492, q24⟩
theorem mmX5_readProgram : MM yX5_readProgram cX5_readProgram 2 (none) 1 := ⟨q162, q1034, by decide +kernel, by decide +kernel, by decide +kernel⟩
theorem miX5_readProgram : MI yX5_readProgram := ⟨q1032, q1033⟩
theorem fgX12_117_2 (vv : Nat) : FG vv RX12 117 2 1 8 (none) := ⟨12, _, RX11, TX11, kk2 _, rfl, inX11, rfl, q217⟩
theorem fpX12_17_0 (vv : Nat) : FP vv RX12 17 0 1 2 (none) (.int) := ⟨13, _, RX12, TX12, tyX12, kk0 _, rfl, inX12, rfl, q741, tyX12_ok, nmX12, rfl, by decide +kernel⟩
theorem fgX12_120_2 (vv : Nat) : FG vv RX12 120 2 1 7 (none) := ⟨12, _, RX11, TX11, kk2 _, rfl, inX11, rfl, q215⟩
theorem fpX12_32_0 (vv : Nat) : FP vv RX12 32 0 1 4 (some (5, none)) (.object "PinEngines$Program") := ⟨13, _, RX12, TX12, tyX12, kk0 _, rfl, inX12, rfl, q743, tyX12_ok, nmX12, rfl, by decide +kernel⟩
theorem fpX12_36_0 (vv : Nat) : FP vv RX12 36 0 1 5 (some (5, none)) (.object "PinEngines$Program") := ⟨13, _, RX12, TX12, tyX12, kk0 _, rfl, inX12, rfl, q744, tyX12_ok, nmX12, rfl, by decide +kernel⟩
theorem fpX12_123_22 (vv : Nat) : FP vv RX12 123 22 1 0 (some (5, none)) (.object "PinEngines$Program") := ⟨10, _, RX9, TX9, tyX9, kk22 _, rfl, inX9, rfl, q635, tyX9_ok, nmX9, rfl, by decide +kernel⟩
theorem mmX3_begin : MM yX3_begin cX3_begin 3 (none) 1 := ⟨q163, q712, by decide +kernel, by decide +kernel, by decide +kernel⟩
theorem miX3_begin : MI yX3_begin := ⟨q710, q711⟩
theorem mmX9_simulateCycle : MM yX9_simulateCycle cX9_simulateCycle 7 (some .int) 1 := ⟨q166, q1475, by decide +kernel, by decide +kernel, by decide +kernel⟩
theorem miX9_simulateCycle : MI yX9_simulateCycle := ⟨q1473, q1474⟩
theorem mmX12_checkLimit : MM yX12_checkLimit cX12_checkLimit 1 (none) 1 := ⟨q155, q1656, by decide +kernel, by decide +kernel, by decide +kernel⟩
theorem mmX12_idleEngines : MM yX12_idleEngines cX12_idleEngines 5 (some .int) 0 := ⟨q155, q1685, by decide +kernel, by decide +kernel, by decide +kernel⟩
theorem miX12_idleEngines : MI yX12_idleEngines := ⟨q1684, q41⟩
