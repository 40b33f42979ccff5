/-! THE KINDS -/
def mil : List Nat := [16, 8, 4, 4, 4, 4, 4, 1000, 32, 32, 400, 400, 400, 80, 12, 200, 200]
def stl : List Nat := [13, 8, 9, 33, 12]
/-- the texts of the constants, by number -/
def txL : List (List Nat) := [[106, 109, 112], [119, 97, 105, 116], [105, 110], [111, 117, 116], [112, 117, 115, 104], [112, 117, 108, 108], [109, 111, 118], [114, 97, 105, 115, 101], [99, 108, 101, 97, 114], [115, 105, 103, 110, 97, 108], [115, 101, 116], [108, 111, 97, 100], [115, 116, 111, 114, 101], [], [120, 122, 101, 114, 111], [121, 122, 101, 114, 111], [120, 100, 101, 99], [121, 100, 101, 99], [100, 105, 102, 102, 101, 114], [112, 105, 110], [109, 111, 114, 101], [112, 105, 110, 115], [120], [121], [110, 117, 108, 108], [105, 115, 114], [111, 115, 114], [115, 116, 97, 116, 117, 115], [100, 105, 114, 115], [112, 99], [101, 110, 103, 105, 110, 101], [115, 116, 97, 114, 116], [108, 101, 118, 101, 108], [115, 105, 100, 101], [100, 101, 108, 97, 121], [99, 108, 111, 99, 107], [119, 114, 97, 112], [111, 117, 116, 112, 105, 110, 115], [115, 101, 116, 112, 105, 110, 115], [115, 105, 100, 101, 112, 105, 110, 115], [105, 110, 112, 105, 110, 115], [106, 117, 109, 112, 112, 105, 110], [105, 110, 108, 101, 102, 116], [111, 117, 116, 108, 101, 102, 116], [97, 117, 116, 111, 112, 117, 115, 104], [97, 117, 116, 111, 112, 117, 108, 108], [106, 111, 105, 110, 105, 110], [106, 111, 105, 110, 111, 117, 116], [102, 108, 97, 103], [105, 102, 102, 117, 108, 108], [110, 111, 98, 108, 111, 99, 107], [105, 102, 101, 109, 112, 116, 121], [110, 111, 116], [114, 101, 118, 101, 114, 115, 101], [109, 97, 110, 121], [102, 105, 114, 115, 116], [111, 114], [97, 110, 100], [102, 105, 108, 108], [115, 112, 101, 110, 116], [115, 116, 97, 108, 108], [105, 110, 112, 117, 116], [111, 117, 116, 112, 117, 116], [58], [59], [40], [60], [62], [41], [61]]
def stT : List (List Nat) := [[0, 1, 2, 3, 4, 5, 6, 7, 8, 9, 10, 11, 12], [13, 14, 15, 16, 17, 18, 19, 20], [21, 22, 23, 24, 25, 26, 27, 28, 29], [30, 31, 32, 33, 34, 35, 36, 37, 38, 39, 40, 41, 42, 43, 44, 45, 46, 47, 48, 49, 50, 51, 52, 53, 54, 55, 56, 57, 58, 59, 60, 61, 62], [30, 29, 22, 23, 25, 26, 58, 59, 34, 60, 61, 62]]
def strAt (n k : Nat) : Nat := (stT.getD n []).getD k 0
abbrev kd0 : KD := (1, .inl (13, [some (1, some (fun _ => 0)), none, none, some (2, some (fun _ => 0)), some (5, none), some (5, none), some (10, some (fun _ => 0)), some (12, some (fun _ => 0)), some (12, some (fun _ => 1)), some (22, some (fun _ => 0)), some (23, some (fun _ => 0)), some (12, some (fun _ => 2)), none, some (25, some (fun _ => 0)), none, none, some (32, some (fun _ => 0))]))
abbrev kd1 : KD := (1, .inr (1, (fun _ _ => 1000), none))
abbrev kd2 : KD := (1, .inl (12, [some (1, some (fun _ => 0)), some (3, some (fun _ => 0)), some (4, some (fun _ => 0)), some (4, some (fun _ => 1)), some (4, some (fun _ => 2)), none, none, none, none]))
abbrev kd3 : KD := (1, .inr (8, (fun _ _ => 1001), some (some (50, none))))
abbrev kd4 : KD := (3, .inr (0, (fun _ _ => 1001), none))
abbrev kd5 : KD := (2, .inl (5, [none, none, some (6, some (fun n => n)), some (7, some (fun n => n)), some (9, some (fun n => 33 * n + 32))]))
abbrev kd6 : KD := (2, .inr (6, (fun _ _ => 4), some (some (8, some (fun n k => 4 * n + k)))))
abbrev kd7 : KD := (2, .inr (5, (fun _ _ => 32), some (some (9, some (fun n k => 33 * n + k)))))
abbrev kd8 : KD := (8, .inl (9, [none, none, none, none, none, none, none, none, none, none, none, none, none, none, none, none, none, none, none, none]))
abbrev kd9 : KD := (66, .inl (3, [some (50, none), none, some (50, none), some (50, none), some (50, none), none, none, none]))
abbrev kd10 : KD := (1, .inl (6, [some (2, some (fun _ => 0)), some (5, none), none, none, some (11, some (fun _ => 0)), some (11, some (fun _ => 1))]))
abbrev kd11 : KD := (2, .inr (0, (fun _ _ => 32), none))
abbrev kd12 : KD := (13, .inl (4, [none, none, none, none, none, none, some (13, some (fun n => n)), some (14, some (fun n => n)), none, some (15, some (fun n => n)), none, some (16, some (fun n => n)), some (17, some (fun n => 2 * n)), some (17, some (fun n => 2 * n + 1))]))
abbrev kd13 : KD := (13, .inr (0, (fun _ _ => 16), none))
abbrev kd14 : KD := (13, .inr (4, (fun _ _ => 4), some (some (18, some (fun n k => 4 * n + k)))))
abbrev kd15 : KD := (13, .inr (0, (fun _ _ => 32), none))
abbrev kd16 : KD := (13, .inr (0, (fun _ _ => 64), none))
abbrev kd17 : KD := (26, .inr (0, (fun _ _ => 16), none))
abbrev kd18 : KD := (52, .inl (2, [none, none, none, none, none, none, none, none, none, none, none, some (19, some (fun n => 2 * n)), some (19, some (fun n => 2 * n + 1)), some (21, some (fun n => n))]))
abbrev kd19 : KD := (104, .inl (8, [none, none, none, some (20, some (fun n => n))]))
abbrev kd20 : KD := (104, .inr (0, (fun _ _ => 8), none))
abbrev kd21 : KD := (52, .inr (0, (fun _ _ => 6), none))
abbrev kd22 : KD := (1, .inl (10, [some (5, none), some (12, none), none, none, none, none, none]))
abbrev kd23 : KD := (1, .inl (7, [some (2, some (fun _ => 0)), some (12, some (fun _ => 0)), some (24, some (fun _ => 0)), some (24, some (fun _ => 1))]))
abbrev kd24 : KD := (2, .inr (0, (fun _ _ => 4), none))
abbrev kd25 : KD := (1, .inr (7, (fun _ _ => 10), some (some (12, some (fun _ k => 3 + k)))))
abbrev kd26 : KD := (1, .inl (14, [some (27, some (fun _ => 0)), some (27, some (fun _ => 1)), some (27, some (fun _ => 2)), some (27, some (fun _ => 3)), some (27, some (fun _ => 4)), none, none, none, some (28, some (fun _ => 0)), some (28, some (fun _ => 1)), some (29, some (fun _ => 0)), some (28, some (fun _ => 2)), some (28, some (fun _ => 3)), some (28, some (fun _ => 4)), some (28, some (fun _ => 5)), some (28, some (fun _ => 6)), none, none, none, none, some (28, some (fun _ => 7)), none, none, none, none, none, none, none, none, none, some (30, some (fun _ => 0)), some (30, some (fun _ => 1)), some (30, some (fun _ => 2)), some (30, some (fun _ => 3)), some (28, some (fun _ => 8)), some (28, some (fun _ => 9)), some (28, some (fun _ => 10)), some (28, some (fun _ => 11)), some (28, some (fun _ => 12)), none, some (28, some (fun _ => 13)), none, some (30, some (fun _ => 4)), some (28, some (fun _ => 14)), some (28, some (fun _ => 15)), some (28, some (fun _ => 16)), none]))
abbrev kd27 : KD := (5, .inr (0, (fun _ n => if n = 4 then 7000 else 700), none))
abbrev kd28 : KD := (17, .inr (0, (fun _ n => mil.getD n 0), none))
abbrev kd29 : KD := (1, .inr (2, (fun _ _ => 4), none))
abbrev kd30 : KD := (5, .inr (9, (fun _ n => stl.getD n 0), some (some (51, some (fun n k => strAt n k)))))
abbrev kd31 : KD := (1, .inr (3, (fun _ _ => 1), some none))
abbrev kd32 : KD := (1, .inl (1, [some (33, some (fun _ => 0)), none, none, none]))
abbrev kd33 : KD := (1, .inr (1, (fun b _ => b 0), none))
/-! the model comes second, the row of the answer third: vv tells how far it is -/
def kv26 (vv : Nat) : KD := if 1 ≤ vv then kd26 else (0, kd26.2)
def kv27 (vv : Nat) : KD := if 1 ≤ vv then kd27 else (0, kd27.2)
def kv28 (vv : Nat) : KD := if 1 ≤ vv then kd28 else (0, kd28.2)
def kv29 (vv : Nat) : KD := if 1 ≤ vv then kd29 else (0, kd29.2)
def kv30 (vv : Nat) : KD := if 1 ≤ vv then kd30 else (0, kd30.2)
def kv31 (vv : Nat) : KD := if 2 ≤ vv then kd31 else (0, kd31.2)
def kdL (vv : Nat) : List KD := [kd0, kd1, kd2, kd3, kd4, kd5, kd6, kd7, kd8, kd9, kd10, kd11, kd12, kd13, kd14, kd15, kd16, kd17, kd18, kd19, kd20, kd21, kd22, kd23, kd24, kd25, (kv26 vv), (kv27 vv), (kv28 vv), (kv29 vv), (kv30 vv), (kv31 vv), kd32, kd33]
theorem kk0 (vv : Nat) : (kdL vv)[0]? = some kd0 := rfl
theorem kk1 (vv : Nat) : (kdL vv)[1]? = some kd1 := rfl
theorem kk2 (vv : Nat) : (kdL vv)[2]? = some kd2 := rfl
theorem kk3 (vv : Nat) : (kdL vv)[3]? = some kd3 := rfl
theorem kk4 (vv : Nat) : (kdL vv)[4]? = some kd4 := rfl
theorem kk5 (vv : Nat) : (kdL vv)[5]? = some kd5 := rfl
theorem kk6 (vv : Nat) : (kdL vv)[6]? = some kd6 := rfl
theorem kk7 (vv : Nat) : (kdL vv)[7]? = some kd7 := rfl
theorem kk8 (vv : Nat) : (kdL vv)[8]? = some kd8 := rfl
theorem kk9 (vv : Nat) : (kdL vv)[9]? = some kd9 := rfl
theorem kk10 (vv : Nat) : (kdL vv)[10]? = some kd10 := rfl
theorem kk11 (vv : Nat) : (kdL vv)[11]? = some kd11 := rfl
theorem kk12 (vv : Nat) : (kdL vv)[12]? = some kd12 := rfl
theorem kk13 (vv : Nat) : (kdL vv)[13]? = some kd13 := rfl
theorem kk14 (vv : Nat) : (kdL vv)[14]? = some kd14 := rfl
theorem kk15 (vv : Nat) : (kdL vv)[15]? = some kd15 := rfl
theorem kk16 (vv : Nat) : (kdL vv)[16]? = some kd16 := rfl
theorem kk17 (vv : Nat) : (kdL vv)[17]? = some kd17 := rfl
theorem kk18 (vv : Nat) : (kdL vv)[18]? = some kd18 := rfl
theorem kk19 (vv : Nat) : (kdL vv)[19]? = some kd19 := rfl
theorem kk20 (vv : Nat) : (kdL vv)[20]? = some kd20 := rfl
theorem kk21 (vv : Nat) : (kdL vv)[21]? = some kd21 := rfl
theorem kk22 (vv : Nat) : (kdL vv)[22]? = some kd22 := rfl
theorem kk23 (vv : Nat) : (kdL vv)[23]? = some kd23 := rfl
theorem kk24 (vv : Nat) : (kdL vv)[24]? = some kd24 := rfl
theorem kk25 (vv : Nat) : (kdL vv)[25]? = some kd25 := rfl
theorem kk26 {vv : Nat} (h : 1 ≤ vv) : (kdL vv)[26]? = some kd26 := (show some (kv26 vv) = some kd26 by unfold kv26; rw [if_pos h])
theorem kk27 {vv : Nat} (h : 1 ≤ vv) : (kdL vv)[27]? = some kd27 := (show some (kv27 vv) = some kd27 by unfold kv27; rw [if_pos h])
theorem kk28 {vv : Nat} (h : 1 ≤ vv) : (kdL vv)[28]? = some kd28 := (show some (kv28 vv) = some kd28 by unfold kv28; rw [if_pos h])
theorem kk29 {vv : Nat} (h : 1 ≤ vv) : (kdL vv)[29]? = some kd29 := (show some (kv29 vv) = some kd29 by unfold kv29; rw [if_pos h])
theorem kk30 {vv : Nat} (h : 1 ≤ vv) : (kdL vv)[30]? = some kd30 := (show some (kv30 vv) = some kd30 by unfold kv30; rw [if_pos h])
theorem kk31 {vv : Nat} (h : 2 ≤ vv) : (kdL vv)[31]? = some kd31 := (show some (kv31 vv) = some kd31 by unfold kv31; rw [if_pos h])
theorem kk32 (vv : Nat) : (kdL vv)[32]? = some kd32 := rfl
theorem kk33 (vv : Nat) : (kdL vv)[33]? = some kd33 := rfl
theorem nodup_cells (kinds : List KD) : (cellsOf kinds).Nodup := by
  unfold cellsOf List.Nodup
  rw [List.pairwise_flatMap]
  refine ⟨fun κ _ => ?_, ?_⟩
  · rw [List.pairwise_map]
    exact List.Pairwise.imp (fun h e => h (Prod.mk.inj e).2) List.nodup_range
  · refine List.Pairwise.imp (fun {a b} h x hx y hy e => ?_) (List.nodup_range (n := kinds.length))
    obtain ⟨n, -, rfl⟩ := List.mem_map.mp hx
    obtain ⟨m, -, rfl⟩ := List.mem_map.mp hy
    exact h (Prod.mk.inj e).1
theorem kdL_big (vv : Nat) : kdL (vv + 2) = kdL 2 := by
  have e1 : ∀ n : Nat, n ≤ 2 → n ≤ vv + 2 := fun n h => Nat.le_trans h (Nat.le_add_left 2 vv)
  unfold kdL kv26 kv27 kv28 kv29 kv30 kv31
  rw [if_pos (e1 1 (by decide)), if_pos (e1 1 (by decide)), if_pos (e1 1 (by decide)), if_pos (e1 1 (by decide)), if_pos (e1 1 (by decide)), if_pos (e1 2 (by decide))]
  rfl
theorem kd_nodup : ∀ vv : Nat, (cellsOf (kdL vv)).Nodup := fun vv => nodup_cells (kdL vv)
abbrev wl (vv : Nat) (ad : Nat → Nat → Nat) (ty : Nat → ClassId) (μ : Mem) : va_W := wlK (kdL vv) ad ty μ
def tys (ty : Nat → ClassId) : List (ClassId × FieldType) := [(ty 0, .int), (ty 1, .byte), (ty 2, .boolean), (ty 3, .long), (ty 4, .object "PinEngines$Engine"), (ty 5, .object "PinEngines$Instruction"), (ty 6, .object "PinEngines$Setup"), (ty 7, .object "PinEngines$Machine"), (ty 8, .object "PinEngines$Symbol"), (ty 9, .object "java/lang/String")]
/-! THE CONSTANTS: the enum, its row, the switch map, the texts; they lie outside of what is written -/
def syN : List String := ["NOTHING", "END", "NAME", "NUMBER", "STRANGE", "COLON", "SEMICOLON", "OPEN", "CLOSE", "LESS", "EQUAL", "GREATER", "ENGINE", "START", "LEVEL", "SIDE", "DELAY", "CLOCK", "WRAP", "OUTPINS", "SETPINS", "SIDEPINS", "INPINS", "JUMPPIN", "INLEFT", "OUTLEFT", "AUTOPUSH", "AUTOPULL", "JOININ", "JOINOUT", "JMP", "WAIT", "IN", "OUT", "PUSH", "PULL", "MOV", "RAISE", "CLEAR", "SIGNAL", "SET", "LOAD", "STORE", "XZERO", "YZERO", "XDEC", "YDEC", "DIFFER", "PIN", "MORE", "FLAG", "PINS", "X", "Y", "NULL", "ISR", "OSR", "DIRS", "PC", "STATUS", "IFFULL", "IFEMPTY", "NOBLOCK", "NOT", "REVERSE", "MANY", "FIRST", "OR", "AND", "FILL", "SPENT", "STALL", "INPUT", "OUTPUT"]
def syR : List Int32 := [0, 0, 0, 0, 0, 0, 0, 0, 0, 32768, 32768, 32768, 16384, 0, 0, 0, 16384, 2, 2, 2, 2, 2, 2, 2, 2, 2, 2, 2, 2, 2, 1, 1, 1, 1, 1, 1, 1, 1, 1, 1, 1, 1, 1, 4, 4, 4, 4, 4, 12, 4, 8, 880, 24432, 24432, 304, 18800, 17744, 544, 16480, 256, 0, 0, 0, 128, 128, 8192, 8192, 0, 0, 16384, 16384, 16384, 16384, 16384]
def syO : List Int32 := [0, 1, 2, 3, 4, 5, 6, 7, 8, 9, 10, 11, 12, 13, 14, 15, 16, 17, 18, 19, 20, 21, 22, 23, 24, 25, 26, 27, 28, 29, 30, 31, 32, 33, 34, 35, 36, 37, 38, 39, 40, 41, 42, 43, 44, 45, 46, 47, 48, 49, 50, 51, 52, 53, 54, 55, 56, 57, 58, 59, 60, 61, 62, 63, 64, 65, 66, 67, 68, 69, 70, 71, 72, 73]
def syF : List (String × String × String × List Int32) := [("java/lang/Enum", "ordinal", "I", syO), ("PinEngines$Symbol", "roles", "I", syR)]
def syT : List Nat := [13, 13, 13, 13, 13, 63, 64, 65, 68, 66, 69, 67, 30, 31, 32, 33, 34, 35, 36, 37, 38, 39, 40, 41, 42, 43, 44, 45, 46, 47, 0, 1, 2, 3, 4, 5, 6, 7, 8, 9, 10, 11, 12, 14, 15, 16, 17, 18, 19, 20, 48, 21, 22, 23, 24, 25, 26, 28, 29, 27, 49, 51, 50, 52, 53, 54, 55, 56, 57, 58, 59, 60, 61, 62]
theorem getD_lt {l : List Nat} {N : Nat} (h0 : 0 < N) (h : ∀ x ∈ l, x < N) (i : Nat) : l.getD i 0 < N := by
  rw [List.getD_eq_getElem?_getD]
  cases hc : l[i]? with
  | none => exact h0
  | some x => exact h x (List.mem_of_getElem? hc)
theorem syT_lt (i : Nat) : syT.getD i 0 < 70 := getD_lt (by decide) (by decide +kernel) i
theorem strAt_lt (n k : Nat) : strAt n k < 70 := by
  have h : ∀ l ∈ stT, ∀ x ∈ l, x < 70 := by decide +kernel
  unfold strAt
  refine getD_lt (by decide) (fun x hx => ?_) k
  rw [List.getD_eq_getElem?_getD] at hx
  cases hc : stT[n]? with
  | none => rw [hc] at hx; exact absurd hx List.not_mem_nil
  | some l => rw [hc] at hx; exact h l (List.mem_of_getElem? hc) x hx
def smL : List Int32 := [0, 0, 0, 0, 0, 0, 0, 0, 0, 0, 0, 0, 42, 0, 0, 0, 45, 27, 28, 29, 30, 31, 32, 33, 34, 35, 36, 37, 38, 39, 1, 2, 3, 4, 5, 6, 7, 8, 9, 10, 11, 40, 41, 12, 13, 14, 15, 16, 17, 18, 0, 19, 20, 21, 0, 22, 23, 25, 26, 24, 0, 0, 0, 0, 0, 0, 0, 0, 0, 43, 44, 46, 47, 0]
def txI : List (List Int32) := [[106, 109, 112], [119, 97, 105, 116], [105, 110], [111, 117, 116], [112, 117, 115, 104], [112, 117, 108, 108], [109, 111, 118], [114, 97, 105, 115, 101], [99, 108, 101, 97, 114], [115, 105, 103, 110, 97, 108], [115, 101, 116], [108, 111, 97, 100], [115, 116, 111, 114, 101], [], [120, 122, 101, 114, 111], [121, 122, 101, 114, 111], [120, 100, 101, 99], [121, 100, 101, 99], [100, 105, 102, 102, 101, 114], [112, 105, 110], [109, 111, 114, 101], [112, 105, 110, 115], [120], [121], [110, 117, 108, 108], [105, 115, 114], [111, 115, 114], [115, 116, 97, 116, 117, 115], [100, 105, 114, 115], [112, 99], [101, 110, 103, 105, 110, 101], [115, 116, 97, 114, 116], [108, 101, 118, 101, 108], [115, 105, 100, 101], [100, 101, 108, 97, 121], [99, 108, 111, 99, 107], [119, 114, 97, 112], [111, 117, 116, 112, 105, 110, 115], [115, 101, 116, 112, 105, 110, 115], [115, 105, 100, 101, 112, 105, 110, 115], [105, 110, 112, 105, 110, 115], [106, 117, 109, 112, 112, 105, 110], [105, 110, 108, 101, 102, 116], [111, 117, 116, 108, 101, 102, 116], [97, 117, 116, 111, 112, 117, 115, 104], [97, 117, 116, 111, 112, 117, 108, 108], [106, 111, 105, 110, 105, 110], [106, 111, 105, 110, 111, 117, 116], [102, 108, 97, 103], [105, 102, 102, 117, 108, 108], [110, 111, 98, 108, 111, 99, 107], [105, 102, 101, 109, 112, 116, 121], [110, 111, 116], [114, 101, 118, 101, 114, 115, 101], [109, 97, 110, 121], [102, 105, 114, 115, 116], [111, 114], [97, 110, 100], [102, 105, 108, 108], [115, 112, 101, 110, 116], [115, 116, 97, 108, 108], [105, 110, 112, 117, 116], [111, 117, 116, 112, 117, 116], [58], [59], [40], [60], [62], [41], [61]]
def txN : List Nat := [3, 4, 2, 3, 4, 4, 3, 5, 5, 6, 3, 4, 5, 0, 5, 5, 4, 4, 6, 3, 4, 4, 1, 1, 4, 3, 3, 6, 4, 2, 6, 5, 5, 4, 5, 5, 4, 7, 7, 8, 6, 7, 6, 7, 8, 8, 6, 7, 4, 6, 7, 7, 3, 7, 4, 5, 2, 3, 4, 5, 5, 5, 6, 1, 1, 1, 1, 1, 1, 1]
def txR : List (Nat × String × Nat) := [(59, "jmp", 0), (61, "wait", 1), (63, "in", 2), (65, "out", 3), (67, "push", 4), (69, "pull", 5), (71, "mov", 6), (73, "raise", 7), (75, "clear", 8), (77, "signal", 9), (79, "set", 10), (81, "load", 11), (83, "store", 12), (89, "", 13), (91, "xzero", 14), (93, "yzero", 15), (95, "xdec", 16), (97, "ydec", 17), (99, "differ", 18), (101, "pin", 19), (103, "more", 20), (108, "pins", 21), (110, "x", 22), (112, "y", 23), (114, "null", 24), (116, "isr", 25), (118, "osr", 26), (120, "status", 27), (122, "dirs", 28), (124, "pc", 29), (129, "engine", 30), (131, "start", 31), (133, "level", 32), (135, "side", 33), (137, "delay", 34), (139, "clock", 35), (141, "wrap", 36), (143, "outpins", 37), (145, "setpins", 38), (147, "sidepins", 39), (149, "inpins", 40), (151, "jumppin", 41), (153, "inleft", 42), (155, "outleft", 43), (157, "autopush", 44), (159, "autopull", 45), (161, "joinin", 46), (163, "joinout", 47), (165, "flag", 48), (167, "iffull", 49), (169, "noblock", 50), (171, "ifempty", 51), (173, "not", 52), (175, "reverse", 53), (177, "many", 54), (179, "first", 55), (181, "or", 56), (183, "and", 57), (185, "fill", 58), (187, "spent", 59), (189, "stall", 60), (191, "input", 61), (193, "output", 62)]
def Cst (ad : Nat → Nat → Nat) (A : Nat → Prop) (U : State) (H : Heap) : Prop :=
  va_En "PinEngines$Symbol" "LPinEngines$Symbol;" syN syF (ad 50) A U H ∧ va_Ef 74 "PinEngines$Symbol" "text" "Ljava/lang/String;" (fun i => .ref (ad 51 (syT.getD i 0))) (ad 50) A U H ∧
  va_Z "PinEngines$Symbol" "ALL" "[LPinEngines$Symbol;" (.ref (ad 53 0)) A U H ∧ va_T (.object "PinEngines$Symbol") (ad 53 0) 74 (fun i => .ref (ad 50 i)) A U H ∧
  va_Z "PinEngines$1" "$SwitchMap$PinEngines$Symbol" "[I" (.ref (ad 54 0)) A U H ∧ va_T .int (ad 54 0) 74 (fun i => .int (smL.getD i 0)) A U H ∧
  va_Z "java/lang/String" "COMPACT_STRINGS" "Z" (.int 1) A U H ∧ va_Zq "jdk/internal/util/Preconditions" "SIOOBE_FORMATTER" "Ljava/util/function/BiFunction;" A U H ∧
  (va_Z "java/lang/Integer" "DigitOnes" "[B" (.ref (ad 56 0)) A U H ∧ va_T .byte (ad 56 0) 100 (fun i => .int (nI (48 + i % 10))) A U H ∧ va_Z "java/lang/Integer" "DigitTens" "[B" (.ref (ad 57 0)) A U H ∧ va_T .byte (ad 57 0) 100 (fun i => .int (nI (48 + i / 10))) A U H ∧ vx_Zq Bundle.tN "UNASSIGNED_STACK" Bundle.steD A U H ∧ vx_Zq Bundle.tN "SUPPRESSED_SENTINEL" Bundle.listD A U H ∧ va_Nc "java/lang/IllegalArgumentException" "java/util/NoSuchElementException" U) ∧
  vk_S 70 txN txI (ad 51) (ad 52) A U H ∧ (∀ q ∈ txR, vk_R "PinEnginesModel" q.1 q.2.1 (ad 51 q.2.2) U) ∧ ∀ w ∈ nwL, va_Nw w U
theorem Cst.moved {ad : Nat → Nat → Nat} {A : Nat → Prop} {u U : State} {H : Heap} (hW : u.WarmedH U.vm) (h : Cst ad A u H) : Cst ad A U H := by
  obtain ⟨h1, h2, h3, h4, h5, h6, z1, z2, ⟨z3, z4, z5, z6, z7, z8, z9⟩, h7, h8, h9⟩ := h
  have hvm := hW.alike
  exact ⟨h1.moved hvm, h2.moved hvm, h3.moved hvm, h4.moved hvm, h5.moved hvm, h6.moved hvm, z1.moved hvm, z2.moved hvm, ⟨z3.moved hvm, z4.moved hvm, z5.moved hvm, z6.moved hvm, z7.moved hvm, z8.moved hvm, z9.moved hvm⟩, h7.moved hvm, fun q hq => vk_R.warm hW (h8 q hq), fun w hw => nw_warm (List.mem_filter.mp hw).2 hW (h9 w hw)⟩
theorem Cst.kept {ad : Nat → Nat → Nat} {A : Nat → Prop} {U : State} {H H1 : Heap} (h : Cst ad A U H) (hq : ∀ a : Nat, a < H.size → ¬ A a → H1[a]? = H[a]?) : Cst ad A U H1 := by
  obtain ⟨h1, h2, h3, h4, h5, h6, z1, z2, ⟨z3, z4, z5, z6, z7, z8, z9⟩, h7, h8, h9⟩ := h
  exact ⟨h1.kept hq, h2.kept hq, h3.kept hq, h4.kept hq, h5.kept hq, h6.kept hq, z1.kept hq, z2.kept hq, ⟨z3.kept hq, z4.kept hq, z5.kept hq, z6.kept hq, z7.kept hq, z8.kept hq, z9⟩, h7.kept hq, h8, h9⟩
theorem Cst.narrow {ad : Nat → Nat → Nat} {A B : Nat → Prop} {U : State} {H : Heap} (h : Cst ad A U H) (hAB : ∀ q, B q → A q) : Cst ad B U H := by
  obtain ⟨h1, h2, h3, h4, h5, h6, z1, z2, ⟨z3, z4, z5, z6, z7, z8, z9⟩, h7, h8, h9⟩ := h
  exact ⟨h1.narrow hAB, h2.narrow hAB, h3.narrow hAB, h4.narrow hAB, h5.narrow hAB, h6.narrow hAB, z1.narrow hAB, z2.narrow hAB, ⟨z3.narrow hAB, z4.narrow hAB, z5.narrow hAB, z6.narrow hAB, z7.narrow hAB, z8.narrow hAB, z9⟩, h7.narrow hAB, h8, h9⟩
