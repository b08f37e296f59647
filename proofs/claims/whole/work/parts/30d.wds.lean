def w_room : List Int := [114, 111, 111, 109]
def w_stair : List Int := [115, 116, 97, 105, 114]
def w_to : List Int := [116, 111]
def w_wide : List Int := [119, 105, 100, 101]
def w_part : List Int := [112, 97, 114, 116]
def w_post : List Int := [112, 111, 115, 116]
def w_clerk : List Int := [99, 108, 101, 114, 107]
def w_in : List Int := [105, 110]
def w_of : List Int := [111, 102]
def w_pace : List Int := [112, 97, 99, 101]
def w_bag : List Int := [98, 97, 103]
def w_turns : List Int := [116, 117, 114, 110, 115]
def w_dear : List Int := [100, 101, 97, 114]
def w_hears : List Int := [104, 101, 97, 114, 115]
def w_signs : List Int := [115, 105, 103, 110, 115]
def w_smoke : List Int := [115, 109, 111, 107, 101]
def w_drill : List Int := [100, 114, 105, 108, 108]
def w_minute : List Int := [109, 105, 110, 117, 116, 101]
def w_crowd : List Int := [99, 114, 111, 119, 100]
def w_other : List Int := [111, 116, 104, 101, 114]
def w_long : List Int := [108, 111, 110, 103]
def w_number : List Int := [110, 117, 109, 98, 101, 114]
def w_out : List Int := [111, 117, 116]
def w_signed : List Int := [115, 105, 103, 110, 101, 100]
def w_meets : List Int := [109, 101, 101, 116, 115]
def w_or : List Int := [111, 114]
def w_and : List Int := [97, 110, 100]
def w_not : List Int := [110, 111, 116]
def w_all : List Int := [97, 108, 108]
def w_min : List Int := [109, 105, 110]
def w_max : List Int := [109, 97, 120]
def w_first : List Int := [102, 105, 114, 115, 116]
def w_last : List Int := [108, 97, 115, 116]
def w_often : List Int := [111, 102, 116, 101, 110]
def w_total : List Int := [116, 111, 116, 97, 108]
def w_most : List Int := [109, 111, 115, 116]
def w_least : List Int := [108, 101, 97, 115, 116]
def ownW : List (List Int) := [w_room, w_stair, w_to, w_wide, w_part, w_post, w_clerk, w_in, w_of, w_pace, w_bag, w_turns, w_dear, w_hears, w_signs, w_smoke, w_drill, w_minute, w_crowd, w_other, w_long, w_number, w_out, w_signed, w_meets, w_or, w_and, w_not, w_all, w_min, w_max]
def wdT : List (Nat × List Int) := [(145, w_room), (146, w_stair), (147, w_to), (148, w_wide), (149, w_part), (150, w_post), (151, w_clerk), (152, w_in), (153, w_of), (154, w_pace), (155, w_bag), (156, w_turns), (157, w_dear), (158, w_hears), (159, w_signs), (160, w_smoke), (161, w_drill), (162, w_minute), (163, w_crowd), (164, w_other), (165, w_long), (166, w_number), (167, w_out), (168, w_signed), (169, w_meets), (170, w_or), (171, w_and), (172, w_not), (173, w_all), (174, w_min), (175, w_max), (204, w_first), (205, w_last), (206, w_often), (207, w_total), (208, w_most), (209, w_least), (210, w_not), (211, w_and), (212, w_or), (213, w_all), (214, w_min), (215, w_max), (216, w_pace), (217, w_bag), (218, w_drill), (219, w_minute), (220, w_crowd), (221, w_other), (222, w_long), (223, w_number), (224, w_post), (225, w_out), (226, w_signed), (227, w_meets)]
def Wd (M : ax_M) : Prop := ∀ e ∈ wdT, ∀ i, i < e.2.length → M e.1 i = e.2.getD i 0
theorem wdT_b : ∀ e ∈ wdT, (145 ≤ e.1 ∧ e.1 < 176) ∨ (204 ≤ e.1 ∧ e.1 < 228) := by decide
def wdok (W : ax_W) : Bool := (W.1.all (fun e => Nat.ble e.2 145 || Nat.ble 176 e.1) && W.2.all (fun e => Nat.ble (e.1 + 1) 145 || Nat.ble 176 e.1)) && (W.1.all (fun e => Nat.ble e.2 204 || Nat.ble 228 e.1) && W.2.all (fun e => Nat.ble (e.1 + 1) 204 || Nat.ble 228 e.1))
theorem Wd.sb {W : ax_W} {M M1 : ax_M} (h : Wd M) (hS : Sb W M M1) (hw : wdok W = true) : Wd M1 := by
  unfold wdok at hw
  rw [Bool.and_eq_true] at hw
  intro e he i hi
  rcases wdT_b e he with z | z
  · rw [hS _ _ (wbo 145 176 hw.1 z.1 z.2)]; exact h e he i hi
  · rw [hS _ _ (wbo 204 228 hw.2 z.1 z.2)]; exact h e he i hi
theorem wa145 {M : ax_M} (h : Wd M) : ∀ i, i < w_room.length → M 145 i = w_room.getD i 0 := h (145, w_room) (by decide)
theorem wa146 {M : ax_M} (h : Wd M) : ∀ i, i < w_stair.length → M 146 i = w_stair.getD i 0 := h (146, w_stair) (by decide)
theorem wa147 {M : ax_M} (h : Wd M) : ∀ i, i < w_to.length → M 147 i = w_to.getD i 0 := h (147, w_to) (by decide)
theorem wa148 {M : ax_M} (h : Wd M) : ∀ i, i < w_wide.length → M 148 i = w_wide.getD i 0 := h (148, w_wide) (by decide)
theorem wa149 {M : ax_M} (h : Wd M) : ∀ i, i < w_part.length → M 149 i = w_part.getD i 0 := h (149, w_part) (by decide)
theorem wa150 {M : ax_M} (h : Wd M) : ∀ i, i < w_post.length → M 150 i = w_post.getD i 0 := h (150, w_post) (by decide)
theorem wa151 {M : ax_M} (h : Wd M) : ∀ i, i < w_clerk.length → M 151 i = w_clerk.getD i 0 := h (151, w_clerk) (by decide)
theorem wa152 {M : ax_M} (h : Wd M) : ∀ i, i < w_in.length → M 152 i = w_in.getD i 0 := h (152, w_in) (by decide)
theorem wa153 {M : ax_M} (h : Wd M) : ∀ i, i < w_of.length → M 153 i = w_of.getD i 0 := h (153, w_of) (by decide)
theorem wa154 {M : ax_M} (h : Wd M) : ∀ i, i < w_pace.length → M 154 i = w_pace.getD i 0 := h (154, w_pace) (by decide)
theorem wa155 {M : ax_M} (h : Wd M) : ∀ i, i < w_bag.length → M 155 i = w_bag.getD i 0 := h (155, w_bag) (by decide)
theorem wa156 {M : ax_M} (h : Wd M) : ∀ i, i < w_turns.length → M 156 i = w_turns.getD i 0 := h (156, w_turns) (by decide)
theorem wa157 {M : ax_M} (h : Wd M) : ∀ i, i < w_dear.length → M 157 i = w_dear.getD i 0 := h (157, w_dear) (by decide)
theorem wa158 {M : ax_M} (h : Wd M) : ∀ i, i < w_hears.length → M 158 i = w_hears.getD i 0 := h (158, w_hears) (by decide)
theorem wa159 {M : ax_M} (h : Wd M) : ∀ i, i < w_signs.length → M 159 i = w_signs.getD i 0 := h (159, w_signs) (by decide)
theorem wa160 {M : ax_M} (h : Wd M) : ∀ i, i < w_smoke.length → M 160 i = w_smoke.getD i 0 := h (160, w_smoke) (by decide)
theorem wa161 {M : ax_M} (h : Wd M) : ∀ i, i < w_drill.length → M 161 i = w_drill.getD i 0 := h (161, w_drill) (by decide)
theorem wa162 {M : ax_M} (h : Wd M) : ∀ i, i < w_minute.length → M 162 i = w_minute.getD i 0 := h (162, w_minute) (by decide)
theorem wa163 {M : ax_M} (h : Wd M) : ∀ i, i < w_crowd.length → M 163 i = w_crowd.getD i 0 := h (163, w_crowd) (by decide)
theorem wa164 {M : ax_M} (h : Wd M) : ∀ i, i < w_other.length → M 164 i = w_other.getD i 0 := h (164, w_other) (by decide)
theorem wa165 {M : ax_M} (h : Wd M) : ∀ i, i < w_long.length → M 165 i = w_long.getD i 0 := h (165, w_long) (by decide)
theorem wa166 {M : ax_M} (h : Wd M) : ∀ i, i < w_number.length → M 166 i = w_number.getD i 0 := h (166, w_number) (by decide)
theorem wa167 {M : ax_M} (h : Wd M) : ∀ i, i < w_out.length → M 167 i = w_out.getD i 0 := h (167, w_out) (by decide)
theorem wa168 {M : ax_M} (h : Wd M) : ∀ i, i < w_signed.length → M 168 i = w_signed.getD i 0 := h (168, w_signed) (by decide)
theorem wa169 {M : ax_M} (h : Wd M) : ∀ i, i < w_meets.length → M 169 i = w_meets.getD i 0 := h (169, w_meets) (by decide)
theorem wa170 {M : ax_M} (h : Wd M) : ∀ i, i < w_or.length → M 170 i = w_or.getD i 0 := h (170, w_or) (by decide)
theorem wa171 {M : ax_M} (h : Wd M) : ∀ i, i < w_and.length → M 171 i = w_and.getD i 0 := h (171, w_and) (by decide)
theorem wa172 {M : ax_M} (h : Wd M) : ∀ i, i < w_not.length → M 172 i = w_not.getD i 0 := h (172, w_not) (by decide)
theorem wa173 {M : ax_M} (h : Wd M) : ∀ i, i < w_all.length → M 173 i = w_all.getD i 0 := h (173, w_all) (by decide)
theorem wa174 {M : ax_M} (h : Wd M) : ∀ i, i < w_min.length → M 174 i = w_min.getD i 0 := h (174, w_min) (by decide)
theorem wa175 {M : ax_M} (h : Wd M) : ∀ i, i < w_max.length → M 175 i = w_max.getD i 0 := h (175, w_max) (by decide)
theorem wa204 {M : ax_M} (h : Wd M) : ∀ i, i < w_first.length → M 204 i = w_first.getD i 0 := h (204, w_first) (by decide)
theorem wa205 {M : ax_M} (h : Wd M) : ∀ i, i < w_last.length → M 205 i = w_last.getD i 0 := h (205, w_last) (by decide)
theorem wa206 {M : ax_M} (h : Wd M) : ∀ i, i < w_often.length → M 206 i = w_often.getD i 0 := h (206, w_often) (by decide)
theorem wa207 {M : ax_M} (h : Wd M) : ∀ i, i < w_total.length → M 207 i = w_total.getD i 0 := h (207, w_total) (by decide)
theorem wa208 {M : ax_M} (h : Wd M) : ∀ i, i < w_most.length → M 208 i = w_most.getD i 0 := h (208, w_most) (by decide)
theorem wa209 {M : ax_M} (h : Wd M) : ∀ i, i < w_least.length → M 209 i = w_least.getD i 0 := h (209, w_least) (by decide)
theorem wa210 {M : ax_M} (h : Wd M) : ∀ i, i < w_not.length → M 210 i = w_not.getD i 0 := h (210, w_not) (by decide)
theorem wa211 {M : ax_M} (h : Wd M) : ∀ i, i < w_and.length → M 211 i = w_and.getD i 0 := h (211, w_and) (by decide)
theorem wa212 {M : ax_M} (h : Wd M) : ∀ i, i < w_or.length → M 212 i = w_or.getD i 0 := h (212, w_or) (by decide)
theorem wa213 {M : ax_M} (h : Wd M) : ∀ i, i < w_all.length → M 213 i = w_all.getD i 0 := h (213, w_all) (by decide)
theorem wa214 {M : ax_M} (h : Wd M) : ∀ i, i < w_min.length → M 214 i = w_min.getD i 0 := h (214, w_min) (by decide)
theorem wa215 {M : ax_M} (h : Wd M) : ∀ i, i < w_max.length → M 215 i = w_max.getD i 0 := h (215, w_max) (by decide)
theorem wa216 {M : ax_M} (h : Wd M) : ∀ i, i < w_pace.length → M 216 i = w_pace.getD i 0 := h (216, w_pace) (by decide)
theorem wa217 {M : ax_M} (h : Wd M) : ∀ i, i < w_bag.length → M 217 i = w_bag.getD i 0 := h (217, w_bag) (by decide)
theorem wa218 {M : ax_M} (h : Wd M) : ∀ i, i < w_drill.length → M 218 i = w_drill.getD i 0 := h (218, w_drill) (by decide)
theorem wa219 {M : ax_M} (h : Wd M) : ∀ i, i < w_minute.length → M 219 i = w_minute.getD i 0 := h (219, w_minute) (by decide)
theorem wa220 {M : ax_M} (h : Wd M) : ∀ i, i < w_crowd.length → M 220 i = w_crowd.getD i 0 := h (220, w_crowd) (by decide)
theorem wa221 {M : ax_M} (h : Wd M) : ∀ i, i < w_other.length → M 221 i = w_other.getD i 0 := h (221, w_other) (by decide)
theorem wa222 {M : ax_M} (h : Wd M) : ∀ i, i < w_long.length → M 222 i = w_long.getD i 0 := h (222, w_long) (by decide)
theorem wa223 {M : ax_M} (h : Wd M) : ∀ i, i < w_number.length → M 223 i = w_number.getD i 0 := h (223, w_number) (by decide)
theorem wa224 {M : ax_M} (h : Wd M) : ∀ i, i < w_post.length → M 224 i = w_post.getD i 0 := h (224, w_post) (by decide)
theorem wa225 {M : ax_M} (h : Wd M) : ∀ i, i < w_out.length → M 225 i = w_out.getD i 0 := h (225, w_out) (by decide)
theorem wa226 {M : ax_M} (h : Wd M) : ∀ i, i < w_signed.length → M 226 i = w_signed.getD i 0 := h (226, w_signed) (by decide)
theorem wa227 {M : ax_M} (h : Wd M) : ∀ i, i < w_meets.length → M 227 i = w_meets.getD i 0 := h (227, w_meets) (by decide)
theorem tb12 : ax_by ((-12 : Int) - 1) = w_room ++ tlW [w_stair, w_part, w_clerk, w_turns, w_dear, w_hears, w_signs, w_smoke] := by decide +kernel
theorem tbn12 : (∀ x ∈ w_room, x ≠ 32) ∧ ∀ v ∈ ([w_stair, w_part, w_clerk, w_turns, w_dear, w_hears, w_signs, w_smoke] : List (List Int)), ∀ x ∈ v, x ≠ 32 := by decide
theorem ts12 : ax_isS (-12) = true := by decide +kernel
theorem tb14 : ax_by ((-14 : Int) - 1) = w_room ++ tlW [w_stair, w_to, w_wide, w_part, w_post, w_clerk, w_in, w_of, w_pace, w_bag, w_turns, w_dear, w_hears, w_signs, w_smoke, w_drill, w_minute, w_crowd, w_other, w_long, w_number, w_out, w_signed, w_meets, w_or, w_and, w_not, w_all, w_min, w_max] := by decide +kernel
theorem tbn14 : (∀ x ∈ w_room, x ≠ 32) ∧ ∀ v ∈ ([w_stair, w_to, w_wide, w_part, w_post, w_clerk, w_in, w_of, w_pace, w_bag, w_turns, w_dear, w_hears, w_signs, w_smoke, w_drill, w_minute, w_crowd, w_other, w_long, w_number, w_out, w_signed, w_meets, w_or, w_and, w_not, w_all, w_min, w_max] : List (List Int)), ∀ x ∈ v, x ≠ 32 := by decide
theorem ts14 : ax_isS (-14) = true := by decide +kernel
theorem tb16 : ax_by ((-16 : Int) - 1) = w_to ++ tlW [] := by decide +kernel
theorem tbn16 : (∀ x ∈ w_to, x ≠ 32) ∧ ∀ v ∈ ([] : List (List Int)), ∀ x ∈ v, x ≠ 32 := by decide
theorem ts16 : ax_isS (-16) = true := by decide +kernel
theorem tb18 : ax_by ((-18 : Int) - 1) = w_wide ++ tlW [] := by decide +kernel
theorem tbn18 : (∀ x ∈ w_wide, x ≠ 32) ∧ ∀ v ∈ ([] : List (List Int)), ∀ x ∈ v, x ≠ 32 := by decide
theorem ts18 : ax_isS (-18) = true := by decide +kernel
theorem tb20 : ax_by ((-20 : Int) - 1) = w_post ++ tlW [] := by decide +kernel
theorem tbn20 : (∀ x ∈ w_post, x ≠ 32) ∧ ∀ v ∈ ([] : List (List Int)), ∀ x ∈ v, x ≠ 32 := by decide
theorem ts20 : ax_isS (-20) = true := by decide +kernel
theorem tb22 : ax_by ((-22 : Int) - 1) = w_in ++ tlW [] := by decide +kernel
theorem tbn22 : (∀ x ∈ w_in, x ≠ 32) ∧ ∀ v ∈ ([] : List (List Int)), ∀ x ∈ v, x ≠ 32 := by decide
theorem ts22 : ax_isS (-22) = true := by decide +kernel
theorem tb24 : ax_by ((-24 : Int) - 1) = w_of ++ tlW [] := by decide +kernel
theorem tbn24 : (∀ x ∈ w_of, x ≠ 32) ∧ ∀ v ∈ ([] : List (List Int)), ∀ x ∈ v, x ≠ 32 := by decide
theorem ts24 : ax_isS (-24) = true := by decide +kernel
theorem tb26 : ax_by ((-26 : Int) - 1) = w_pace ++ tlW [] := by decide +kernel
theorem tbn26 : (∀ x ∈ w_pace, x ≠ 32) ∧ ∀ v ∈ ([] : List (List Int)), ∀ x ∈ v, x ≠ 32 := by decide
theorem ts26 : ax_isS (-26) = true := by decide +kernel
theorem tb28 : ax_by ((-28 : Int) - 1) = w_bag ++ tlW [] := by decide +kernel
theorem tbn28 : (∀ x ∈ w_bag, x ≠ 32) ∧ ∀ v ∈ ([] : List (List Int)), ∀ x ∈ v, x ≠ 32 := by decide
theorem ts28 : ax_isS (-28) = true := by decide +kernel
theorem tb30 : ax_by ((-30 : Int) - 1) = w_pace ++ tlW [w_bag, w_drill, w_minute, w_crowd] := by decide +kernel
theorem tbn30 : (∀ x ∈ w_pace, x ≠ 32) ∧ ∀ v ∈ ([w_bag, w_drill, w_minute, w_crowd] : List (List Int)), ∀ x ∈ v, x ≠ 32 := by decide
theorem ts30 : ax_isS (-30) = true := by decide +kernel
theorem tb32 : ax_by ((-32 : Int) - 1) = w_not ++ tlW [] := by decide +kernel
theorem tbn32 : (∀ x ∈ w_not, x ≠ 32) ∧ ∀ v ∈ ([] : List (List Int)), ∀ x ∈ v, x ≠ 32 := by decide
theorem ts32 : ax_isS (-32) = true := by decide +kernel
theorem tb34 : ax_by ((-34 : Int) - 1) = w_all ++ tlW [] := by decide +kernel
theorem tbn34 : (∀ x ∈ w_all, x ≠ 32) ∧ ∀ v ∈ ([] : List (List Int)), ∀ x ∈ v, x ≠ 32 := by decide
theorem ts34 : ax_isS (-34) = true := by decide +kernel
theorem tb36 : ax_by ((-36 : Int) - 1) = w_min ++ tlW [] := by decide +kernel
theorem tbn36 : (∀ x ∈ w_min, x ≠ 32) ∧ ∀ v ∈ ([] : List (List Int)), ∀ x ∈ v, x ≠ 32 := by decide
theorem ts36 : ax_isS (-36) = true := by decide +kernel
theorem tb38 : ax_by ((-38 : Int) - 1) = w_max ++ tlW [] := by decide +kernel
theorem tbn38 : (∀ x ∈ w_max, x ≠ 32) ∧ ∀ v ∈ ([] : List (List Int)), ∀ x ∈ v, x ≠ 32 := by decide
theorem ts38 : ax_isS (-38) = true := by decide +kernel
theorem tb40 : ax_by ((-40 : Int) - 1) = w_meets ++ tlW [] := by decide +kernel
theorem tbn40 : (∀ x ∈ w_meets, x ≠ 32) ∧ ∀ v ∈ ([] : List (List Int)), ∀ x ∈ v, x ≠ 32 := by decide
theorem ts40 : ax_isS (-40) = true := by decide +kernel
theorem tb42 : ax_by ((-42 : Int) - 1) = w_and ++ tlW [] := by decide +kernel
theorem tbn42 : (∀ x ∈ w_and, x ≠ 32) ∧ ∀ v ∈ ([] : List (List Int)), ∀ x ∈ v, x ≠ 32 := by decide
theorem ts42 : ax_isS (-42) = true := by decide +kernel
theorem tb44 : ax_by ((-44 : Int) - 1) = w_or ++ tlW [] := by decide +kernel
theorem tbn44 : (∀ x ∈ w_or, x ≠ 32) ∧ ∀ v ∈ ([] : List (List Int)), ∀ x ∈ v, x ≠ 32 := by decide
theorem ts44 : ax_isS (-44) = true := by decide +kernel
theorem tb46 : ax_by ((-46 : Int) - 1) = w_pace ++ tlW [w_bag, w_drill, w_other, w_long] := by decide +kernel
theorem tbn46 : (∀ x ∈ w_pace, x ≠ 32) ∧ ∀ v ∈ ([w_bag, w_drill, w_other, w_long] : List (List Int)), ∀ x ∈ v, x ≠ 32 := by decide
theorem ts46 : ax_isS (-46) = true := by decide +kernel
theorem tb48 : ax_by ((-48 : Int) - 1) = w_pace ++ tlW [w_bag, w_drill, w_number, w_post, w_out, w_signed] := by decide +kernel
theorem tbn48 : (∀ x ∈ w_pace, x ≠ 32) ∧ ∀ v ∈ ([w_bag, w_drill, w_number, w_post, w_out, w_signed] : List (List Int)), ∀ x ∈ v, x ≠ 32 := by decide
theorem ts48 : ax_isS (-48) = true := by decide +kernel
theorem tb50 : ax_by ((-50 : Int) - 1) = w_first ++ tlW [w_last, w_often, w_total, w_most, w_least] := by decide +kernel
theorem tbn50 : (∀ x ∈ w_first, x ≠ 32) ∧ ∀ v ∈ ([w_last, w_often, w_total, w_most, w_least] : List (List Int)), ∀ x ∈ v, x ≠ 32 := by decide
theorem ts50 : ax_isS (-50) = true := by decide +kernel
abbrev FR : Type := Option (Int × Int)
def wdR (T : Nat → Int) (n : Nat) (q : PS) (w : List Int) : FR := if isW T n q w = true then none else some (1, (q.1 : Int))
def sgR (T : Nat → Int) (n : Nat) (q : PS) (c : Int) : FR := if isG T n q c = true then none else some (1, (q.1 : Int))
def nuV (T : Nat → Int) (n : Nat) (q : PS) : Int := nv T q.1 (af T n q - q.1)
def nuR (T : Nat → Int) (n : Nat) (q : PS) (lo hi : Int) : FR := if ¬ kd T n q = 2 then some (1, (q.1 : Int)) else if 4 < af T n q - q.1 then some (1, ((q.1 + 4 : Nat) : Int)) else if lo ≤ nuV T n q ∧ nuV T n q ≤ hi then none else some (2, (q.1 : Int))
def naR (T : Nat → Int) (n : Nat) (q : PS) : FR := if ¬ kd T n q = 1 then some (1, (q.1 : Int)) else if 6 < af T n q - q.1 then some (1, ((q.1 + 6 : Nat) : Int)) else if fnd T n q 0 ownW = -1 then none else some (1, (q.1 : Int))
def naL (T : Nat → Int) (q : PS) (i : Nat) : Nat := (T (q.1 + i) - 96).toNat
def nc (f : Nat → Nat) : Nat → Nat
  | 0 => 0
  | n + 1 => nc f n + f n * 2 ^ (5 * n)
def nr (f : Nat → Nat) : Nat → Nat
  | 0 => 0
  | n + 1 => 27 * nr f n + f n
def CR (T : Nat → Int) (n : Nat) (r : FR) (q : PS) (E : ax_M → Prop) (x : Int) (M : ax_M) : Prop := (∃ f p, r = some (f, p) ∧ x = 0 ∧ CF f p M) ∨ (r = none ∧ x = 1 ∧ CT T n q M ∧ E M)
section CRS
variable {L : Nat} {X : Nat → Int} {M : ax_M} {T : Nat → Int} {n : Nat} {q : PS}
theorem m95r (hF : Fix M) (hn : n ≤ 1600) (hq : CT T n q M) (hqn : q.1 ≤ n) {a : Int} (ha : ax_isS a = true) {w : List Int} (hb : ax_by (a - 1) = w) (hw0 : ∀ x ∈ w, x ≠ 32) : ax_Ev L X SH 5 95 [(2, 1), (2, a)] M (R1 0 (fun x M' => Sb WNU M M' ∧ CR T n (wdR T n q w) (nx T n q) (fun _ => True) x M')) := by
  refine (m95 hF hn hq hqn ha hb hw0).imp (fun r M' hp => ?_)
  obtain ⟨x, e, hp⟩ := hp
  refine ⟨x, e, ?_⟩
  unfold CR wdR
  rcases hp with ⟨h1, h2, h3, h4⟩ | ⟨h1, h2, h3, h4⟩
  · rw [if_pos h1]; exact ⟨h3.mono rfl, Or.inr ⟨rfl, h2, h4, trivial⟩⟩
  · rw [if_neg (by rw [h1]; decide)]; exact ⟨h3.mono rfl, Or.inl ⟨_, _, rfl, h2, h4⟩⟩
theorem m96r (hF : Fix M) (hn : n ≤ 1600) (hq : CT T n q M) (hqn : q.1 ≤ n) {c : Int} : ax_Ev L X SH 2 96 [(2, 1), (0, c)] M (R1 0 (fun x M' => Sb WNU M M' ∧ CR T n (sgR T n q c) (nx T n q) (fun _ => True) x M')) := by
  refine (m96 hF hn hq hqn).imp (fun r M' hp => ?_)
  obtain ⟨x, e, hp⟩ := hp
  refine ⟨x, e, ?_⟩
  unfold CR sgR
  rcases hp with ⟨h1, h2, h3, h4⟩ | ⟨h1, h2, h3, h4⟩
  · rw [if_pos h1]; exact ⟨h3.mono rfl, Or.inr ⟨rfl, h2, h4, trivial⟩⟩
  · rw [if_neg (by rw [h1]; decide)]; exact ⟨h3.mono rfl, Or.inl ⟨_, _, rfl, h2, h4⟩⟩
theorem m97r (hF : Fix M) (hn : n ≤ 1600) (hq : CT T n q M) (hqn : q.1 ≤ n) {lo hi : Int} : ax_Ev L X SH 2 97 [(2, 1), (0, lo), (0, hi)] M (R1 0 (fun x M' => Sb WNU M M' ∧ CR T n (nuR T n q lo hi) (nx T n q) (fun M' => M' 1 6 = nuV T n q) x M')) := by
  refine (m97 hF hn hq hqn).imp (fun r M' hp => ?_)
  obtain ⟨x, e, hp0, hp⟩ := hp
  refine ⟨x, e, hp0, ?_⟩
  unfold CR nuR
  rcases hp with ⟨h1, h2, h3⟩ | ⟨h1, h2, h3, h4⟩ | ⟨h1, h2, h3, h4, h5⟩ | ⟨h1, h2, h3, h4, h5⟩
  · rw [if_pos h1]; exact Or.inl ⟨_, _, rfl, h2, h3⟩
  · rw [if_neg (fun z => z h1), if_pos h2]; exact Or.inl ⟨_, _, rfl, h3, h4⟩
  · rw [if_neg (fun z => z h1), if_neg (by omega), if_neg (show ¬ (lo ≤ nuV T n q ∧ nuV T n q ≤ hi) from h3)]; exact Or.inl ⟨_, _, rfl, h4, h5⟩
  · rw [if_neg (fun z => z h1), if_neg (by omega), if_pos (show lo ≤ nuV T n q ∧ nuV T n q ≤ hi from h3)]; exact Or.inr ⟨rfl, h4, h5⟩
theorem nc_lt {f : Nat → Nat} : ∀ m, (∀ i, i < m → 1 ≤ f i ∧ f i ≤ 26) → nc f m < 2 ^ (5 * m) := by
  intro m
  induction m with
  | zero => intro _; exact Nat.one_pos
  | succ m ih =>
    intro h
    have e : nc f (m + 1) = nc f m + f m * 2 ^ (5 * m) := rfl
    have h1 := ih (fun i hi => h i (by omega))
    have h2 := h m (by omega)
    have e2 : 2 ^ (5 * (m + 1)) = 32 * 2 ^ (5 * m) := by rw [show 5 * (m + 1) = 5 * m + 5 by omega, Nat.pow_add]; omega
    have h3 : f m * 2 ^ (5 * m) ≤ 26 * 2 ^ (5 * m) := Nat.mul_le_mul_right _ h2.2
    rw [e, e2]; omega
theorem naL_b (h : kd T n q = 1) : ∀ i, i < af T n q - q.1 → 1 ≤ naL T q i ∧ naL T q i ≤ 26 ∧ T (q.1 + i) = (naL T q i : Int) + 96 := by
  intro i hi
  have h2 := (kd_1 h).2.2.2.2
  have h3 := of_decide_eq_true (rn_in (p := isLb) (T := T) (i := q.1) (k := q.1 + i) (n := n) (by omega) (by omega))
  unfold naL; omega
theorem m98 (hF : Fix M) (hn : n ≤ 1600) (hq : CT T n q M) (hqn : q.1 ≤ n) : ax_Ev L X SH 5 98 [(2, 1)] M (R1 0 (fun x M' => Sb WNA M M' ∧ CR T n (naR T n q) (nx T n q) (fun M' => M' 1 7 = (nc (naL T q) (af T n q - q.1) : Int) ∧ M' 1 5 = (q.1 : Int)) x M')) := by
  show ax_G L X SH 5 98 0 [(2, 1), (3, 0)] [] M _
  obtain ⟨P, hP⟩ : ∃ P, P = fun (x : Int) (M' : ax_M) => Sb WNA M M' ∧ CR T n (naR T n q) (nx T n q) (fun M' => M' 1 7 = (nc (naL T q) (af T n q - q.1) : Int) ∧ M' 1 5 = (q.1 : Int)) x M' := ⟨_, rfl⟩
  rw [← hP]
  have hC := at98
  have hw : wok WNA = true := by decide +kernel
  have hS : Sb WNA M M := Sb.refl
  have hab := af_b (T := T) hqn
  have hlt := fun h : kd T n q = 1 => naL_b (T := T) (n := n) (q := q) h
  obtain ⟨m, hm⟩ : ∃ m, m = af T n q - q.1 := ⟨_, rfl⟩
  rw [← hm] at hP hlt
  have e0 : naR T n q = if ¬ kd T n q = 1 then some (1, (q.1 : Int)) else if 6 < m then some (1, ((q.1 + 6 : Nat) : Int)) else if fnd T n q 0 ownW = -1 then none else some (1, (q.1 : Int)) := by rw [hm]; rfl
  have c92 : ax_Ev L X SH 4 92 [(2, 1), (2, -14)] M (R1 0 (fun x M' => x = fnd T n q 0 ownW ∧ M' = M)) := m92 hF hn hq hqn ts14 tb14 tbn14.1 tbn14.2
  have l1 : kd T n q = 1 → m ≤ 6 → fnd T n q 0 ownW = -1 → ∀ (mm i : Nat), i + mm = m → ∀ ll M2, (ll = [(2, 1), (0, ((q.1 + i : Nat) : Int))] ∧ Sb WNA M M2 ∧ CT T n q M2 ∧ M2 1 7 = (nc (naL T q) i : Int)) → ax_G L X SH 5 98 42 ll [] M2 (R1 0 P) := by
    intro hk hm6 hno
    refine lp ?_ ?_
    · rintro ll M2 ⟨rfl, hS, hq2, e7⟩
      rw [show q.1 + m = af T n q by omega]
      have hq3 : CT T n q (ax_up M2 1 5 (q.1 : Int)) := ⟨(ax_up_of (by decide)).trans hq2.1, (ax_up_of (by decide)).trans hq2.2.1, (ax_up_of (by decide)).trans hq2.2.2.1, (ax_up_of (by decide)).trans hq2.2.2.2.1, fun k hk2 => (ax_up2n (by decide)).trans (hq2.2.2.2.2.1 k hk2), (ax_up_of (by decide)).trans hq2.2.2.2.2.2.1, (ax_up_of (by decide)).trans hq2.2.2.2.2.2.2⟩
      refine g3 hC rfl rfl ?_
      refine g3 hC rfl rfl ?_
      refine g19 hC rfl rfl (Nat.le_of_ble_eq_true rfl) rfl hq2.2.2.2.1 ?_
      refine g13g hC rfl (fun h45 => ?_) (fun h45 => (by omega))
      refine g3 hC rfl rfl ?_
      refine g3 hC rfl rfl ?_
      refine g19 hC rfl rfl (Nat.le_of_ble_eq_true rfl) rfl hq2.2.2.1 ?_
      refine g20s hC rfl rfl (Nat.le_of_ble_eq_true rfl) rfl hS rfl (fun hS => ?_)
      refine g3 hC rfl rfl ?_
      refine c0 hC rfl rfl rfl (Nat.le_of_ble_eq_true rfl) (Nat.le_of_ble_eq_true rfl) rfl (m90q (hS.fix hw hF) hn hq3 hqn) (Nat.le_of_ble_eq_true rfl) (fun M2 hr => ?_)
      obtain ⟨hS1, hc⟩ := hr; have hS := hS.then hS1 rfl
      refine g0 hC rfl ?_
      refine ret3 hC rfl ⟨by omega, by omega⟩ ?_
      rw [hP]
      refine ⟨hS, Or.inr ⟨?_, rfl, hc, (hS1 1 7 rfl).trans ((ax_up_of (by decide)).trans e7), (hS1 1 5 rfl).trans ax_up_at⟩⟩
      rw [e0, if_neg (fun z => z hk), if_neg (by omega), if_pos hno]
    · rintro i hi ll M2 ⟨rfl, hS, hq2, e7⟩ hnext
      have hb := nc_lt (f := naL T q) i (fun k hk2 => ⟨(hlt hk k (by omega)).1, (hlt hk k (by omega)).2.1⟩)
      have hl := hlt hk i (by omega)
      have hp : (2 : Nat) ^ (5 * i) ≤ 2 ^ 25 := Nat.pow_le_pow_right (by decide) (by omega)
      have hp2 : (2 : Nat) ^ 25 = 33554432 := by decide
      have es : naL T q i <<< (5 * i) = naL T q i * 2 ^ (5 * i) := Nat.shiftLeft_eq _ _
      have hmul : naL T q i * 2 ^ (5 * i) ≤ 26 * 2 ^ (5 * i) := Nat.mul_le_mul_right _ hl.2.1
      have eo : (nc (naL T q) i) ||| (naL T q i <<< (5 * i)) = nc (naL T q) (i + 1) := by
        have h := Nat.shiftLeft_add_eq_or_of_lt hb (naL T q i)
        rw [Nat.or_comm, ← h, es]
        show _ = nc (naL T q) i + naL T q i * 2 ^ (5 * i)
        omega
      refine g3 hC rfl rfl ?_
      refine g3 hC rfl rfl ?_
      refine g19 hC rfl rfl (Nat.le_of_ble_eq_true rfl) rfl hq2.2.2.2.1 ?_
      refine g13g hC rfl (fun h45 => (by omega)) (fun h45 => ?_)
      refine g3 hC rfl rfl ?_
      refine g16 hC rfl (by decide) ?_
      refine g19 hC rfl rfl (Nat.le_of_ble_eq_true rfl) rfl e7 ?_
      refine g3 hC rfl rfl ?_
      refine g19 hC rfl rfl (Nat.le_of_ble_eq_true rfl) rfl ((hS.fix hw hF).g rfl) ?_
      refine g3 hC rfl rfl ?_
      refine r21 (q.1 + i) hC rfl rfl rfl (Or.inl rfl) (by omega) (hq2.2.2.2.2.1 _ (by omega)) ?_
      refine g0 hC rfl ?_
      refine g6s hC rfl ⟨by omega, by omega⟩ ?_
      refine g0 hC rfl ?_
      refine g6a hC rfl ⟨by omega, by omega⟩ ?_
      refine g0 hC rfl ?_
      refine g3 hC rfl rfl ?_
      refine g3 hC rfl rfl ?_
      refine g19 hC rfl rfl (Nat.le_of_ble_eq_true rfl) rfl hq2.2.2.1 ?_
      refine g6s hC rfl ⟨by omega, by omega⟩ ?_
      refine g6m hC rfl ⟨by omega, by omega⟩ ?_
      rw [show T (q.1 + i) - 97 + 1 = (naL T q i : Int) by omega, show (5 : Int) * (((q.1 + i : Nat) : Int) - (q.1 : Int)) = ((5 * i : Nat) : Int) by omega]
      refine g6 hC rfl (congrArg some (shlN (a := naL T q i) (k := 5 * i) (by omega) (by omega))) ?_
      refine g6 hC rfl (congrArg some (orN (a := nc (naL T q) i) (b := naL T q i <<< (5 * i)) (by omega) (by omega))) ?_
      refine g20s hC rfl rfl (Nat.le_of_ble_eq_true rfl) rfl hS rfl (fun hS => ?_)
      refine n1 hC rfl rfl ⟨by omega, by omega⟩ ?_
      refine g14 hC rfl ?_
      refine hnext _ _ ⟨by rw [show ((q.1 + i : Nat) : Int) + 1 = ((q.1 + (i + 1) : Nat) : Int) by omega], hS, ?_, by rw [ax_up_at, eo]⟩
      exact ⟨(ax_up_of (by decide)).trans hq2.1, (ax_up_of (by decide)).trans hq2.2.1, (ax_up_of (by decide)).trans hq2.2.2.1, (ax_up_of (by decide)).trans hq2.2.2.2.1, fun k hk2 => (ax_up2n (by decide)).trans (hq2.2.2.2.2.1 k hk2), (ax_up_of (by decide)).trans hq2.2.2.2.2.2.1, (ax_up_of (by decide)).trans hq2.2.2.2.2.2.2⟩
  refine g3 hC rfl rfl ?_
  refine g19 hC rfl rfl (Nat.le_of_ble_eq_true rfl) rfl hq.2.1 ?_
  refine g0 hC rfl ?_
  refine g13e hC rfl (fun h3 => ?_) (fun h3 => ?_)
  ·
    refine g3 hC rfl rfl ?_
    refine g19 hC rfl rfl (Nat.le_of_ble_eq_true rfl) rfl hq.2.2.2.1 ?_
    refine g3 hC rfl rfl ?_
    refine g19 hC rfl rfl (Nat.le_of_ble_eq_true rfl) rfl hq.2.2.1 ?_
    refine g6s hC rfl ⟨by omega, by omega⟩ ?_
    refine g0 hC rfl ?_
    refine g13s hC rfl (fun h16 => ?_) (fun h16 => ?_)
    ·
      refine g3 hC rfl rfl ?_
      refine g2 hC rfl ?_
      refine c1 hC rfl rfl rfl (Nat.le_of_ble_eq_true rfl) (Nat.le_of_ble_eq_true rfl) rfl c92 (Nat.le_of_ble_eq_true rfl) (fun x M2 hr => ?_)
      obtain ⟨hx, hr⟩ := hr; replace hr := hr.symm; subst hr
      refine g0 hC rfl ?_
      refine g13e hC rfl (fun h29 => ?_) (fun h29 => ?_)
      ·
        refine g3 hC rfl rfl ?_
        refine g0 hC rfl ?_
        refine g20s hC rfl rfl (Nat.le_of_ble_eq_true rfl) rfl hS rfl (fun hS => ?_)
        refine g3 hC rfl rfl ?_
        refine g19 hC rfl rfl (Nat.le_of_ble_eq_true rfl) rfl ((ax_up_of (by decide)).trans hq.2.2.1) ?_
        refine s1 hC rfl rfl rfl ?_
        refine l1 (by omega) (by omega) (by rw [← hx]; exact h29) m 0 (Nat.zero_add _) _ _ ⟨rfl, hS, ?_, ax_up_at⟩
        exact ⟨(ax_up_of (by decide)).trans hq.1, (ax_up_of (by decide)).trans hq.2.1, (ax_up_of (by decide)).trans hq.2.2.1, (ax_up_of (by decide)).trans hq.2.2.2.1, fun k hk2 => (ax_up2n (by decide)).trans (hq.2.2.2.2.1 k hk2), (ax_up_of (by decide)).trans hq.2.2.2.2.2.1, (ax_up_of (by decide)).trans hq.2.2.2.2.2.2⟩
      ·
        refine g3 hC rfl rfl ?_
        refine g0 hC rfl ?_
        refine g3 hC rfl rfl ?_
        refine g19 hC rfl rfl (Nat.le_of_ble_eq_true rfl) rfl hq.2.2.1 ?_
        refine c1 hC rfl rfl rfl (Nat.le_of_ble_eq_true rfl) (Nat.le_of_ble_eq_true rfl) rfl (m89) (Nat.le_of_ble_eq_true rfl) (fun x M2 hr => ?_)
        obtain ⟨rfl, hr⟩ := hr; replace hr := hr.symm; subst hr
        refine ret3 hC rfl ⟨by omega, by omega⟩ ?_
        rw [hP]
        refine ⟨(Sb.refl.up rfl).up rfl, Or.inl ⟨1, _, ?_, rfl, CF.up⟩⟩
        rw [e0, if_neg (fun z => z (by omega)), if_neg (by omega), if_neg (fun z => h29 (hx.trans z))]
    ·
      refine g3 hC rfl rfl ?_
      refine g0 hC rfl ?_
      refine g3 hC rfl rfl ?_
      refine g19 hC rfl rfl (Nat.le_of_ble_eq_true rfl) rfl hq.2.2.1 ?_
      refine g0 hC rfl ?_
      refine g6a hC rfl ⟨by omega, by omega⟩ ?_
      refine c1 hC rfl rfl rfl (Nat.le_of_ble_eq_true rfl) (Nat.le_of_ble_eq_true rfl) rfl (m89) (Nat.le_of_ble_eq_true rfl) (fun x M2 hr => ?_)
      obtain ⟨rfl, hr⟩ := hr; replace hr := hr.symm; subst hr
      refine ret3 hC rfl ⟨by omega, by omega⟩ ?_
      rw [hP]
      refine ⟨(Sb.refl.up rfl).up rfl, Or.inl ⟨1, _, ?_, rfl, CF.up⟩⟩
      rw [e0, if_neg (fun z => z (by omega)), if_pos (by omega), show ((q.1 : Int)) + 6 = ((q.1 + 6 : Nat) : Int) by omega]
  ·
    refine g3 hC rfl rfl ?_
    refine g0 hC rfl ?_
    refine g3 hC rfl rfl ?_
    refine g19 hC rfl rfl (Nat.le_of_ble_eq_true rfl) rfl hq.2.2.1 ?_
    refine c1 hC rfl rfl rfl (Nat.le_of_ble_eq_true rfl) (Nat.le_of_ble_eq_true rfl) rfl (m89) (Nat.le_of_ble_eq_true rfl) (fun x M2 hr => ?_)
    obtain ⟨rfl, hr⟩ := hr; replace hr := hr.symm; subst hr
    refine ret3 hC rfl ⟨by omega, by omega⟩ ?_
    rw [hP]
    refine ⟨(Sb.refl.up rfl).up rfl, Or.inl ⟨1, _, ?_, rfl, CF.up⟩⟩
    rw [e0, if_pos (by omega)]
end CRS
