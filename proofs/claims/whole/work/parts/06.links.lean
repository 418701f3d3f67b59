theorem wd_39 : (Jvm.Cond.fieldLink "WornSkin$Tape" (9 : Nat) "WornSkin$Tape" "signs" "[B") ∈ wT0 := wT0_in (List.mem_append_right _ (List.mem_of_getElem? (i := 39) (by decide +kernel))) rfl
theorem wd_40 : (Jvm.Cond.fieldLink "WornSkin$Tape" (13 : Nat) "WornSkin$Tape" "length" "I") ∈ wT0 := wT0_in (List.mem_append_right _ (List.mem_of_getElem? (i := 40) (by decide +kernel))) rfl
theorem wd_41 : (Jvm.Cond.fieldLink "WornSkin" (87 : Nat) "WornSkin$Tape" "length" "I") ∈ wT0 := wT0_in (List.mem_append_right _ (List.mem_of_getElem? (i := 41) (by decide +kernel))) rfl
theorem wd_42 : (Jvm.Cond.fieldLink "WornSkin$Tape" (26 : Nat) "WornSkin$Tape" "kind" "I") ∈ wT0 := wT0_in (List.mem_append_right _ (List.mem_of_getElem? (i := 42) (by decide +kernel))) rfl
theorem wd_43 : (Jvm.Cond.fieldLink "WornSkin$Tape" (29 : Nat) "WornSkin$Tape" "place" "I") ∈ wT0 := wT0_in (List.mem_append_right _ (List.mem_of_getElem? (i := 43) (by decide +kernel))) rfl
theorem wd_44 : (Jvm.Cond.fieldLink "WornSkin$Tape" (17 : Nat) "WornSkin$Tape" "behind" "I") ∈ wT0 := wT0_in (List.mem_append_right _ (List.mem_of_getElem? (i := 44) (by decide +kernel))) rfl
theorem wd_45 : (Jvm.Cond.fieldLink "WornSkin$Library" (147 : Nat) "WornSkin$Tape" "number" "I") ∈ wT0 := wT0_in (List.mem_append_right _ (List.mem_of_getElem? (i := 45) (by decide +kernel))) rfl
theorem wd_46 : (Jvm.Cond.fieldLink "WornSkin$Law" (83 : Nat) "WornSkin$Tape" "number" "I") ∈ wT0 := wT0_in (List.mem_append_right _ (List.mem_of_getElem? (i := 46) (by decide +kernel))) rfl
theorem wd_47 : (Jvm.Cond.fieldLink "WornSkin$Tape" (52 : Nat) "WornSkin$Tape" "number" "I") ∈ wT0 := wT0_in (List.mem_append_right _ (List.mem_of_getElem? (i := 47) (by decide +kernel))) rfl
theorem wd_48 : (Jvm.Cond.fieldLink "WornSkin$Tape" (46 : Nat) "WornSkin$Tape" "name" "J") ∈ wT0 := wT0_in (List.mem_append_right _ (List.mem_of_getElem? (i := 48) (by decide +kernel))) rfl
theorem wd_49 : (Jvm.Cond.fieldLink "WornSkin$Library" (171 : Nat) "WornSkin$Tape" "name" "J") ∈ wT0 := wT0_in (List.mem_append_right _ (List.mem_of_getElem? (i := 49) (by decide +kernel))) rfl
theorem wd_50 : (Jvm.Cond.fieldLink "WornSkin$Library" (115 : Nat) "WornSkin$Tape" "fault" "I") ∈ wT0 := wT0_in (List.mem_append_right _ (List.mem_of_getElem? (i := 50) (by decide +kernel))) rfl
theorem wd_51 : (Jvm.Cond.fieldLink "WornSkin$Tape" (20 : Nat) "WornSkin$Tape" "fault" "I") ∈ wT0 := wT0_in (List.mem_append_right _ (List.mem_of_getElem? (i := 51) (by decide +kernel))) rfl
theorem wd_52 : (Jvm.Cond.fieldLink "WornSkin$Year" (41 : Nat) "WornSkin$Tape" "fault" "I") ∈ wT0 := wT0_in (List.mem_append_right _ (List.mem_of_getElem? (i := 52) (by decide +kernel))) rfl
theorem wd_83 : (Jvm.Cond.fieldLink "WornSkin$Law" (9 : Nat) "WornSkin$Law" "steps" "[I") ∈ wT0 := wT0_in (List.mem_append_right _ (List.mem_of_getElem? (i := 83) (by decide +kernel))) rfl
theorem wd_84 : (Jvm.Cond.fieldLink "WornSkin$Law" (18 : Nat) "WornSkin$Law" "length" "I") ∈ wT0 := wT0_in (List.mem_append_right _ (List.mem_of_getElem? (i := 84) (by decide +kernel))) rfl
theorem wd_85 : (Jvm.Cond.fieldLink "WornSkin$Law" (28 : Nat) "WornSkin$Law" "told" "Z") ∈ wT0 := wT0_in (List.mem_append_right _ (List.mem_of_getElem? (i := 85) (by decide +kernel))) rfl
theorem wd_86 : (Jvm.Cond.fieldLink "WornSkin$Law" (15 : Nat) "WornSkin$Law" "stack" "[I") ∈ wT0 := wT0_in (List.mem_append_right _ (List.mem_of_getElem? (i := 86) (by decide +kernel))) rfl
theorem wd_98 : (Jvm.Cond.fieldLink "WornSkin$Library" (47 : Nat) "WornSkin$Library" "skins" "I") ∈ wT0 := wT0_in (List.mem_append_right _ (List.mem_of_getElem? (i := 98) (by decide +kernel))) rfl
theorem wd_99 : (Jvm.Cond.fieldLink "WornSkin$Shelf" (36 : Nat) "WornSkin$Library" "skins" "I") ∈ wT0 := wT0_in (List.mem_append_right _ (List.mem_of_getElem? (i := 99) (by decide +kernel))) rfl
theorem wd_100 : (Jvm.Cond.fieldLink "WornSkin" (268 : Nat) "WornSkin$Library" "skins" "I") ∈ wT0 := wT0_in (List.mem_append_right _ (List.mem_of_getElem? (i := 100) (by decide +kernel))) rfl
theorem wd_101 : (Jvm.Cond.fieldLink "WornSkin$Library" (9 : Nat) "WornSkin$Library" "skinNames" "[J") ∈ wT0 := wT0_in (List.mem_append_right _ (List.mem_of_getElem? (i := 101) (by decide +kernel))) rfl
theorem wd_102 : (Jvm.Cond.fieldLink "WornSkin$Library" (15 : Nat) "WornSkin$Library" "lines" "[I") ∈ wT0 := wT0_in (List.mem_append_right _ (List.mem_of_getElem? (i := 102) (by decide +kernel))) rfl
theorem wd_103 : (Jvm.Cond.fieldLink "WornSkin" (121 : Nat) "WornSkin$Library" "lines" "[I") ∈ wT0 := wT0_in (List.mem_append_right _ (List.mem_of_getElem? (i := 103) (by decide +kernel))) rfl
theorem wd_104 : (Jvm.Cond.fieldLink "WornSkin$Shelf" (52 : Nat) "WornSkin$Library" "lines" "[I") ∈ wT0 := wT0_in (List.mem_append_right _ (List.mem_of_getElem? (i := 104) (by decide +kernel))) rfl
theorem wd_105 : (Jvm.Cond.fieldLink "WornSkin$Library" (19 : Nat) "WornSkin$Library" "thick" "[I") ∈ wT0 := wT0_in (List.mem_append_right _ (List.mem_of_getElem? (i := 105) (by decide +kernel))) rfl
theorem wd_106 : (Jvm.Cond.fieldLink "WornSkin$Shelf" (41 : Nat) "WornSkin$Library" "thick" "[I") ∈ wT0 := wT0_in (List.mem_append_right _ (List.mem_of_getElem? (i := 106) (by decide +kernel))) rfl
theorem wd_107 : (Jvm.Cond.fieldLink "WornSkin$Library" (22 : Nat) "WornSkin$Library" "holes" "[I") ∈ wT0 := wT0_in (List.mem_append_right _ (List.mem_of_getElem? (i := 107) (by decide +kernel))) rfl
theorem wd_108 : (Jvm.Cond.fieldLink "WornSkin" (128 : Nat) "WornSkin$Library" "holes" "[I") ∈ wT0 := wT0_in (List.mem_append_right _ (List.mem_of_getElem? (i := 108) (by decide +kernel))) rfl
theorem wd_109 : (Jvm.Cond.fieldLink "WornSkin$Shelf" (55 : Nat) "WornSkin$Library" "holes" "[I") ∈ wT0 := wT0_in (List.mem_append_right _ (List.mem_of_getElem? (i := 109) (by decide +kernel))) rfl
theorem wd_110 : (Jvm.Cond.fieldLink "WornSkin$Layout" (25 : Nat) "WornSkin$Library" "texts" "I") ∈ wT0 := wT0_in (List.mem_append_right _ (List.mem_of_getElem? (i := 110) (by decide +kernel))) rfl
theorem wd_111 : (Jvm.Cond.fieldLink "WornSkin$Library" (57 : Nat) "WornSkin$Library" "texts" "I") ∈ wT0 := wT0_in (List.mem_append_right _ (List.mem_of_getElem? (i := 111) (by decide +kernel))) rfl
theorem wd_112 : (Jvm.Cond.fieldLink "WornSkin$Shelf" (106 : Nat) "WornSkin$Library" "texts" "I") ∈ wT0 := wT0_in (List.mem_append_right _ (List.mem_of_getElem? (i := 112) (by decide +kernel))) rfl
theorem wd_113 : (Jvm.Cond.fieldLink "WornSkin" (278 : Nat) "WornSkin$Library" "texts" "I") ∈ wT0 := wT0_in (List.mem_append_right _ (List.mem_of_getElem? (i := 113) (by decide +kernel))) rfl
theorem wd_114 : (Jvm.Cond.fieldLink "WornSkin$Library" (25 : Nat) "WornSkin$Library" "textNames" "[J") ∈ wT0 := wT0_in (List.mem_append_right _ (List.mem_of_getElem? (i := 114) (by decide +kernel))) rfl
theorem wd_115 : (Jvm.Cond.fieldLink "WornSkin$Library" (28 : Nat) "WornSkin$Library" "kinds" "[I") ∈ wT0 := wT0_in (List.mem_append_right _ (List.mem_of_getElem? (i := 115) (by decide +kernel))) rfl
theorem wd_116 : (Jvm.Cond.fieldLink "WornSkin" (145 : Nat) "WornSkin$Library" "kinds" "[I") ∈ wT0 := wT0_in (List.mem_append_right _ (List.mem_of_getElem? (i := 116) (by decide +kernel))) rfl
theorem wd_117 : (Jvm.Cond.fieldLink "WornSkin$Shelf" (83 : Nat) "WornSkin$Library" "kinds" "[I") ∈ wT0 := wT0_in (List.mem_append_right _ (List.mem_of_getElem? (i := 117) (by decide +kernel))) rfl
theorem wd_118 : (Jvm.Cond.fieldLink "WornSkin$Library" (31 : Nat) "WornSkin$Library" "galls" "[I") ∈ wT0 := wT0_in (List.mem_append_right _ (List.mem_of_getElem? (i := 118) (by decide +kernel))) rfl
theorem wd_119 : (Jvm.Cond.fieldLink "WornSkin" (148 : Nat) "WornSkin$Library" "galls" "[I") ∈ wT0 := wT0_in (List.mem_append_right _ (List.mem_of_getElem? (i := 119) (by decide +kernel))) rfl
theorem wd_120 : (Jvm.Cond.fieldLink "WornSkin$Shelf" (80 : Nat) "WornSkin$Library" "galls" "[I") ∈ wT0 := wT0_in (List.mem_append_right _ (List.mem_of_getElem? (i := 120) (by decide +kernel))) rfl
theorem wd_121 : (Jvm.Cond.fieldLink "WornSkin$Library" (34 : Nat) "WornSkin$Library" "textLines" "[I") ∈ wT0 := wT0_in (List.mem_append_right _ (List.mem_of_getElem? (i := 121) (by decide +kernel))) rfl
theorem wd_122 : (Jvm.Cond.fieldLink "WornSkin$Layout" (46 : Nat) "WornSkin$Library" "textLines" "[I") ∈ wT0 := wT0_in (List.mem_append_right _ (List.mem_of_getElem? (i := 122) (by decide +kernel))) rfl
theorem wd_123 : (Jvm.Cond.fieldLink "WornSkin" (151 : Nat) "WornSkin$Library" "textLines" "[I") ∈ wT0 := wT0_in (List.mem_append_right _ (List.mem_of_getElem? (i := 123) (by decide +kernel))) rfl
theorem wd_124 : (Jvm.Cond.fieldLink "WornSkin$Shelf" (61 : Nat) "WornSkin$Library" "textLines" "[I") ∈ wT0 := wT0_in (List.mem_append_right _ (List.mem_of_getElem? (i := 124) (by decide +kernel))) rfl
theorem wd_125 : (Jvm.Cond.fieldLink "WornSkin$Library" (60 : Nat) "WornSkin$Library" "damps" "I") ∈ wT0 := wT0_in (List.mem_append_right _ (List.mem_of_getElem? (i := 125) (by decide +kernel))) rfl
theorem wd_126 : (Jvm.Cond.fieldLink "WornSkin" (224 : Nat) "WornSkin$Library" "damps" "I") ∈ wT0 := wT0_in (List.mem_append_right _ (List.mem_of_getElem? (i := 126) (by decide +kernel))) rfl
theorem wd_127 : (Jvm.Cond.fieldLink "WornSkin$Library" (37 : Nat) "WornSkin$Library" "damp" "[I") ∈ wT0 := wT0_in (List.mem_append_right _ (List.mem_of_getElem? (i := 127) (by decide +kernel))) rfl
theorem wd_128 : (Jvm.Cond.fieldLink "WornSkin$Library" (43 : Nat) "WornSkin$Library" "law" "LWornSkin$Law;") ∈ wT0 := wT0_in (List.mem_append_right _ (List.mem_of_getElem? (i := 128) (by decide +kernel))) rfl
theorem wd_162 : (Jvm.Cond.fieldLink "WornSkin$Shelf" (24 : Nat) "WornSkin$Shelf" "told" "LWornSkin$Library;") ∈ wT0 := wT0_in (List.mem_append_right _ (List.mem_of_getElem? (i := 162) (by decide +kernel))) rfl
theorem wd_163 : (Jvm.Cond.fieldLink "WornSkin$Shelf" (28 : Nat) "WornSkin$Shelf" "week" "I") ∈ wT0 := wT0_in (List.mem_append_right _ (List.mem_of_getElem? (i := 163) (by decide +kernel))) rfl
theorem wd_164 : (Jvm.Cond.fieldLink "WornSkin" (195 : Nat) "WornSkin$Shelf" "week" "I") ∈ wT0 := wT0_in (List.mem_append_right _ (List.mem_of_getElem? (i := 164) (by decide +kernel))) rfl
theorem wd_165 : (Jvm.Cond.fieldLink "WornSkin$Shelf" (9 : Nat) "WornSkin$Shelf" "thick" "[I") ∈ wT0 := wT0_in (List.mem_append_right _ (List.mem_of_getElem? (i := 165) (by decide +kernel))) rfl
theorem wd_166 : (Jvm.Cond.fieldLink "WornSkin$Seen" (32 : Nat) "WornSkin$Shelf" "thick" "[I") ∈ wT0 := wT0_in (List.mem_append_right _ (List.mem_of_getElem? (i := 166) (by decide +kernel))) rfl
theorem wd_167 : (Jvm.Cond.fieldLink "WornSkin" (125 : Nat) "WornSkin$Shelf" "thick" "[I") ∈ wT0 := wT0_in (List.mem_append_right _ (List.mem_of_getElem? (i := 167) (by decide +kernel))) rfl
theorem wd_168 : (Jvm.Cond.fieldLink "WornSkin$Shelf" (15 : Nat) "WornSkin$Shelf" "open" "[I") ∈ wT0 := wT0_in (List.mem_append_right _ (List.mem_of_getElem? (i := 168) (by decide +kernel))) rfl
theorem wd_169 : (Jvm.Cond.fieldLink "WornSkin" (131 : Nat) "WornSkin$Shelf" "open" "[I") ∈ wT0 := wT0_in (List.mem_append_right _ (List.mem_of_getElem? (i := 169) (by decide +kernel))) rfl
theorem wd_170 : (Jvm.Cond.fieldLink "WornSkin$Shelf" (18 : Nat) "WornSkin$Shelf" "heights" "[I") ∈ wT0 := wT0_in (List.mem_append_right _ (List.mem_of_getElem? (i := 170) (by decide +kernel))) rfl
theorem wd_171 : (Jvm.Cond.fieldLink "WornSkin" (164 : Nat) "WornSkin$Shelf" "heights" "[I") ∈ wT0 := wT0_in (List.mem_append_right _ (List.mem_of_getElem? (i := 171) (by decide +kernel))) rfl
theorem wd_172 : (Jvm.Cond.fieldLink "WornSkin$Shelf" (21 : Nat) "WornSkin$Shelf" "piles" "[I") ∈ wT0 := wT0_in (List.mem_append_right _ (List.mem_of_getElem? (i := 172) (by decide +kernel))) rfl
theorem wd_192 : (Jvm.Cond.fieldLink "WornSkin$Year" (15 : Nat) "WornSkin$Year" "count" "I") ∈ wT0 := wT0_in (List.mem_append_right _ (List.mem_of_getElem? (i := 192) (by decide +kernel))) rfl
theorem wd_193 : (Jvm.Cond.fieldLink "WornSkin" (202 : Nat) "WornSkin$Year" "count" "I") ∈ wT0 := wT0_in (List.mem_append_right _ (List.mem_of_getElem? (i := 193) (by decide +kernel))) rfl
theorem wd_194 : (Jvm.Cond.fieldLink "WornSkin$Year" (11 : Nat) "WornSkin$Year" "lines" "[I") ∈ wT0 := wT0_in (List.mem_append_right _ (List.mem_of_getElem? (i := 194) (by decide +kernel))) rfl
theorem wd_195 : (Jvm.Cond.fieldLink "WornSkin" (208 : Nat) "WornSkin$Year" "lines" "[I") ∈ wT0 := wT0_in (List.mem_append_right _ (List.mem_of_getElem? (i := 195) (by decide +kernel))) rfl
theorem wd_207 : (Jvm.Cond.fieldLink "WornSkin$Seen" (22 : Nat) "WornSkin$Seen" "count" "I") ∈ wT0 := wT0_in (List.mem_append_right _ (List.mem_of_getElem? (i := 207) (by decide +kernel))) rfl
theorem wd_208 : (Jvm.Cond.fieldLink "WornSkin" (328 : Nat) "WornSkin$Seen" "count" "I") ∈ wT0 := wT0_in (List.mem_append_right _ (List.mem_of_getElem? (i := 208) (by decide +kernel))) rfl
theorem wd_209 : (Jvm.Cond.fieldLink "WornSkin$Seen" (9 : Nat) "WornSkin$Seen" "skins" "[I") ∈ wT0 := wT0_in (List.mem_append_right _ (List.mem_of_getElem? (i := 209) (by decide +kernel))) rfl
theorem wd_210 : (Jvm.Cond.fieldLink "WornSkin$Seen" (13 : Nat) "WornSkin$Seen" "deeps" "[I") ∈ wT0 := wT0_in (List.mem_append_right _ (List.mem_of_getElem? (i := 210) (by decide +kernel))) rfl
theorem wd_211 : (Jvm.Cond.fieldLink "WornSkin$Seen" (16 : Nat) "WornSkin$Seen" "damps" "[I") ∈ wT0 := wT0_in (List.mem_append_right _ (List.mem_of_getElem? (i := 211) (by decide +kernel))) rfl
theorem wd_212 : (Jvm.Cond.fieldLink "WornSkin$Seen" (19 : Nat) "WornSkin$Seen" "showing" "[I") ∈ wT0 := wT0_in (List.mem_append_right _ (List.mem_of_getElem? (i := 212) (by decide +kernel))) rfl
theorem wd_233 : (Jvm.Cond.fieldLink "WornSkin$Undoing" (18 : Nat) "WornSkin$Undoing" "kept" "I") ∈ wT0 := wT0_in (List.mem_append_right _ (List.mem_of_getElem? (i := 233) (by decide +kernel))) rfl
theorem wd_234 : (Jvm.Cond.fieldLink "WornSkin" (329 : Nat) "WornSkin$Undoing" "kept" "I") ∈ wT0 := wT0_in (List.mem_append_right _ (List.mem_of_getElem? (i := 234) (by decide +kernel))) rfl
theorem wd_235 : (Jvm.Cond.fieldLink "WornSkin$Undoing" (22 : Nat) "WornSkin$Undoing" "next" "I") ∈ wT0 := wT0_in (List.mem_append_right _ (List.mem_of_getElem? (i := 235) (by decide +kernel))) rfl
theorem wd_236 : (Jvm.Cond.fieldLink "WornSkin$Undoing" (11 : Nat) "WornSkin$Undoing" "ahead" "[LWornSkin$Shelf;") ∈ wT0 := wT0_in (List.mem_append_right _ (List.mem_of_getElem? (i := 236) (by decide +kernel))) rfl
theorem wd_250 : (Jvm.Cond.fieldLink "WornSkin$Layout" (21 : Nat) "WornSkin$Layout" "told" "LWornSkin$Library;") ∈ wT0 := wT0_in (List.mem_append_right _ (List.mem_of_getElem? (i := 250) (by decide +kernel))) rfl
theorem wd_251 : (Jvm.Cond.fieldLink "WornSkin$Layout" (31 : Nat) "WornSkin$Layout" "most" "I") ∈ wT0 := wT0_in (List.mem_append_right _ (List.mem_of_getElem? (i := 251) (by decide +kernel))) rfl
theorem wd_252 : (Jvm.Cond.fieldLink "WornSkin" (256 : Nat) "WornSkin$Layout" "most" "I") ∈ wT0 := wT0_in (List.mem_append_right _ (List.mem_of_getElem? (i := 252) (by decide +kernel))) rfl
theorem wd_253 : (Jvm.Cond.fieldLink "WornSkin$Layout" (9 : Nat) "WornSkin$Layout" "places" "[I") ∈ wT0 := wT0_in (List.mem_append_right _ (List.mem_of_getElem? (i := 253) (by decide +kernel))) rfl
theorem wd_254 : (Jvm.Cond.fieldLink "WornSkin" (259 : Nat) "WornSkin$Layout" "places" "[I") ∈ wT0 := wT0_in (List.mem_append_right _ (List.mem_of_getElem? (i := 254) (by decide +kernel))) rfl
theorem wd_255 : (Jvm.Cond.fieldLink "WornSkin$Layout" (15 : Nat) "WornSkin$Layout" "sizes" "[I") ∈ wT0 := wT0_in (List.mem_append_right _ (List.mem_of_getElem? (i := 255) (by decide +kernel))) rfl
theorem wd_256 : (Jvm.Cond.fieldLink "WornSkin$Layout" (53 : Nat) "WornSkin$Layout" "wanted" "I") ∈ wT0 := wT0_in (List.mem_append_right _ (List.mem_of_getElem? (i := 256) (by decide +kernel))) rfl
theorem wd_257 : (Jvm.Cond.fieldLink "WornSkin$Layout" (18 : Nat) "WornSkin$Layout" "stretches" "[I") ∈ wT0 := wT0_in (List.mem_append_right _ (List.mem_of_getElem? (i := 257) (by decide +kernel))) rfl
theorem wd_258 : (Jvm.Cond.fieldLink "WornSkin$Layout" (64 : Nat) "WornSkin$Layout" "stretchCount" "I") ∈ wT0 := wT0_in (List.mem_append_right _ (List.mem_of_getElem? (i := 258) (by decide +kernel))) rfl
theorem wd_280 : (Jvm.Cond.fieldLink "WornSkin$Draws" (7 : Nat) "WornSkin$Draws" "g" "J") ∈ wT0 := wT0_in (List.mem_append_right _ (List.mem_of_getElem? (i := 280) (by decide +kernel))) rfl
theorem wd_297 : (Jvm.Cond.fieldLink "WornSkin$Bookmark" (42 : Nat) "WornSkin$Bookmark" "laid" "Z") ∈ wT0 := wT0_in (List.mem_append_right _ (List.mem_of_getElem? (i := 297) (by decide +kernel))) rfl
theorem wd_298 : (Jvm.Cond.fieldLink "WornSkin" (107 : Nat) "WornSkin$Bookmark" "laid" "Z") ∈ wT0 := wT0_in (List.mem_append_right _ (List.mem_of_getElem? (i := 298) (by decide +kernel))) rfl
theorem wd_299 : (Jvm.Cond.fieldLink "WornSkin$Bookmark" (28 : Nat) "WornSkin$Bookmark" "shelf" "LWornSkin$Shelf;") ∈ wT0 := wT0_in (List.mem_append_right _ (List.mem_of_getElem? (i := 299) (by decide +kernel))) rfl
theorem wd_300 : (Jvm.Cond.fieldLink "WornSkin" (317 : Nat) "WornSkin$Bookmark" "shelf" "LWornSkin$Shelf;") ∈ wT0 := wT0_in (List.mem_append_right _ (List.mem_of_getElem? (i := 300) (by decide +kernel))) rfl
theorem wd_301 : (Jvm.Cond.fieldLink "WornSkin$Bookmark" (10 : Nat) "WornSkin$Bookmark" "plan" "LWornSkin$Year;") ∈ wT0 := wT0_in (List.mem_append_right _ (List.mem_of_getElem? (i := 301) (by decide +kernel))) rfl
theorem wd_302 : (Jvm.Cond.fieldLink "WornSkin" (320 : Nat) "WornSkin$Bookmark" "plan" "LWornSkin$Year;") ∈ wT0 := wT0_in (List.mem_append_right _ (List.mem_of_getElem? (i := 302) (by decide +kernel))) rfl
theorem wd_303 : (Jvm.Cond.fieldLink "WornSkin$Bookmark" (19 : Nat) "WornSkin$Bookmark" "seen" "LWornSkin$Seen;") ∈ wT0 := wT0_in (List.mem_append_right _ (List.mem_of_getElem? (i := 303) (by decide +kernel))) rfl
theorem wd_304 : (Jvm.Cond.fieldLink "WornSkin" (321 : Nat) "WornSkin$Bookmark" "seen" "LWornSkin$Seen;") ∈ wT0 := wT0_in (List.mem_append_right _ (List.mem_of_getElem? (i := 304) (by decide +kernel))) rfl
theorem wd_314 : (Jvm.Cond.fieldLink "WornSkin" (12 : Nat) "WornSkin" "tape" "LWornSkin$Tape;") ∈ wT0 := wT0_in (List.mem_append_right _ (List.mem_of_getElem? (i := 314) (by decide +kernel))) rfl
theorem wd_315 : (Jvm.Cond.fieldLink "WornSkin" (19 : Nat) "WornSkin" "told" "LWornSkin$Library;") ∈ wT0 := wT0_in (List.mem_append_right _ (List.mem_of_getElem? (i := 315) (by decide +kernel))) rfl
theorem wd_316 : (Jvm.Cond.fieldLink "WornSkin" (23 : Nat) "WornSkin" "toldDraft" "LWornSkin$Library;") ∈ wT0 := wT0_in (List.mem_append_right _ (List.mem_of_getElem? (i := 316) (by decide +kernel))) rfl
theorem wd_317 : (Jvm.Cond.fieldLink "WornSkin" (31 : Nat) "WornSkin" "now" "LWornSkin$Shelf;") ∈ wT0 := wT0_in (List.mem_append_right _ (List.mem_of_getElem? (i := 317) (by decide +kernel))) rfl
theorem wd_318 : (Jvm.Cond.fieldLink "WornSkin" (35 : Nat) "WornSkin" "trial" "LWornSkin$Shelf;") ∈ wT0 := wT0_in (List.mem_append_right _ (List.mem_of_getElem? (i := 318) (by decide +kernel))) rfl
theorem wd_319 : (Jvm.Cond.fieldLink "WornSkin" (41 : Nat) "WornSkin" "plan" "LWornSkin$Year;") ∈ wT0 := wT0_in (List.mem_append_right _ (List.mem_of_getElem? (i := 319) (by decide +kernel))) rfl
theorem wd_320 : (Jvm.Cond.fieldLink "WornSkin" (45 : Nat) "WornSkin" "planDraft" "LWornSkin$Year;") ∈ wT0 := wT0_in (List.mem_append_right _ (List.mem_of_getElem? (i := 320) (by decide +kernel))) rfl
theorem wd_321 : (Jvm.Cond.fieldLink "WornSkin" (51 : Nat) "WornSkin" "seen" "LWornSkin$Seen;") ∈ wT0 := wT0_in (List.mem_append_right _ (List.mem_of_getElem? (i := 321) (by decide +kernel))) rfl
theorem wd_322 : (Jvm.Cond.fieldLink "WornSkin" (58 : Nat) "WornSkin" "undoing" "LWornSkin$Undoing;") ∈ wT0 := wT0_in (List.mem_append_right _ (List.mem_of_getElem? (i := 322) (by decide +kernel))) rfl
theorem wd_323 : (Jvm.Cond.fieldLink "WornSkin" (65 : Nat) "WornSkin" "layout" "LWornSkin$Layout;") ∈ wT0 := wT0_in (List.mem_append_right _ (List.mem_of_getElem? (i := 323) (by decide +kernel))) rfl
theorem wd_324 : (Jvm.Cond.fieldLink "WornSkin" (72 : Nat) "WornSkin" "draws" "LWornSkin$Draws;") ∈ wT0 := wT0_in (List.mem_append_right _ (List.mem_of_getElem? (i := 324) (by decide +kernel))) rfl
theorem wd_325 : (Jvm.Cond.fieldLink "WornSkin" (78 : Nat) "WornSkin" "bookmarks" "[LWornSkin$Bookmark;") ∈ wT0 := wT0_in (List.mem_append_right _ (List.mem_of_getElem? (i := 325) (by decide +kernel))) rfl
theorem wd_1174 : (Jvm.Cond.fieldLink "WornSkinModel" (144 : Nat) "WornSkinModel" "thrown" "I") ∈ wT0 := wT0_in (List.mem_append_right _ (List.mem_of_getElem? (i := 1174) (by decide +kernel))) rfl
theorem wd_1175 : (Jvm.Cond.fieldLink "WornSkinModel" (150 : Nat) "WornSkinModel" "taped" "I") ∈ wT0 := wT0_in (List.mem_append_right _ (List.mem_of_getElem? (i := 1175) (by decide +kernel))) rfl
theorem wd_1176 : (Jvm.Cond.fieldLink "WornSkinModel" (7 : Nat) "WornSkinModel" "tape" "[I") ∈ wT0 := wT0_in (List.mem_append_right _ (List.mem_of_getElem? (i := 1176) (by decide +kernel))) rfl
theorem wd_1177 : (Jvm.Cond.fieldLink "WornSkinModel" (153 : Nat) "WornSkinModel" "size" "I") ∈ wT0 := wT0_in (List.mem_append_right _ (List.mem_of_getElem? (i := 1177) (by decide +kernel))) rfl
theorem wd_1178 : (Jvm.Cond.fieldLink "WornSkinModel" (156 : Nat) "WornSkinModel" "place" "I") ∈ wT0 := wT0_in (List.mem_append_right _ (List.mem_of_getElem? (i := 1178) (by decide +kernel))) rfl
theorem wd_1179 : (Jvm.Cond.fieldLink "WornSkinModel" (159 : Nat) "WornSkinModel" "begin" "I") ∈ wT0 := wT0_in (List.mem_append_right _ (List.mem_of_getElem? (i := 1179) (by decide +kernel))) rfl
theorem wd_1180 : (Jvm.Cond.fieldLink "WornSkinModel" (169 : Nat) "WornSkinModel" "token" "I") ∈ wT0 := wT0_in (List.mem_append_right _ (List.mem_of_getElem? (i := 1180) (by decide +kernel))) rfl
theorem wd_1181 : (Jvm.Cond.fieldLink "WornSkinModel" (162 : Nat) "WornSkinModel" "word" "J") ∈ wT0 := wT0_in (List.mem_append_right _ (List.mem_of_getElem? (i := 1181) (by decide +kernel))) rfl
theorem wd_1182 : (Jvm.Cond.fieldLink "WornSkinModel" (166 : Nat) "WornSkinModel" "told" "I") ∈ wT0 := wT0_in (List.mem_append_right _ (List.mem_of_getElem? (i := 1182) (by decide +kernel))) rfl
theorem wd_1183 : (Jvm.Cond.fieldLink "WornSkinModel" (180 : Nat) "WornSkinModel" "wrong" "I") ∈ wT0 := wT0_in (List.mem_append_right _ (List.mem_of_getElem? (i := 1183) (by decide +kernel))) rfl
theorem wd_1184 : (Jvm.Cond.fieldLink "WornSkinModel" (13 : Nat) "WornSkinModel" "library" "[I") ∈ wT0 := wT0_in (List.mem_append_right _ (List.mem_of_getElem? (i := 1184) (by decide +kernel))) rfl
theorem wd_1185 : (Jvm.Cond.fieldLink "WornSkinModel" (16 : Nat) "WornSkinModel" "skinName" "[J") ∈ wT0 := wT0_in (List.mem_append_right _ (List.mem_of_getElem? (i := 1185) (by decide +kernel))) rfl
theorem wd_1186 : (Jvm.Cond.fieldLink "WornSkinModel" (20 : Nat) "WornSkinModel" "textName" "[J") ∈ wT0 := wT0_in (List.mem_append_right _ (List.mem_of_getElem? (i := 1186) (by decide +kernel))) rfl
theorem wd_1187 : (Jvm.Cond.fieldLink "WornSkinModel" (23 : Nat) "WornSkinModel" "linesOf" "[I") ∈ wT0 := wT0_in (List.mem_append_right _ (List.mem_of_getElem? (i := 1187) (by decide +kernel))) rfl
theorem wd_1188 : (Jvm.Cond.fieldLink "WornSkinModel" (26 : Nat) "WornSkinModel" "thickTold" "[I") ∈ wT0 := wT0_in (List.mem_append_right _ (List.mem_of_getElem? (i := 1188) (by decide +kernel))) rfl
theorem wd_1189 : (Jvm.Cond.fieldLink "WornSkinModel" (29 : Nat) "WornSkinModel" "holes" "[I") ∈ wT0 := wT0_in (List.mem_append_right _ (List.mem_of_getElem? (i := 1189) (by decide +kernel))) rfl
theorem wd_1190 : (Jvm.Cond.fieldLink "WornSkinModel" (32 : Nat) "WornSkinModel" "kind" "[I") ∈ wT0 := wT0_in (List.mem_append_right _ (List.mem_of_getElem? (i := 1190) (by decide +kernel))) rfl
theorem wd_1191 : (Jvm.Cond.fieldLink "WornSkinModel" (35 : Nat) "WornSkinModel" "gall" "[I") ∈ wT0 := wT0_in (List.mem_append_right _ (List.mem_of_getElem? (i := 1191) (by decide +kernel))) rfl
theorem wd_1192 : (Jvm.Cond.fieldLink "WornSkinModel" (38 : Nat) "WornSkinModel" "long0" "[I") ∈ wT0 := wT0_in (List.mem_append_right _ (List.mem_of_getElem? (i := 1192) (by decide +kernel))) rfl
theorem wd_1193 : (Jvm.Cond.fieldLink "WornSkinModel" (41 : Nat) "WornSkinModel" "damp" "[I") ∈ wT0 := wT0_in (List.mem_append_right _ (List.mem_of_getElem? (i := 1193) (by decide +kernel))) rfl
theorem wd_1194 : (Jvm.Cond.fieldLink "WornSkinModel" (44 : Nat) "WornSkinModel" "lineFrom" "[I") ∈ wT0 := wT0_in (List.mem_append_right _ (List.mem_of_getElem? (i := 1194) (by decide +kernel))) rfl
theorem wd_1195 : (Jvm.Cond.fieldLink "WornSkinModel" (47 : Nat) "WornSkinModel" "lineTo" "[I") ∈ wT0 := wT0_in (List.mem_append_right _ (List.mem_of_getElem? (i := 1195) (by decide +kernel))) rfl
theorem wd_1196 : (Jvm.Cond.fieldLink "WornSkinModel" (50 : Nat) "WornSkinModel" "codes" "[I") ∈ wT0 := wT0_in (List.mem_append_right _ (List.mem_of_getElem? (i := 1196) (by decide +kernel))) rfl
theorem wd_1197 : (Jvm.Cond.fieldLink "WornSkinModel" (183 : Nat) "WornSkinModel" "code" "I") ∈ wT0 := wT0_in (List.mem_append_right _ (List.mem_of_getElem? (i := 1197) (by decide +kernel))) rfl
theorem wd_1198 : (Jvm.Cond.fieldLink "WornSkinModel" (53 : Nat) "WornSkinModel" "opened" "[I") ∈ wT0 := wT0_in (List.mem_append_right _ (List.mem_of_getElem? (i := 1198) (by decide +kernel))) rfl
theorem wd_1199 : (Jvm.Cond.fieldLink "WornSkinModel" (56 : Nat) "WornSkinModel" "compared" "[Z") ∈ wT0 := wT0_in (List.mem_append_right _ (List.mem_of_getElem? (i := 1199) (by decide +kernel))) rfl
theorem wd_1200 : (Jvm.Cond.fieldLink "WornSkinModel" (60 : Nat) "WornSkinModel" "kept" "[I") ∈ wT0 := wT0_in (List.mem_append_right _ (List.mem_of_getElem? (i := 1200) (by decide +kernel))) rfl
theorem wd_1201 : (Jvm.Cond.fieldLink "WornSkinModel" (63 : Nat) "WornSkinModel" "keptBy" "[I") ∈ wT0 := wT0_in (List.mem_append_right _ (List.mem_of_getElem? (i := 1201) (by decide +kernel))) rfl
theorem wd_1202 : (Jvm.Cond.fieldLink "WornSkinModel" (66 : Nat) "WornSkinModel" "ahead" "[I") ∈ wT0 := wT0_in (List.mem_append_right _ (List.mem_of_getElem? (i := 1202) (by decide +kernel))) rfl
theorem wd_1203 : (Jvm.Cond.fieldLink "WornSkinModel" (69 : Nat) "WornSkinModel" "against" "[I") ∈ wT0 := wT0_in (List.mem_append_right _ (List.mem_of_getElem? (i := 1203) (by decide +kernel))) rfl
theorem wd_1204 : (Jvm.Cond.fieldLink "WornSkinModel" (72 : Nat) "WornSkinModel" "sum" "[I") ∈ wT0 := wT0_in (List.mem_append_right _ (List.mem_of_getElem? (i := 1204) (by decide +kernel))) rfl
theorem wd_1205 : (Jvm.Cond.fieldLink "WornSkinModel" (75 : Nat) "WornSkinModel" "sumBy" "[I") ∈ wT0 := wT0_in (List.mem_append_right _ (List.mem_of_getElem? (i := 1205) (by decide +kernel))) rfl
theorem wd_1206 : (Jvm.Cond.fieldLink "WornSkinModel" (78 : Nat) "WornSkinModel" "term" "[I") ∈ wT0 := wT0_in (List.mem_append_right _ (List.mem_of_getElem? (i := 1206) (by decide +kernel))) rfl
theorem wd_1207 : (Jvm.Cond.fieldLink "WornSkinModel" (81 : Nat) "WornSkinModel" "termBy" "[I") ∈ wT0 := wT0_in (List.mem_append_right _ (List.mem_of_getElem? (i := 1207) (by decide +kernel))) rfl
theorem wd_1208 : (Jvm.Cond.fieldLink "WornSkinModel" (84 : Nat) "WornSkinModel" "byNot" "[I") ∈ wT0 := wT0_in (List.mem_append_right _ (List.mem_of_getElem? (i := 1208) (by decide +kernel))) rfl
theorem wd_1209 : (Jvm.Cond.fieldLink "WornSkinModel" (87 : Nat) "WornSkinModel" "valueOf" "[I") ∈ wT0 := wT0_in (List.mem_append_right _ (List.mem_of_getElem? (i := 1209) (by decide +kernel))) rfl
theorem wd_1210 : (Jvm.Cond.fieldLink "WornSkinModel" (269 : Nat) "WornSkinModel" "given" "I") ∈ wT0 := wT0_in (List.mem_append_right _ (List.mem_of_getElem? (i := 1210) (by decide +kernel))) rfl
theorem wd_1211 : (Jvm.Cond.fieldLink "WornSkinModel" (286 : Nat) "WornSkinModel" "fresh" "J") ∈ wT0 := wT0_in (List.mem_append_right _ (List.mem_of_getElem? (i := 1211) (by decide +kernel))) rfl
theorem wd_1212 : (Jvm.Cond.fieldLink "WornSkinModel" (90 : Nat) "WornSkinModel" "lines" "[I") ∈ wT0 := wT0_in (List.mem_append_right _ (List.mem_of_getElem? (i := 1212) (by decide +kernel))) rfl
theorem wd_1213 : (Jvm.Cond.fieldLink "WornSkinModel" (93 : Nat) "WornSkinModel" "lineWhat" "[I") ∈ wT0 := wT0_in (List.mem_append_right _ (List.mem_of_getElem? (i := 1213) (by decide +kernel))) rfl
theorem wd_1214 : (Jvm.Cond.fieldLink "WornSkinModel" (96 : Nat) "WornSkinModel" "lineA" "[I") ∈ wT0 := wT0_in (List.mem_append_right _ (List.mem_of_getElem? (i := 1214) (by decide +kernel))) rfl
theorem wd_1215 : (Jvm.Cond.fieldLink "WornSkinModel" (99 : Nat) "WornSkinModel" "lineB" "[I") ∈ wT0 := wT0_in (List.mem_append_right _ (List.mem_of_getElem? (i := 1215) (by decide +kernel))) rfl
theorem wd_1216 : (Jvm.Cond.fieldLink "WornSkinModel" (102 : Nat) "WornSkinModel" "lineC" "[I") ∈ wT0 := wT0_in (List.mem_append_right _ (List.mem_of_getElem? (i := 1216) (by decide +kernel))) rfl
theorem wd_1217 : (Jvm.Cond.fieldLink "WornSkinModel" (105 : Nat) "WornSkinModel" "seens" "[I") ∈ wT0 := wT0_in (List.mem_append_right _ (List.mem_of_getElem? (i := 1217) (by decide +kernel))) rfl
theorem wd_1218 : (Jvm.Cond.fieldLink "WornSkinModel" (108 : Nat) "WornSkinModel" "seenSkin" "[I") ∈ wT0 := wT0_in (List.mem_append_right _ (List.mem_of_getElem? (i := 1218) (by decide +kernel))) rfl
theorem wd_1219 : (Jvm.Cond.fieldLink "WornSkinModel" (111 : Nat) "WornSkinModel" "seenDeep" "[I") ∈ wT0 := wT0_in (List.mem_append_right _ (List.mem_of_getElem? (i := 1219) (by decide +kernel))) rfl
theorem wd_1220 : (Jvm.Cond.fieldLink "WornSkinModel" (114 : Nat) "WornSkinModel" "seenDamp" "[I") ∈ wT0 := wT0_in (List.mem_append_right _ (List.mem_of_getElem? (i := 1220) (by decide +kernel))) rfl
theorem wd_1221 : (Jvm.Cond.fieldLink "WornSkinModel" (117 : Nat) "WornSkinModel" "seenShows" "[Z") ∈ wT0 := wT0_in (List.mem_append_right _ (List.mem_of_getElem? (i := 1221) (by decide +kernel))) rfl
theorem wd_1222 : (Jvm.Cond.fieldLink "WornSkinModel" (120 : Nat) "WornSkinModel" "s" "[I") ∈ wT0 := wT0_in (List.mem_append_right _ (List.mem_of_getElem? (i := 1222) (by decide +kernel))) rfl
theorem wd_1223 : (Jvm.Cond.fieldLink "WornSkinModel" (123 : Nat) "WornSkinModel" "aside" "[I") ∈ wT0 := wT0_in (List.mem_append_right _ (List.mem_of_getElem? (i := 1223) (by decide +kernel))) rfl
theorem wd_1224 : (Jvm.Cond.fieldLink "WornSkinModel" (126 : Nat) "WornSkinModel" "before" "[I") ∈ wT0 := wT0_in (List.mem_append_right _ (List.mem_of_getElem? (i := 1224) (by decide +kernel))) rfl
theorem wd_1225 : (Jvm.Cond.fieldLink "WornSkinModel" (129 : Nat) "WornSkinModel" "marked" "[I") ∈ wT0 := wT0_in (List.mem_append_right _ (List.mem_of_getElem? (i := 1225) (by decide +kernel))) rfl
theorem wd_1226 : (Jvm.Cond.fieldLink "WornSkinModel" (132 : Nat) "WornSkinModel" "undone" "[I") ∈ wT0 := wT0_in (List.mem_append_right _ (List.mem_of_getElem? (i := 1226) (by decide +kernel))) rfl
theorem wd_1227 : (Jvm.Cond.fieldLink "WornSkinModel" (135 : Nat) "WornSkinModel" "isLaid" "[Z") ∈ wT0 := wT0_in (List.mem_append_right _ (List.mem_of_getElem? (i := 1227) (by decide +kernel))) rfl
theorem wd_1228 : (Jvm.Cond.fieldLink "WornSkinModel" (343 : Nat) "WornSkinModel" "done" "I") ∈ wT0 := wT0_in (List.mem_append_right _ (List.mem_of_getElem? (i := 1228) (by decide +kernel))) rfl
theorem wd_1229 : (Jvm.Cond.fieldLink "WornSkinModel" (138 : Nat) "WornSkinModel" "row" "[I") ∈ wT0 := wT0_in (List.mem_append_right _ (List.mem_of_getElem? (i := 1229) (by decide +kernel))) rfl
theorem wd_1230 : (Jvm.Cond.fieldLink "WornSkinModel" (141 : Nat) "WornSkinModel" "bestRow" "[I") ∈ wT0 := wT0_in (List.mem_append_right _ (List.mem_of_getElem? (i := 1230) (by decide +kernel))) rfl
theorem wd_1231 : (Jvm.Cond.fieldLink "WornSkinModel" (439 : Nat) "WornSkinModel" "most" "I") ∈ wT0 := wT0_in (List.mem_append_right _ (List.mem_of_getElem? (i := 1231) (by decide +kernel))) rfl
theorem wd_1232 : (Jvm.Cond.fieldLink "WornSkinModel" (462 : Nat) "WornSkinModel" "g" "J") ∈ wT0 := wT0_in (List.mem_append_right _ (List.mem_of_getElem? (i := 1232) (by decide +kernel))) rfl
theorem wd_358 : (Jvm.Cond.code ({ cls := "WornSkin$Tape", name := "addBytes", desc := "(J)V" } : Jvm.MethodName) prog_9_method_3_code (5 : Nat) (Option.none : Option Jvm.ClassFile.FieldType)) ∈ wT0 := wT0_in (List.mem_append_right _ (List.mem_of_getElem? (i := 358) (by decide +kernel))) rfl
theorem wd_355 : (Jvm.Cond.methodLink "WornSkin" (83 : Nat) ({ cls := "WornSkin$Tape", name := "addBytes", desc := "(J)V" } : Jvm.MethodName)) ∈ wT0 := wT0_in (List.mem_append_right _ (List.mem_of_getElem? (i := 355) (by decide +kernel))) rfl
theorem wd_356 : (Jvm.Cond.instanceMethod ({ cls := "WornSkin$Tape", name := "addBytes", desc := "(J)V" } : Jvm.MethodName)) ∈ wT0 := wT0_in (List.mem_append_right _ (List.mem_of_getElem? (i := 356) (by decide +kernel))) rfl
theorem wd_357 : (Jvm.Cond.selects "WornSkin$Tape" ({ cls := "WornSkin$Tape", name := "addBytes", desc := "(J)V" } : Jvm.MethodName) ({ cls := "WornSkin$Tape", name := "addBytes", desc := "(J)V" } : Jvm.MethodName)) ∈ wT0 := wT0_in (List.mem_append_right _ (List.mem_of_getElem? (i := 357) (by decide +kernel))) rfl
theorem wd_2 : (Jvm.Cond.initialized "WornSkin$Tape") ∈ wT0 := wT0_in (List.mem_append_right _ (List.mem_of_getElem? (i := 2) (by decide +kernel))) rfl
theorem wd_366 : (Jvm.Cond.code ({ cls := "WornSkin$Library", name := "readFrom", desc := "(LWornSkin$Tape;)I" } : Jvm.MethodName) prog_6_method_3_code (3 : Nat) (Option.some Jvm.ClassFile.FieldType.int)) ∈ wT0 := wT0_in (List.mem_append_right _ (List.mem_of_getElem? (i := 366) (by decide +kernel))) rfl
theorem wd_363 : (Jvm.Cond.methodLink "WornSkin" (91 : Nat) ({ cls := "WornSkin$Library", name := "readFrom", desc := "(LWornSkin$Tape;)I" } : Jvm.MethodName)) ∈ wT0 := wT0_in (List.mem_append_right _ (List.mem_of_getElem? (i := 363) (by decide +kernel))) rfl
theorem wd_364 : (Jvm.Cond.instanceMethod ({ cls := "WornSkin$Library", name := "readFrom", desc := "(LWornSkin$Tape;)I" } : Jvm.MethodName)) ∈ wT0 := wT0_in (List.mem_append_right _ (List.mem_of_getElem? (i := 364) (by decide +kernel))) rfl
theorem wd_365 : (Jvm.Cond.selects "WornSkin$Library" ({ cls := "WornSkin$Library", name := "readFrom", desc := "(LWornSkin$Tape;)I" } : Jvm.MethodName) ({ cls := "WornSkin$Library", name := "readFrom", desc := "(LWornSkin$Tape;)I" } : Jvm.MethodName)) ∈ wT0 := wT0_in (List.mem_append_right _ (List.mem_of_getElem? (i := 365) (by decide +kernel))) rfl
theorem wd_3 : (Jvm.Cond.initialized "WornSkin$Library") ∈ wT0 := wT0_in (List.mem_append_right _ (List.mem_of_getElem? (i := 3) (by decide +kernel))) rfl
theorem wd_652 : (Jvm.Cond.code ({ cls := "WornSkin$Tape", name := "clear", desc := "()V" } : Jvm.MethodName) prog_9_method_2_code (1 : Nat) (Option.none : Option Jvm.ClassFile.FieldType)) ∈ wT0 := wT0_in (List.mem_append_right _ (List.mem_of_getElem? (i := 652) (by decide +kernel))) rfl
theorem wd_649 : (Jvm.Cond.methodLink "WornSkin" (95 : Nat) ({ cls := "WornSkin$Tape", name := "clear", desc := "()V" } : Jvm.MethodName)) ∈ wT0 := wT0_in (List.mem_append_right _ (List.mem_of_getElem? (i := 649) (by decide +kernel))) rfl
theorem wd_650 : (Jvm.Cond.instanceMethod ({ cls := "WornSkin$Tape", name := "clear", desc := "()V" } : Jvm.MethodName)) ∈ wT0 := wT0_in (List.mem_append_right _ (List.mem_of_getElem? (i := 650) (by decide +kernel))) rfl
theorem wd_651 : (Jvm.Cond.selects "WornSkin$Tape" ({ cls := "WornSkin$Tape", name := "clear", desc := "()V" } : Jvm.MethodName) ({ cls := "WornSkin$Tape", name := "clear", desc := "()V" } : Jvm.MethodName)) ∈ wT0 := wT0_in (List.mem_append_right _ (List.mem_of_getElem? (i := 651) (by decide +kernel))) rfl
theorem wd_656 : (Jvm.Cond.code ({ cls := "WornSkin$Library", name := "copyFrom", desc := "(LWornSkin$Library;)V" } : Jvm.MethodName) prog_6_method_2_code (2 : Nat) (Option.none : Option Jvm.ClassFile.FieldType)) ∈ wT0 := wT0_in (List.mem_append_right _ (List.mem_of_getElem? (i := 656) (by decide +kernel))) rfl
theorem wd_653 : (Jvm.Cond.methodLink "WornSkin" (98 : Nat) ({ cls := "WornSkin$Library", name := "copyFrom", desc := "(LWornSkin$Library;)V" } : Jvm.MethodName)) ∈ wT0 := wT0_in (List.mem_append_right _ (List.mem_of_getElem? (i := 653) (by decide +kernel))) rfl
theorem wd_654 : (Jvm.Cond.instanceMethod ({ cls := "WornSkin$Library", name := "copyFrom", desc := "(LWornSkin$Library;)V" } : Jvm.MethodName)) ∈ wT0 := wT0_in (List.mem_append_right _ (List.mem_of_getElem? (i := 654) (by decide +kernel))) rfl
theorem wd_655 : (Jvm.Cond.selects "WornSkin$Library" ({ cls := "WornSkin$Library", name := "copyFrom", desc := "(LWornSkin$Library;)V" } : Jvm.MethodName) ({ cls := "WornSkin$Library", name := "copyFrom", desc := "(LWornSkin$Library;)V" } : Jvm.MethodName)) ∈ wT0 := wT0_in (List.mem_append_right _ (List.mem_of_getElem? (i := 655) (by decide +kernel))) rfl
theorem wd_668 : (Jvm.Cond.code ({ cls := "WornSkin$Shelf", name := "begin", desc := "()V" } : Jvm.MethodName) prog_8_method_2_code (2 : Nat) (Option.none : Option Jvm.ClassFile.FieldType)) ∈ wT0 := wT0_in (List.mem_append_right _ (List.mem_of_getElem? (i := 668) (by decide +kernel))) rfl
theorem wd_665 : (Jvm.Cond.methodLink "WornSkin" (101 : Nat) ({ cls := "WornSkin$Shelf", name := "begin", desc := "()V" } : Jvm.MethodName)) ∈ wT0 := wT0_in (List.mem_append_right _ (List.mem_of_getElem? (i := 665) (by decide +kernel))) rfl
theorem wd_666 : (Jvm.Cond.instanceMethod ({ cls := "WornSkin$Shelf", name := "begin", desc := "()V" } : Jvm.MethodName)) ∈ wT0 := wT0_in (List.mem_append_right _ (List.mem_of_getElem? (i := 666) (by decide +kernel))) rfl
theorem wd_667 : (Jvm.Cond.selects "WornSkin$Shelf" ({ cls := "WornSkin$Shelf", name := "begin", desc := "()V" } : Jvm.MethodName) ({ cls := "WornSkin$Shelf", name := "begin", desc := "()V" } : Jvm.MethodName)) ∈ wT0 := wT0_in (List.mem_append_right _ (List.mem_of_getElem? (i := 667) (by decide +kernel))) rfl
theorem wd_5 : (Jvm.Cond.initialized "WornSkin$Shelf") ∈ wT0 := wT0_in (List.mem_append_right _ (List.mem_of_getElem? (i := 5) (by decide +kernel))) rfl
theorem wd_676 : (Jvm.Cond.code ({ cls := "WornSkin$Year", name := "clear", desc := "()V" } : Jvm.MethodName) prog_11_method_2_code (1 : Nat) (Option.none : Option Jvm.ClassFile.FieldType)) ∈ wT0 := wT0_in (List.mem_append_right _ (List.mem_of_getElem? (i := 676) (by decide +kernel))) rfl
theorem wd_673 : (Jvm.Cond.methodLink "WornSkin" (104 : Nat) ({ cls := "WornSkin$Year", name := "clear", desc := "()V" } : Jvm.MethodName)) ∈ wT0 := wT0_in (List.mem_append_right _ (List.mem_of_getElem? (i := 673) (by decide +kernel))) rfl
theorem wd_674 : (Jvm.Cond.instanceMethod ({ cls := "WornSkin$Year", name := "clear", desc := "()V" } : Jvm.MethodName)) ∈ wT0 := wT0_in (List.mem_append_right _ (List.mem_of_getElem? (i := 674) (by decide +kernel))) rfl
theorem wd_675 : (Jvm.Cond.selects "WornSkin$Year" ({ cls := "WornSkin$Year", name := "clear", desc := "()V" } : Jvm.MethodName) ({ cls := "WornSkin$Year", name := "clear", desc := "()V" } : Jvm.MethodName)) ∈ wT0 := wT0_in (List.mem_append_right _ (List.mem_of_getElem? (i := 675) (by decide +kernel))) rfl
theorem wd_6 : (Jvm.Cond.initialized "WornSkin$Year") ∈ wT0 := wT0_in (List.mem_append_right _ (List.mem_of_getElem? (i := 6) (by decide +kernel))) rfl
theorem wd_680 : (Jvm.Cond.code ({ cls := "WornSkin$Seen", name := "clear", desc := "()V" } : Jvm.MethodName) prog_7_method_2_code (1 : Nat) (Option.none : Option Jvm.ClassFile.FieldType)) ∈ wT0 := wT0_in (List.mem_append_right _ (List.mem_of_getElem? (i := 680) (by decide +kernel))) rfl
theorem wd_677 : (Jvm.Cond.methodLink "WornSkin" (105 : Nat) ({ cls := "WornSkin$Seen", name := "clear", desc := "()V" } : Jvm.MethodName)) ∈ wT0 := wT0_in (List.mem_append_right _ (List.mem_of_getElem? (i := 677) (by decide +kernel))) rfl
theorem wd_678 : (Jvm.Cond.instanceMethod ({ cls := "WornSkin$Seen", name := "clear", desc := "()V" } : Jvm.MethodName)) ∈ wT0 := wT0_in (List.mem_append_right _ (List.mem_of_getElem? (i := 678) (by decide +kernel))) rfl
theorem wd_679 : (Jvm.Cond.selects "WornSkin$Seen" ({ cls := "WornSkin$Seen", name := "clear", desc := "()V" } : Jvm.MethodName) ({ cls := "WornSkin$Seen", name := "clear", desc := "()V" } : Jvm.MethodName)) ∈ wT0 := wT0_in (List.mem_append_right _ (List.mem_of_getElem? (i := 679) (by decide +kernel))) rfl
theorem wd_7 : (Jvm.Cond.initialized "WornSkin$Seen") ∈ wT0 := wT0_in (List.mem_append_right _ (List.mem_of_getElem? (i := 7) (by decide +kernel))) rfl
theorem wd_684 : (Jvm.Cond.code ({ cls := "WornSkin$Undoing", name := "clear", desc := "()V" } : Jvm.MethodName) prog_10_method_2_code (1 : Nat) (Option.none : Option Jvm.ClassFile.FieldType)) ∈ wT0 := wT0_in (List.mem_append_right _ (List.mem_of_getElem? (i := 684) (by decide +kernel))) rfl
theorem wd_681 : (Jvm.Cond.methodLink "WornSkin" (106 : Nat) ({ cls := "WornSkin$Undoing", name := "clear", desc := "()V" } : Jvm.MethodName)) ∈ wT0 := wT0_in (List.mem_append_right _ (List.mem_of_getElem? (i := 681) (by decide +kernel))) rfl
theorem wd_682 : (Jvm.Cond.instanceMethod ({ cls := "WornSkin$Undoing", name := "clear", desc := "()V" } : Jvm.MethodName)) ∈ wT0 := wT0_in (List.mem_append_right _ (List.mem_of_getElem? (i := 682) (by decide +kernel))) rfl
theorem wd_683 : (Jvm.Cond.selects "WornSkin$Undoing" ({ cls := "WornSkin$Undoing", name := "clear", desc := "()V" } : Jvm.MethodName) ({ cls := "WornSkin$Undoing", name := "clear", desc := "()V" } : Jvm.MethodName)) ∈ wT0 := wT0_in (List.mem_append_right _ (List.mem_of_getElem? (i := 683) (by decide +kernel))) rfl
theorem wd_8 : (Jvm.Cond.initialized "WornSkin$Undoing") ∈ wT0 := wT0_in (List.mem_append_right _ (List.mem_of_getElem? (i := 8) (by decide +kernel))) rfl
theorem wd_692 : (Jvm.Cond.code ({ cls := "WornSkin$Year", name := "readFrom", desc := "(LWornSkin$Tape;LWornSkin$Library;)I" } : Jvm.MethodName) prog_11_method_4_code (4 : Nat) (Option.some Jvm.ClassFile.FieldType.int)) ∈ wT0 := wT0_in (List.mem_append_right _ (List.mem_of_getElem? (i := 692) (by decide +kernel))) rfl
theorem wd_689 : (Jvm.Cond.methodLink "WornSkin" (111 : Nat) ({ cls := "WornSkin$Year", name := "readFrom", desc := "(LWornSkin$Tape;LWornSkin$Library;)I" } : Jvm.MethodName)) ∈ wT0 := wT0_in (List.mem_append_right _ (List.mem_of_getElem? (i := 689) (by decide +kernel))) rfl
theorem wd_690 : (Jvm.Cond.instanceMethod ({ cls := "WornSkin$Year", name := "readFrom", desc := "(LWornSkin$Tape;LWornSkin$Library;)I" } : Jvm.MethodName)) ∈ wT0 := wT0_in (List.mem_append_right _ (List.mem_of_getElem? (i := 690) (by decide +kernel))) rfl
theorem wd_691 : (Jvm.Cond.selects "WornSkin$Year" ({ cls := "WornSkin$Year", name := "readFrom", desc := "(LWornSkin$Tape;LWornSkin$Library;)I" } : Jvm.MethodName) ({ cls := "WornSkin$Year", name := "readFrom", desc := "(LWornSkin$Tape;LWornSkin$Library;)I" } : Jvm.MethodName)) ∈ wT0 := wT0_in (List.mem_append_right _ (List.mem_of_getElem? (i := 691) (by decide +kernel))) rfl
theorem wd_720 : (Jvm.Cond.code ({ cls := "WornSkin$Year", name := "copyFrom", desc := "(LWornSkin$Year;)V" } : Jvm.MethodName) prog_11_method_3_code (2 : Nat) (Option.none : Option Jvm.ClassFile.FieldType)) ∈ wT0 := wT0_in (List.mem_append_right _ (List.mem_of_getElem? (i := 720) (by decide +kernel))) rfl
theorem wd_717 : (Jvm.Cond.methodLink "WornSkin" (114 : Nat) ({ cls := "WornSkin$Year", name := "copyFrom", desc := "(LWornSkin$Year;)V" } : Jvm.MethodName)) ∈ wT0 := wT0_in (List.mem_append_right _ (List.mem_of_getElem? (i := 717) (by decide +kernel))) rfl
theorem wd_718 : (Jvm.Cond.instanceMethod ({ cls := "WornSkin$Year", name := "copyFrom", desc := "(LWornSkin$Year;)V" } : Jvm.MethodName)) ∈ wT0 := wT0_in (List.mem_append_right _ (List.mem_of_getElem? (i := 718) (by decide +kernel))) rfl
theorem wd_719 : (Jvm.Cond.selects "WornSkin$Year" ({ cls := "WornSkin$Year", name := "copyFrom", desc := "(LWornSkin$Year;)V" } : Jvm.MethodName) ({ cls := "WornSkin$Year", name := "copyFrom", desc := "(LWornSkin$Year;)V" } : Jvm.MethodName)) ∈ wT0 := wT0_in (List.mem_append_right _ (List.mem_of_getElem? (i := 719) (by decide +kernel))) rfl
theorem wd_729 : (Jvm.Cond.code ({ cls := "WornSkin$Library", name := "hasSkin", desc := "(I)Z" } : Jvm.MethodName) prog_6_method_15_code (2 : Nat) (Option.some Jvm.ClassFile.FieldType.boolean)) ∈ wT0 := wT0_in (List.mem_append_right _ (List.mem_of_getElem? (i := 729) (by decide +kernel))) rfl
theorem wd_726 : (Jvm.Cond.methodLink "WornSkin" (117 : Nat) ({ cls := "WornSkin$Library", name := "hasSkin", desc := "(I)Z" } : Jvm.MethodName)) ∈ wT0 := wT0_in (List.mem_append_right _ (List.mem_of_getElem? (i := 726) (by decide +kernel))) rfl
theorem wd_727 : (Jvm.Cond.instanceMethod ({ cls := "WornSkin$Library", name := "hasSkin", desc := "(I)Z" } : Jvm.MethodName)) ∈ wT0 := wT0_in (List.mem_append_right _ (List.mem_of_getElem? (i := 727) (by decide +kernel))) rfl
theorem wd_728 : (Jvm.Cond.selects "WornSkin$Library" ({ cls := "WornSkin$Library", name := "hasSkin", desc := "(I)Z" } : Jvm.MethodName) ({ cls := "WornSkin$Library", name := "hasSkin", desc := "(I)Z" } : Jvm.MethodName)) ∈ wT0 := wT0_in (List.mem_append_right _ (List.mem_of_getElem? (i := 728) (by decide +kernel))) rfl
theorem wd_733 : (Jvm.Cond.code ({ cls := "WornSkin$Shelf", name := "damp", desc := "()I" } : Jvm.MethodName) prog_8_method_5_code (1 : Nat) (Option.some Jvm.ClassFile.FieldType.int)) ∈ wT0 := wT0_in (List.mem_append_right _ (List.mem_of_getElem? (i := 733) (by decide +kernel))) rfl
theorem wd_730 : (Jvm.Cond.methodLink "WornSkin" (134 : Nat) ({ cls := "WornSkin$Shelf", name := "damp", desc := "()I" } : Jvm.MethodName)) ∈ wT0 := wT0_in (List.mem_append_right _ (List.mem_of_getElem? (i := 730) (by decide +kernel))) rfl
theorem wd_731 : (Jvm.Cond.instanceMethod ({ cls := "WornSkin$Shelf", name := "damp", desc := "()I" } : Jvm.MethodName)) ∈ wT0 := wT0_in (List.mem_append_right _ (List.mem_of_getElem? (i := 731) (by decide +kernel))) rfl
theorem wd_732 : (Jvm.Cond.selects "WornSkin$Shelf" ({ cls := "WornSkin$Shelf", name := "damp", desc := "()I" } : Jvm.MethodName) ({ cls := "WornSkin$Shelf", name := "damp", desc := "()I" } : Jvm.MethodName)) ∈ wT0 := wT0_in (List.mem_append_right _ (List.mem_of_getElem? (i := 732) (by decide +kernel))) rfl
theorem wd_741 : (Jvm.Cond.code ({ cls := "WornSkin$Shelf", name := "shownLines", desc := "(II)I" } : Jvm.MethodName) prog_8_method_19_code (5 : Nat) (Option.some Jvm.ClassFile.FieldType.int)) ∈ wT0 := wT0_in (List.mem_append_right _ (List.mem_of_getElem? (i := 741) (by decide +kernel))) rfl
theorem wd_738 : (Jvm.Cond.methodLink "WornSkin" (138 : Nat) ({ cls := "WornSkin$Shelf", name := "shownLines", desc := "(II)I" } : Jvm.MethodName)) ∈ wT0 := wT0_in (List.mem_append_right _ (List.mem_of_getElem? (i := 738) (by decide +kernel))) rfl
theorem wd_739 : (Jvm.Cond.instanceMethod ({ cls := "WornSkin$Shelf", name := "shownLines", desc := "(II)I" } : Jvm.MethodName)) ∈ wT0 := wT0_in (List.mem_append_right _ (List.mem_of_getElem? (i := 739) (by decide +kernel))) rfl
theorem wd_740 : (Jvm.Cond.selects "WornSkin$Shelf" ({ cls := "WornSkin$Shelf", name := "shownLines", desc := "(II)I" } : Jvm.MethodName) ({ cls := "WornSkin$Shelf", name := "shownLines", desc := "(II)I" } : Jvm.MethodName)) ∈ wT0 := wT0_in (List.mem_append_right _ (List.mem_of_getElem? (i := 740) (by decide +kernel))) rfl
theorem wd_768 : (Jvm.Cond.code ({ cls := "WornSkin$Library", name := "hasText", desc := "(I)Z" } : Jvm.MethodName) prog_6_method_17_code (2 : Nat) (Option.some Jvm.ClassFile.FieldType.boolean)) ∈ wT0 := wT0_in (List.mem_append_right _ (List.mem_of_getElem? (i := 768) (by decide +kernel))) rfl
theorem wd_765 : (Jvm.Cond.methodLink "WornSkin" (142 : Nat) ({ cls := "WornSkin$Library", name := "hasText", desc := "(I)Z" } : Jvm.MethodName)) ∈ wT0 := wT0_in (List.mem_append_right _ (List.mem_of_getElem? (i := 765) (by decide +kernel))) rfl
theorem wd_766 : (Jvm.Cond.instanceMethod ({ cls := "WornSkin$Library", name := "hasText", desc := "(I)Z" } : Jvm.MethodName)) ∈ wT0 := wT0_in (List.mem_append_right _ (List.mem_of_getElem? (i := 766) (by decide +kernel))) rfl
theorem wd_767 : (Jvm.Cond.selects "WornSkin$Library" ({ cls := "WornSkin$Library", name := "hasText", desc := "(I)Z" } : Jvm.MethodName) ({ cls := "WornSkin$Library", name := "hasText", desc := "(I)Z" } : Jvm.MethodName)) ∈ wT0 := wT0_in (List.mem_append_right _ (List.mem_of_getElem? (i := 767) (by decide +kernel))) rfl
theorem wd_772 : (Jvm.Cond.code ({ cls := "WornSkin$Shelf", name := "isWhole", desc := "(II)Z" } : Jvm.MethodName) prog_8_method_22_code (3 : Nat) (Option.some Jvm.ClassFile.FieldType.boolean)) ∈ wT0 := wT0_in (List.mem_append_right _ (List.mem_of_getElem? (i := 772) (by decide +kernel))) rfl
theorem wd_769 : (Jvm.Cond.methodLink "WornSkin" (154 : Nat) ({ cls := "WornSkin$Shelf", name := "isWhole", desc := "(II)Z" } : Jvm.MethodName)) ∈ wT0 := wT0_in (List.mem_append_right _ (List.mem_of_getElem? (i := 769) (by decide +kernel))) rfl
theorem wd_770 : (Jvm.Cond.instanceMethod ({ cls := "WornSkin$Shelf", name := "isWhole", desc := "(II)Z" } : Jvm.MethodName)) ∈ wT0 := wT0_in (List.mem_append_right _ (List.mem_of_getElem? (i := 770) (by decide +kernel))) rfl
theorem wd_771 : (Jvm.Cond.selects "WornSkin$Shelf" ({ cls := "WornSkin$Shelf", name := "isWhole", desc := "(II)Z" } : Jvm.MethodName) ({ cls := "WornSkin$Shelf", name := "isWhole", desc := "(II)Z" } : Jvm.MethodName)) ∈ wT0 := wT0_in (List.mem_append_right _ (List.mem_of_getElem? (i := 771) (by decide +kernel))) rfl
theorem wd_780 : (Jvm.Cond.code ({ cls := "WornSkin$Shelf", name := "made", desc := "(II)I" } : Jvm.MethodName) prog_8_method_21_code (6 : Nat) (Option.some Jvm.ClassFile.FieldType.int)) ∈ wT0 := wT0_in (List.mem_append_right _ (List.mem_of_getElem? (i := 780) (by decide +kernel))) rfl
theorem wd_777 : (Jvm.Cond.methodLink "WornSkin" (158 : Nat) ({ cls := "WornSkin$Shelf", name := "made", desc := "(II)I" } : Jvm.MethodName)) ∈ wT0 := wT0_in (List.mem_append_right _ (List.mem_of_getElem? (i := 777) (by decide +kernel))) rfl
theorem wd_778 : (Jvm.Cond.instanceMethod ({ cls := "WornSkin$Shelf", name := "made", desc := "(II)I" } : Jvm.MethodName)) ∈ wT0 := wT0_in (List.mem_append_right _ (List.mem_of_getElem? (i := 778) (by decide +kernel))) rfl
theorem wd_779 : (Jvm.Cond.selects "WornSkin$Shelf" ({ cls := "WornSkin$Shelf", name := "made", desc := "(II)I" } : Jvm.MethodName) ({ cls := "WornSkin$Shelf", name := "made", desc := "(II)I" } : Jvm.MethodName)) ∈ wT0 := wT0_in (List.mem_append_right _ (List.mem_of_getElem? (i := 779) (by decide +kernel))) rfl
theorem wd_788 : (Jvm.Cond.code ({ cls := "WornSkin$Library", name := "hasLine", desc := "(II)Z" } : Jvm.MethodName) prog_6_method_16_code (3 : Nat) (Option.some Jvm.ClassFile.FieldType.boolean)) ∈ wT0 := wT0_in (List.mem_append_right _ (List.mem_of_getElem? (i := 788) (by decide +kernel))) rfl
theorem wd_785 : (Jvm.Cond.methodLink "WornSkin" (161 : Nat) ({ cls := "WornSkin$Library", name := "hasLine", desc := "(II)Z" } : Jvm.MethodName)) ∈ wT0 := wT0_in (List.mem_append_right _ (List.mem_of_getElem? (i := 785) (by decide +kernel))) rfl
theorem wd_786 : (Jvm.Cond.instanceMethod ({ cls := "WornSkin$Library", name := "hasLine", desc := "(II)Z" } : Jvm.MethodName)) ∈ wT0 := wT0_in (List.mem_append_right _ (List.mem_of_getElem? (i := 786) (by decide +kernel))) rfl
theorem wd_787 : (Jvm.Cond.selects "WornSkin$Library" ({ cls := "WornSkin$Library", name := "hasLine", desc := "(II)Z" } : Jvm.MethodName) ({ cls := "WornSkin$Library", name := "hasLine", desc := "(II)Z" } : Jvm.MethodName)) ∈ wT0 := wT0_in (List.mem_append_right _ (List.mem_of_getElem? (i := 787) (by decide +kernel))) rfl
theorem wd_749 : (Jvm.Cond.code ({ cls := "WornSkin$Shelf", name := "layerAt", desc := "(II)I" } : Jvm.MethodName) prog_8_method_6_code (3 : Nat) (Option.some Jvm.ClassFile.FieldType.int)) ∈ wT0 := wT0_in (List.mem_append_right _ (List.mem_of_getElem? (i := 749) (by decide +kernel))) rfl
theorem wd_794 : (Jvm.Cond.methodLink "WornSkin" (167 : Nat) ({ cls := "WornSkin$Shelf", name := "layerAt", desc := "(II)I" } : Jvm.MethodName)) ∈ wT0 := wT0_in (List.mem_append_right _ (List.mem_of_getElem? (i := 794) (by decide +kernel))) rfl
theorem wd_747 : (Jvm.Cond.instanceMethod ({ cls := "WornSkin$Shelf", name := "layerAt", desc := "(II)I" } : Jvm.MethodName)) ∈ wT0 := wT0_in (List.mem_append_right _ (List.mem_of_getElem? (i := 747) (by decide +kernel))) rfl
theorem wd_748 : (Jvm.Cond.selects "WornSkin$Shelf" ({ cls := "WornSkin$Shelf", name := "layerAt", desc := "(II)I" } : Jvm.MethodName) ({ cls := "WornSkin$Shelf", name := "layerAt", desc := "(II)I" } : Jvm.MethodName)) ∈ wT0 := wT0_in (List.mem_append_right _ (List.mem_of_getElem? (i := 748) (by decide +kernel))) rfl
theorem wd_745 : (Jvm.Cond.code ({ cls := "WornSkin$Shelf", name := "shown", desc := "(III)I" } : Jvm.MethodName) prog_8_method_18_code (8 : Nat) (Option.some Jvm.ClassFile.FieldType.int)) ∈ wT0 := wT0_in (List.mem_append_right _ (List.mem_of_getElem? (i := 745) (by decide +kernel))) rfl
theorem wd_799 : (Jvm.Cond.methodLink "WornSkin" (170 : Nat) ({ cls := "WornSkin$Shelf", name := "shown", desc := "(III)I" } : Jvm.MethodName)) ∈ wT0 := wT0_in (List.mem_append_right _ (List.mem_of_getElem? (i := 799) (by decide +kernel))) rfl
theorem wd_743 : (Jvm.Cond.instanceMethod ({ cls := "WornSkin$Shelf", name := "shown", desc := "(III)I" } : Jvm.MethodName)) ∈ wT0 := wT0_in (List.mem_append_right _ (List.mem_of_getElem? (i := 743) (by decide +kernel))) rfl
theorem wd_744 : (Jvm.Cond.selects "WornSkin$Shelf" ({ cls := "WornSkin$Shelf", name := "shown", desc := "(III)I" } : Jvm.MethodName) ({ cls := "WornSkin$Shelf", name := "shown", desc := "(III)I" } : Jvm.MethodName)) ∈ wT0 := wT0_in (List.mem_append_right _ (List.mem_of_getElem? (i := 744) (by decide +kernel))) rfl
theorem wd_807 : (Jvm.Cond.code ({ cls := "WornSkin$Shelf", name := "canWrite", desc := "(III)Z" } : Jvm.MethodName) prog_8_method_9_code (5 : Nat) (Option.some Jvm.ClassFile.FieldType.boolean)) ∈ wT0 := wT0_in (List.mem_append_right _ (List.mem_of_getElem? (i := 807) (by decide +kernel))) rfl
theorem wd_804 : (Jvm.Cond.methodLink "WornSkin" (174 : Nat) ({ cls := "WornSkin$Shelf", name := "canWrite", desc := "(III)Z" } : Jvm.MethodName)) ∈ wT0 := wT0_in (List.mem_append_right _ (List.mem_of_getElem? (i := 804) (by decide +kernel))) rfl
theorem wd_805 : (Jvm.Cond.instanceMethod ({ cls := "WornSkin$Shelf", name := "canWrite", desc := "(III)Z" } : Jvm.MethodName)) ∈ wT0 := wT0_in (List.mem_append_right _ (List.mem_of_getElem? (i := 805) (by decide +kernel))) rfl
theorem wd_806 : (Jvm.Cond.selects "WornSkin$Shelf" ({ cls := "WornSkin$Shelf", name := "canWrite", desc := "(III)Z" } : Jvm.MethodName) ({ cls := "WornSkin$Shelf", name := "canWrite", desc := "(III)Z" } : Jvm.MethodName)) ∈ wT0 := wT0_in (List.mem_append_right _ (List.mem_of_getElem? (i := 806) (by decide +kernel))) rfl
theorem wd_815 : (Jvm.Cond.code ({ cls := "WornSkin$Undoing", name := "keep", desc := "(LWornSkin$Shelf;)V" } : Jvm.MethodName) prog_10_method_3_code (2 : Nat) (Option.none : Option Jvm.ClassFile.FieldType)) ∈ wT0 := wT0_in (List.mem_append_right _ (List.mem_of_getElem? (i := 815) (by decide +kernel))) rfl
theorem wd_812 : (Jvm.Cond.methodLink "WornSkin" (178 : Nat) ({ cls := "WornSkin$Undoing", name := "keep", desc := "(LWornSkin$Shelf;)V" } : Jvm.MethodName)) ∈ wT0 := wT0_in (List.mem_append_right _ (List.mem_of_getElem? (i := 812) (by decide +kernel))) rfl
theorem wd_813 : (Jvm.Cond.instanceMethod ({ cls := "WornSkin$Undoing", name := "keep", desc := "(LWornSkin$Shelf;)V" } : Jvm.MethodName)) ∈ wT0 := wT0_in (List.mem_append_right _ (List.mem_of_getElem? (i := 813) (by decide +kernel))) rfl
theorem wd_814 : (Jvm.Cond.selects "WornSkin$Undoing" ({ cls := "WornSkin$Undoing", name := "keep", desc := "(LWornSkin$Shelf;)V" } : Jvm.MethodName) ({ cls := "WornSkin$Undoing", name := "keep", desc := "(LWornSkin$Shelf;)V" } : Jvm.MethodName)) ∈ wT0 := wT0_in (List.mem_append_right _ (List.mem_of_getElem? (i := 814) (by decide +kernel))) rfl
theorem wd_825 : (Jvm.Cond.code ({ cls := "WornSkin$Shelf", name := "put", desc := "(III)V" } : Jvm.MethodName) prog_8_method_11_code (6 : Nat) (Option.none : Option Jvm.ClassFile.FieldType)) ∈ wT0 := wT0_in (List.mem_append_right _ (List.mem_of_getElem? (i := 825) (by decide +kernel))) rfl
theorem wd_822 : (Jvm.Cond.methodLink "WornSkin" (182 : Nat) ({ cls := "WornSkin$Shelf", name := "put", desc := "(III)V" } : Jvm.MethodName)) ∈ wT0 := wT0_in (List.mem_append_right _ (List.mem_of_getElem? (i := 822) (by decide +kernel))) rfl
theorem wd_823 : (Jvm.Cond.instanceMethod ({ cls := "WornSkin$Shelf", name := "put", desc := "(III)V" } : Jvm.MethodName)) ∈ wT0 := wT0_in (List.mem_append_right _ (List.mem_of_getElem? (i := 823) (by decide +kernel))) rfl
theorem wd_824 : (Jvm.Cond.selects "WornSkin$Shelf" ({ cls := "WornSkin$Shelf", name := "put", desc := "(III)V" } : Jvm.MethodName) ({ cls := "WornSkin$Shelf", name := "put", desc := "(III)V" } : Jvm.MethodName)) ∈ wT0 := wT0_in (List.mem_append_right _ (List.mem_of_getElem? (i := 824) (by decide +kernel))) rfl
theorem wd_833 : (Jvm.Cond.code ({ cls := "WornSkin", name := "rubByHand", desc := "(II)I" } : Jvm.MethodName) prog_1_method_13_code (3 : Nat) (Option.some Jvm.ClassFile.FieldType.int)) ∈ wT0 := wT0_in (List.mem_append_right _ (List.mem_of_getElem? (i := 833) (by decide +kernel))) rfl
theorem wd_830 : (Jvm.Cond.methodLink "WornSkin" (186 : Nat) ({ cls := "WornSkin", name := "rubByHand", desc := "(II)I" } : Jvm.MethodName)) ∈ wT0 := wT0_in (List.mem_append_right _ (List.mem_of_getElem? (i := 830) (by decide +kernel))) rfl
theorem wd_832 : (Jvm.Cond.instanceMethod ({ cls := "WornSkin", name := "rubByHand", desc := "(II)I" } : Jvm.MethodName)) ∈ wT0 := wT0_in (List.mem_append_right _ (List.mem_of_getElem? (i := 832) (by decide +kernel))) rfl
theorem wp_13 : Cond.selects "WornSkin" ({ cls := "WornSkin", name := "rubByHand", desc := "(II)I" } : Jvm.MethodName) ({ cls := "WornSkin", name := "rubByHand", desc := "(II)I" } : Jvm.MethodName) ∈ wT0 := wT0_in (List.mem_append_left _ (List.mem_of_getElem? (i := 13) (by decide +kernel))) rfl
theorem wd_1 : (Jvm.Cond.initialized "WornSkin") ∈ wT0 := wT0_in (List.mem_append_right _ (List.mem_of_getElem? (i := 1) (by decide +kernel))) rfl
theorem wd_837 : (Jvm.Cond.code ({ cls := "WornSkin$Shelf", name := "canRub", desc := "(II)Z" } : Jvm.MethodName) prog_8_method_12_code (3 : Nat) (Option.some Jvm.ClassFile.FieldType.boolean)) ∈ wT0 := wT0_in (List.mem_append_right _ (List.mem_of_getElem? (i := 837) (by decide +kernel))) rfl
theorem wd_834 : (Jvm.Cond.methodLink "WornSkin" (189 : Nat) ({ cls := "WornSkin$Shelf", name := "canRub", desc := "(II)Z" } : Jvm.MethodName)) ∈ wT0 := wT0_in (List.mem_append_right _ (List.mem_of_getElem? (i := 834) (by decide +kernel))) rfl
theorem wd_835 : (Jvm.Cond.instanceMethod ({ cls := "WornSkin$Shelf", name := "canRub", desc := "(II)Z" } : Jvm.MethodName)) ∈ wT0 := wT0_in (List.mem_append_right _ (List.mem_of_getElem? (i := 835) (by decide +kernel))) rfl
theorem wd_836 : (Jvm.Cond.selects "WornSkin$Shelf" ({ cls := "WornSkin$Shelf", name := "canRub", desc := "(II)Z" } : Jvm.MethodName) ({ cls := "WornSkin$Shelf", name := "canRub", desc := "(II)Z" } : Jvm.MethodName)) ∈ wT0 := wT0_in (List.mem_append_right _ (List.mem_of_getElem? (i := 836) (by decide +kernel))) rfl
theorem wd_841 : (Jvm.Cond.code ({ cls := "WornSkin$Shelf", name := "rub", desc := "(II)Z" } : Jvm.MethodName) prog_8_method_13_code (4 : Nat) (Option.some Jvm.ClassFile.FieldType.boolean)) ∈ wT0 := wT0_in (List.mem_append_right _ (List.mem_of_getElem? (i := 841) (by decide +kernel))) rfl
theorem wd_838 : (Jvm.Cond.methodLink "WornSkin" (192 : Nat) ({ cls := "WornSkin$Shelf", name := "rub", desc := "(II)Z" } : Jvm.MethodName)) ∈ wT0 := wT0_in (List.mem_append_right _ (List.mem_of_getElem? (i := 838) (by decide +kernel))) rfl
theorem wd_839 : (Jvm.Cond.instanceMethod ({ cls := "WornSkin$Shelf", name := "rub", desc := "(II)Z" } : Jvm.MethodName)) ∈ wT0 := wT0_in (List.mem_append_right _ (List.mem_of_getElem? (i := 839) (by decide +kernel))) rfl
theorem wd_840 : (Jvm.Cond.selects "WornSkin$Shelf" ({ cls := "WornSkin$Shelf", name := "rub", desc := "(II)Z" } : Jvm.MethodName) ({ cls := "WornSkin$Shelf", name := "rub", desc := "(II)Z" } : Jvm.MethodName)) ∈ wT0 := wT0_in (List.mem_append_right _ (List.mem_of_getElem? (i := 840) (by decide +kernel))) rfl
theorem wd_862 : (Jvm.Cond.code ({ cls := "WornSkin$Undoing", name := "takeBack", desc := "(LWornSkin$Shelf;)Z" } : Jvm.MethodName) prog_10_method_4_code (2 : Nat) (Option.some Jvm.ClassFile.FieldType.boolean)) ∈ wT0 := wT0_in (List.mem_append_right _ (List.mem_of_getElem? (i := 862) (by decide +kernel))) rfl
theorem wd_859 : (Jvm.Cond.methodLink "WornSkin" (198 : Nat) ({ cls := "WornSkin$Undoing", name := "takeBack", desc := "(LWornSkin$Shelf;)Z" } : Jvm.MethodName)) ∈ wT0 := wT0_in (List.mem_append_right _ (List.mem_of_getElem? (i := 859) (by decide +kernel))) rfl
theorem wd_860 : (Jvm.Cond.instanceMethod ({ cls := "WornSkin$Undoing", name := "takeBack", desc := "(LWornSkin$Shelf;)Z" } : Jvm.MethodName)) ∈ wT0 := wT0_in (List.mem_append_right _ (List.mem_of_getElem? (i := 860) (by decide +kernel))) rfl
theorem wd_861 : (Jvm.Cond.selects "WornSkin$Undoing" ({ cls := "WornSkin$Undoing", name := "takeBack", desc := "(LWornSkin$Shelf;)Z" } : Jvm.MethodName) ({ cls := "WornSkin$Undoing", name := "takeBack", desc := "(LWornSkin$Shelf;)Z" } : Jvm.MethodName)) ∈ wT0 := wT0_in (List.mem_append_right _ (List.mem_of_getElem? (i := 861) (by decide +kernel))) rfl
theorem wd_870 : (Jvm.Cond.code ({ cls := "WornSkin$Shelf", name := "goneSkins", desc := "()I" } : Jvm.MethodName) prog_8_method_29_code (3 : Nat) (Option.some Jvm.ClassFile.FieldType.int)) ∈ wT0 := wT0_in (List.mem_append_right _ (List.mem_of_getElem? (i := 870) (by decide +kernel))) rfl
theorem wd_867 : (Jvm.Cond.methodLink "WornSkin" (205 : Nat) ({ cls := "WornSkin$Shelf", name := "goneSkins", desc := "()I" } : Jvm.MethodName)) ∈ wT0 := wT0_in (List.mem_append_right _ (List.mem_of_getElem? (i := 867) (by decide +kernel))) rfl
theorem wd_868 : (Jvm.Cond.instanceMethod ({ cls := "WornSkin$Shelf", name := "goneSkins", desc := "()I" } : Jvm.MethodName)) ∈ wT0 := wT0_in (List.mem_append_right _ (List.mem_of_getElem? (i := 868) (by decide +kernel))) rfl
theorem wd_869 : (Jvm.Cond.selects "WornSkin$Shelf" ({ cls := "WornSkin$Shelf", name := "goneSkins", desc := "()I" } : Jvm.MethodName) ({ cls := "WornSkin$Shelf", name := "goneSkins", desc := "()I" } : Jvm.MethodName)) ∈ wT0 := wT0_in (List.mem_append_right _ (List.mem_of_getElem? (i := 869) (by decide +kernel))) rfl
theorem wd_874 : (Jvm.Cond.code ({ cls := "WornSkin$Shelf", name := "follow", desc := "(I)Z" } : Jvm.MethodName) prog_8_method_15_code (5 : Nat) (Option.some Jvm.ClassFile.FieldType.boolean)) ∈ wT0 := wT0_in (List.mem_append_right _ (List.mem_of_getElem? (i := 874) (by decide +kernel))) rfl
theorem wd_871 : (Jvm.Cond.methodLink "WornSkin" (209 : Nat) ({ cls := "WornSkin$Shelf", name := "follow", desc := "(I)Z" } : Jvm.MethodName)) ∈ wT0 := wT0_in (List.mem_append_right _ (List.mem_of_getElem? (i := 871) (by decide +kernel))) rfl
theorem wd_872 : (Jvm.Cond.instanceMethod ({ cls := "WornSkin$Shelf", name := "follow", desc := "(I)Z" } : Jvm.MethodName)) ∈ wT0 := wT0_in (List.mem_append_right _ (List.mem_of_getElem? (i := 872) (by decide +kernel))) rfl
theorem wd_873 : (Jvm.Cond.selects "WornSkin$Shelf" ({ cls := "WornSkin$Shelf", name := "follow", desc := "(I)Z" } : Jvm.MethodName) ({ cls := "WornSkin$Shelf", name := "follow", desc := "(I)Z" } : Jvm.MethodName)) ∈ wT0 := wT0_in (List.mem_append_right _ (List.mem_of_getElem? (i := 873) (by decide +kernel))) rfl
theorem wd_776 : (Jvm.Cond.code ({ cls := "WornSkin$Shelf", name := "wholeTexts", desc := "(I)I" } : Jvm.MethodName) prog_8_method_23_code (8 : Nat) (Option.some Jvm.ClassFile.FieldType.int)) ∈ wT0 := wT0_in (List.mem_append_right _ (List.mem_of_getElem? (i := 776) (by decide +kernel))) rfl
theorem wd_884 : (Jvm.Cond.methodLink "WornSkin" (212 : Nat) ({ cls := "WornSkin$Shelf", name := "wholeTexts", desc := "(I)I" } : Jvm.MethodName)) ∈ wT0 := wT0_in (List.mem_append_right _ (List.mem_of_getElem? (i := 884) (by decide +kernel))) rfl
theorem wd_774 : (Jvm.Cond.instanceMethod ({ cls := "WornSkin$Shelf", name := "wholeTexts", desc := "(I)I" } : Jvm.MethodName)) ∈ wT0 := wT0_in (List.mem_append_right _ (List.mem_of_getElem? (i := 774) (by decide +kernel))) rfl
theorem wd_775 : (Jvm.Cond.selects "WornSkin$Shelf" ({ cls := "WornSkin$Shelf", name := "wholeTexts", desc := "(I)I" } : Jvm.MethodName) ({ cls := "WornSkin$Shelf", name := "wholeTexts", desc := "(I)I" } : Jvm.MethodName)) ∈ wT0 := wT0_in (List.mem_append_right _ (List.mem_of_getElem? (i := 775) (by decide +kernel))) rfl
theorem wd_887 : (Jvm.Cond.code ({ cls := "java/lang/Integer", name := "bitCount", desc := "(I)I" } : Jvm.MethodName) prog_19_method_49_code (1 : Nat) (Option.some Jvm.ClassFile.FieldType.int)) ∈ wT0 := wT0_in (List.mem_append_right _ (List.mem_of_getElem? (i := 887) (by decide +kernel))) rfl
theorem wd_885 : (Jvm.Cond.methodLink "WornSkin" (216 : Nat) ({ cls := "java/lang/Integer", name := "bitCount", desc := "(I)I" } : Jvm.MethodName)) ∈ wT0 := wT0_in (List.mem_append_right _ (List.mem_of_getElem? (i := 885) (by decide +kernel))) rfl
theorem wd_886 : (Jvm.Cond.static ({ cls := "java/lang/Integer", name := "bitCount", desc := "(I)I" } : Jvm.MethodName)) ∈ wT0 := wT0_in (List.mem_append_right _ (List.mem_of_getElem? (i := 886) (by decide +kernel))) rfl
theorem wd_20 : (Jvm.Cond.initialized "java/lang/Integer") ∈ wT0 := wT0_in (List.mem_append_right _ (List.mem_of_getElem? (i := 20) (by decide +kernel))) rfl
theorem wd_737 : (Jvm.Cond.code ({ cls := "WornSkin$Library", name := "dampOf", desc := "(I)I" } : Jvm.MethodName) prog_6_method_18_code (2 : Nat) (Option.some Jvm.ClassFile.FieldType.int)) ∈ wT0 := wT0_in (List.mem_append_right _ (List.mem_of_getElem? (i := 737) (by decide +kernel))) rfl
theorem wd_895 : (Jvm.Cond.methodLink "WornSkin" (221 : Nat) ({ cls := "WornSkin$Library", name := "dampOf", desc := "(I)I" } : Jvm.MethodName)) ∈ wT0 := wT0_in (List.mem_append_right _ (List.mem_of_getElem? (i := 895) (by decide +kernel))) rfl
theorem wd_735 : (Jvm.Cond.instanceMethod ({ cls := "WornSkin$Library", name := "dampOf", desc := "(I)I" } : Jvm.MethodName)) ∈ wT0 := wT0_in (List.mem_append_right _ (List.mem_of_getElem? (i := 735) (by decide +kernel))) rfl
theorem wd_736 : (Jvm.Cond.selects "WornSkin$Library" ({ cls := "WornSkin$Library", name := "dampOf", desc := "(I)I" } : Jvm.MethodName) ({ cls := "WornSkin$Library", name := "dampOf", desc := "(I)I" } : Jvm.MethodName)) ∈ wT0 := wT0_in (List.mem_append_right _ (List.mem_of_getElem? (i := 736) (by decide +kernel))) rfl
theorem wd_900 : (Jvm.Cond.methodLink "WornSkin" (227 : Nat) ({ cls := "java/lang/Math", name := "max", desc := "(II)I" } : Jvm.MethodName)) ∈ wT0 := wT0_in (List.mem_append_right _ (List.mem_of_getElem? (i := 900) (by decide +kernel))) rfl
theorem wd_912 : (Jvm.Cond.code ({ cls := "WornSkin$Shelf", name := "textsLaid", desc := "()I" } : Jvm.MethodName) prog_8_method_24_code (4 : Nat) (Option.some Jvm.ClassFile.FieldType.int)) ∈ wT0 := wT0_in (List.mem_append_right _ (List.mem_of_getElem? (i := 912) (by decide +kernel))) rfl
theorem wd_909 : (Jvm.Cond.methodLink "WornSkin" (232 : Nat) ({ cls := "WornSkin$Shelf", name := "textsLaid", desc := "()I" } : Jvm.MethodName)) ∈ wT0 := wT0_in (List.mem_append_right _ (List.mem_of_getElem? (i := 909) (by decide +kernel))) rfl
theorem wd_910 : (Jvm.Cond.instanceMethod ({ cls := "WornSkin$Shelf", name := "textsLaid", desc := "()I" } : Jvm.MethodName)) ∈ wT0 := wT0_in (List.mem_append_right _ (List.mem_of_getElem? (i := 910) (by decide +kernel))) rfl
theorem wd_911 : (Jvm.Cond.selects "WornSkin$Shelf" ({ cls := "WornSkin$Shelf", name := "textsLaid", desc := "()I" } : Jvm.MethodName) ({ cls := "WornSkin$Shelf", name := "textsLaid", desc := "()I" } : Jvm.MethodName)) ∈ wT0 := wT0_in (List.mem_append_right _ (List.mem_of_getElem? (i := 911) (by decide +kernel))) rfl
theorem wd_916 : (Jvm.Cond.code ({ cls := "WornSkin$Shelf", name := "shownTexts", desc := "(I)I" } : Jvm.MethodName) prog_8_method_20_code (6 : Nat) (Option.some Jvm.ClassFile.FieldType.int)) ∈ wT0 := wT0_in (List.mem_append_right _ (List.mem_of_getElem? (i := 916) (by decide +kernel))) rfl
theorem wd_913 : (Jvm.Cond.methodLink "WornSkin" (235 : Nat) ({ cls := "WornSkin$Shelf", name := "shownTexts", desc := "(I)I" } : Jvm.MethodName)) ∈ wT0 := wT0_in (List.mem_append_right _ (List.mem_of_getElem? (i := 913) (by decide +kernel))) rfl
theorem wd_914 : (Jvm.Cond.instanceMethod ({ cls := "WornSkin$Shelf", name := "shownTexts", desc := "(I)I" } : Jvm.MethodName)) ∈ wT0 := wT0_in (List.mem_append_right _ (List.mem_of_getElem? (i := 914) (by decide +kernel))) rfl
theorem wd_915 : (Jvm.Cond.selects "WornSkin$Shelf" ({ cls := "WornSkin$Shelf", name := "shownTexts", desc := "(I)I" } : Jvm.MethodName) ({ cls := "WornSkin$Shelf", name := "shownTexts", desc := "(I)I" } : Jvm.MethodName)) ∈ wT0 := wT0_in (List.mem_append_right _ (List.mem_of_getElem? (i := 915) (by decide +kernel))) rfl
theorem wd_924 : (Jvm.Cond.code ({ cls := "WornSkin$Shelf", name := "firstPlace", desc := "(II)I" } : Jvm.MethodName) prog_8_method_10_code (4 : Nat) (Option.some Jvm.ClassFile.FieldType.int)) ∈ wT0 := wT0_in (List.mem_append_right _ (List.mem_of_getElem? (i := 924) (by decide +kernel))) rfl
theorem wd_921 : (Jvm.Cond.methodLink "WornSkin" (238 : Nat) ({ cls := "WornSkin$Shelf", name := "firstPlace", desc := "(II)I" } : Jvm.MethodName)) ∈ wT0 := wT0_in (List.mem_append_right _ (List.mem_of_getElem? (i := 921) (by decide +kernel))) rfl
theorem wd_922 : (Jvm.Cond.instanceMethod ({ cls := "WornSkin$Shelf", name := "firstPlace", desc := "(II)I" } : Jvm.MethodName)) ∈ wT0 := wT0_in (List.mem_append_right _ (List.mem_of_getElem? (i := 922) (by decide +kernel))) rfl
theorem wd_923 : (Jvm.Cond.selects "WornSkin$Shelf" ({ cls := "WornSkin$Shelf", name := "firstPlace", desc := "(II)I" } : Jvm.MethodName) ({ cls := "WornSkin$Shelf", name := "firstPlace", desc := "(II)I" } : Jvm.MethodName)) ∈ wT0 := wT0_in (List.mem_append_right _ (List.mem_of_getElem? (i := 923) (by decide +kernel))) rfl
theorem wd_932 : (Jvm.Cond.code ({ cls := "WornSkin", name := "costOfRubbing", desc := "(III)I" } : Jvm.MethodName) prog_1_method_23_code (4 : Nat) (Option.some Jvm.ClassFile.FieldType.int)) ∈ wT0 := wT0_in (List.mem_append_right _ (List.mem_of_getElem? (i := 932) (by decide +kernel))) rfl
theorem wd_929 : (Jvm.Cond.methodLink "WornSkin" (241 : Nat) ({ cls := "WornSkin", name := "costOfRubbing", desc := "(III)I" } : Jvm.MethodName)) ∈ wT0 := wT0_in (List.mem_append_right _ (List.mem_of_getElem? (i := 929) (by decide +kernel))) rfl
theorem wd_931 : (Jvm.Cond.instanceMethod ({ cls := "WornSkin", name := "costOfRubbing", desc := "(III)I" } : Jvm.MethodName)) ∈ wT0 := wT0_in (List.mem_append_right _ (List.mem_of_getElem? (i := 931) (by decide +kernel))) rfl
theorem wp_16 : Cond.selects "WornSkin" ({ cls := "WornSkin", name := "costOfRubbing", desc := "(III)I" } : Jvm.MethodName) ({ cls := "WornSkin", name := "costOfRubbing", desc := "(III)I" } : Jvm.MethodName) ∈ wT0 := wT0_in (List.mem_append_left _ (List.mem_of_getElem? (i := 16) (by decide +kernel))) rfl
theorem wd_934 : (Jvm.Cond.methodLink "WornSkin" (244 : Nat) ({ cls := "java/lang/Math", name := "min", desc := "(II)I" } : Jvm.MethodName)) ∈ wT0 := wT0_in (List.mem_append_right _ (List.mem_of_getElem? (i := 934) (by decide +kernel))) rfl
theorem wd_819 : (Jvm.Cond.code ({ cls := "WornSkin$Shelf", name := "copyFrom", desc := "(LWornSkin$Shelf;)V" } : Jvm.MethodName) prog_8_method_4_code (2 : Nat) (Option.none : Option Jvm.ClassFile.FieldType)) ∈ wT0 := wT0_in (List.mem_append_right _ (List.mem_of_getElem? (i := 819) (by decide +kernel))) rfl
theorem wd_933 : (Jvm.Cond.methodLink "WornSkin" (247 : Nat) ({ cls := "WornSkin$Shelf", name := "copyFrom", desc := "(LWornSkin$Shelf;)V" } : Jvm.MethodName)) ∈ wT0 := wT0_in (List.mem_append_right _ (List.mem_of_getElem? (i := 933) (by decide +kernel))) rfl
theorem wd_817 : (Jvm.Cond.instanceMethod ({ cls := "WornSkin$Shelf", name := "copyFrom", desc := "(LWornSkin$Shelf;)V" } : Jvm.MethodName)) ∈ wT0 := wT0_in (List.mem_append_right _ (List.mem_of_getElem? (i := 817) (by decide +kernel))) rfl
theorem wd_818 : (Jvm.Cond.selects "WornSkin$Shelf" ({ cls := "WornSkin$Shelf", name := "copyFrom", desc := "(LWornSkin$Shelf;)V" } : Jvm.MethodName) ({ cls := "WornSkin$Shelf", name := "copyFrom", desc := "(LWornSkin$Shelf;)V" } : Jvm.MethodName)) ∈ wT0 := wT0_in (List.mem_append_right _ (List.mem_of_getElem? (i := 818) (by decide +kernel))) rfl
theorem wd_942 : (Jvm.Cond.code ({ cls := "WornSkin$Shelf", name := "freeLines", desc := "()I" } : Jvm.MethodName) prog_8_method_8_code (3 : Nat) (Option.some Jvm.ClassFile.FieldType.int)) ∈ wT0 := wT0_in (List.mem_append_right _ (List.mem_of_getElem? (i := 942) (by decide +kernel))) rfl
theorem wd_939 : (Jvm.Cond.methodLink "WornSkin" (249 : Nat) ({ cls := "WornSkin$Shelf", name := "freeLines", desc := "()I" } : Jvm.MethodName)) ∈ wT0 := wT0_in (List.mem_append_right _ (List.mem_of_getElem? (i := 939) (by decide +kernel))) rfl
theorem wd_940 : (Jvm.Cond.instanceMethod ({ cls := "WornSkin$Shelf", name := "freeLines", desc := "()I" } : Jvm.MethodName)) ∈ wT0 := wT0_in (List.mem_append_right _ (List.mem_of_getElem? (i := 940) (by decide +kernel))) rfl
theorem wd_941 : (Jvm.Cond.selects "WornSkin$Shelf" ({ cls := "WornSkin$Shelf", name := "freeLines", desc := "()I" } : Jvm.MethodName) ({ cls := "WornSkin$Shelf", name := "freeLines", desc := "()I" } : Jvm.MethodName)) ∈ wT0 := wT0_in (List.mem_append_right _ (List.mem_of_getElem? (i := 941) (by decide +kernel))) rfl
theorem wd_946 : (Jvm.Cond.code ({ cls := "WornSkin$Layout", name := "find", desc := "(I)V" } : Jvm.MethodName) prog_5_method_2_code (5 : Nat) (Option.none : Option Jvm.ClassFile.FieldType)) ∈ wT0 := wT0_in (List.mem_append_right _ (List.mem_of_getElem? (i := 946) (by decide +kernel))) rfl
theorem wd_943 : (Jvm.Cond.methodLink "WornSkin" (252 : Nat) ({ cls := "WornSkin$Layout", name := "find", desc := "(I)V" } : Jvm.MethodName)) ∈ wT0 := wT0_in (List.mem_append_right _ (List.mem_of_getElem? (i := 943) (by decide +kernel))) rfl
theorem wd_944 : (Jvm.Cond.instanceMethod ({ cls := "WornSkin$Layout", name := "find", desc := "(I)V" } : Jvm.MethodName)) ∈ wT0 := wT0_in (List.mem_append_right _ (List.mem_of_getElem? (i := 944) (by decide +kernel))) rfl
theorem wd_945 : (Jvm.Cond.selects "WornSkin$Layout" ({ cls := "WornSkin$Layout", name := "find", desc := "(I)V" } : Jvm.MethodName) ({ cls := "WornSkin$Layout", name := "find", desc := "(I)V" } : Jvm.MethodName)) ∈ wT0 := wT0_in (List.mem_append_right _ (List.mem_of_getElem? (i := 945) (by decide +kernel))) rfl
theorem wd_9 : (Jvm.Cond.initialized "WornSkin$Layout") ∈ wT0 := wT0_in (List.mem_append_right _ (List.mem_of_getElem? (i := 9) (by decide +kernel))) rfl
theorem wd_982 : (Jvm.Cond.code ({ cls := "WornSkin$Shelf", name := "textsOver", desc := "(I)I" } : Jvm.MethodName) prog_8_method_25_code (7 : Nat) (Option.some Jvm.ClassFile.FieldType.int)) ∈ wT0 := wT0_in (List.mem_append_right _ (List.mem_of_getElem? (i := 982) (by decide +kernel))) rfl
theorem wd_979 : (Jvm.Cond.methodLink "WornSkin" (262 : Nat) ({ cls := "WornSkin$Shelf", name := "textsOver", desc := "(I)I" } : Jvm.MethodName)) ∈ wT0 := wT0_in (List.mem_append_right _ (List.mem_of_getElem? (i := 979) (by decide +kernel))) rfl
theorem wd_980 : (Jvm.Cond.instanceMethod ({ cls := "WornSkin$Shelf", name := "textsOver", desc := "(I)I" } : Jvm.MethodName)) ∈ wT0 := wT0_in (List.mem_append_right _ (List.mem_of_getElem? (i := 980) (by decide +kernel))) rfl
theorem wd_981 : (Jvm.Cond.selects "WornSkin$Shelf" ({ cls := "WornSkin$Shelf", name := "textsOver", desc := "(I)I" } : Jvm.MethodName) ({ cls := "WornSkin$Shelf", name := "textsOver", desc := "(I)I" } : Jvm.MethodName)) ∈ wT0 := wT0_in (List.mem_append_right _ (List.mem_of_getElem? (i := 981) (by decide +kernel))) rfl
theorem wd_998 : (Jvm.Cond.code ({ cls := "WornSkin$Shelf", name := "pairsAlike", desc := "()I" } : Jvm.MethodName) prog_8_method_26_code (4 : Nat) (Option.some Jvm.ClassFile.FieldType.int)) ∈ wT0 := wT0_in (List.mem_append_right _ (List.mem_of_getElem? (i := 998) (by decide +kernel))) rfl
theorem wd_995 : (Jvm.Cond.methodLink "WornSkin" (265 : Nat) ({ cls := "WornSkin$Shelf", name := "pairsAlike", desc := "()I" } : Jvm.MethodName)) ∈ wT0 := wT0_in (List.mem_append_right _ (List.mem_of_getElem? (i := 995) (by decide +kernel))) rfl
theorem wd_996 : (Jvm.Cond.instanceMethod ({ cls := "WornSkin$Shelf", name := "pairsAlike", desc := "()I" } : Jvm.MethodName)) ∈ wT0 := wT0_in (List.mem_append_right _ (List.mem_of_getElem? (i := 996) (by decide +kernel))) rfl
theorem wd_997 : (Jvm.Cond.selects "WornSkin$Shelf" ({ cls := "WornSkin$Shelf", name := "pairsAlike", desc := "()I" } : Jvm.MethodName) ({ cls := "WornSkin$Shelf", name := "pairsAlike", desc := "()I" } : Jvm.MethodName)) ∈ wT0 := wT0_in (List.mem_append_right _ (List.mem_of_getElem? (i := 997) (by decide +kernel))) rfl
theorem wd_1014 : (Jvm.Cond.code ({ cls := "WornSkin$Seen", name := "add", desc := "(IIIZ)Z" } : Jvm.MethodName) prog_7_method_4_code (5 : Nat) (Option.some Jvm.ClassFile.FieldType.boolean)) ∈ wT0 := wT0_in (List.mem_append_right _ (List.mem_of_getElem? (i := 1014) (by decide +kernel))) rfl
theorem wd_1011 : (Jvm.Cond.methodLink "WornSkin" (271 : Nat) ({ cls := "WornSkin$Seen", name := "add", desc := "(IIIZ)Z" } : Jvm.MethodName)) ∈ wT0 := wT0_in (List.mem_append_right _ (List.mem_of_getElem? (i := 1011) (by decide +kernel))) rfl
theorem wd_1012 : (Jvm.Cond.instanceMethod ({ cls := "WornSkin$Seen", name := "add", desc := "(IIIZ)Z" } : Jvm.MethodName)) ∈ wT0 := wT0_in (List.mem_append_right _ (List.mem_of_getElem? (i := 1012) (by decide +kernel))) rfl
theorem wd_1013 : (Jvm.Cond.selects "WornSkin$Seen" ({ cls := "WornSkin$Seen", name := "add", desc := "(IIIZ)Z" } : Jvm.MethodName) ({ cls := "WornSkin$Seen", name := "add", desc := "(IIIZ)Z" } : Jvm.MethodName)) ∈ wT0 := wT0_in (List.mem_append_right _ (List.mem_of_getElem? (i := 1013) (by decide +kernel))) rfl
theorem wd_1022 : (Jvm.Cond.code ({ cls := "WornSkin", name := "textsAsSeen", desc := "()I" } : Jvm.MethodName) prog_1_method_34_code (3 : Nat) (Option.some Jvm.ClassFile.FieldType.int)) ∈ wT0 := wT0_in (List.mem_append_right _ (List.mem_of_getElem? (i := 1022) (by decide +kernel))) rfl
theorem wd_1019 : (Jvm.Cond.methodLink "WornSkin" (275 : Nat) ({ cls := "WornSkin", name := "textsAsSeen", desc := "()I" } : Jvm.MethodName)) ∈ wT0 := wT0_in (List.mem_append_right _ (List.mem_of_getElem? (i := 1019) (by decide +kernel))) rfl
theorem wd_1021 : (Jvm.Cond.instanceMethod ({ cls := "WornSkin", name := "textsAsSeen", desc := "()I" } : Jvm.MethodName)) ∈ wT0 := wT0_in (List.mem_append_right _ (List.mem_of_getElem? (i := 1021) (by decide +kernel))) rfl
theorem wp_23 : Cond.selects "WornSkin" ({ cls := "WornSkin", name := "textsAsSeen", desc := "()I" } : Jvm.MethodName) ({ cls := "WornSkin", name := "textsAsSeen", desc := "()I" } : Jvm.MethodName) ∈ wT0 := wT0_in (List.mem_append_left _ (List.mem_of_getElem? (i := 23) (by decide +kernel))) rfl
theorem wd_1026 : (Jvm.Cond.code ({ cls := "WornSkin$Seen", name := "agrees", desc := "(ILWornSkin$Library;LWornSkin$Shelf;)Z" } : Jvm.MethodName) prog_7_method_5_code (6 : Nat) (Option.some Jvm.ClassFile.FieldType.boolean)) ∈ wT0 := wT0_in (List.mem_append_right _ (List.mem_of_getElem? (i := 1026) (by decide +kernel))) rfl
theorem wd_1023 : (Jvm.Cond.methodLink "WornSkin" (281 : Nat) ({ cls := "WornSkin$Seen", name := "agrees", desc := "(ILWornSkin$Library;LWornSkin$Shelf;)Z" } : Jvm.MethodName)) ∈ wT0 := wT0_in (List.mem_append_right _ (List.mem_of_getElem? (i := 1023) (by decide +kernel))) rfl
theorem wd_1024 : (Jvm.Cond.instanceMethod ({ cls := "WornSkin$Seen", name := "agrees", desc := "(ILWornSkin$Library;LWornSkin$Shelf;)Z" } : Jvm.MethodName)) ∈ wT0 := wT0_in (List.mem_append_right _ (List.mem_of_getElem? (i := 1024) (by decide +kernel))) rfl
theorem wd_1025 : (Jvm.Cond.selects "WornSkin$Seen" ({ cls := "WornSkin$Seen", name := "agrees", desc := "(ILWornSkin$Library;LWornSkin$Shelf;)Z" } : Jvm.MethodName) ({ cls := "WornSkin$Seen", name := "agrees", desc := "(ILWornSkin$Library;LWornSkin$Shelf;)Z" } : Jvm.MethodName)) ∈ wT0 := wT0_in (List.mem_append_right _ (List.mem_of_getElem? (i := 1025) (by decide +kernel))) rfl
theorem wd_1035 : (Jvm.Cond.code ({ cls := "WornSkin$Library", name := "howManyShow", desc := "(IIII)I" } : Jvm.MethodName) prog_6_method_20_code (7 : Nat) (Option.some Jvm.ClassFile.FieldType.int)) ∈ wT0 := wT0_in (List.mem_append_right _ (List.mem_of_getElem? (i := 1035) (by decide +kernel))) rfl
theorem wd_1032 : (Jvm.Cond.methodLink "WornSkin" (285 : Nat) ({ cls := "WornSkin$Library", name := "howManyShow", desc := "(IIII)I" } : Jvm.MethodName)) ∈ wT0 := wT0_in (List.mem_append_right _ (List.mem_of_getElem? (i := 1032) (by decide +kernel))) rfl
theorem wd_1033 : (Jvm.Cond.instanceMethod ({ cls := "WornSkin$Library", name := "howManyShow", desc := "(IIII)I" } : Jvm.MethodName)) ∈ wT0 := wT0_in (List.mem_append_right _ (List.mem_of_getElem? (i := 1033) (by decide +kernel))) rfl
theorem wd_1034 : (Jvm.Cond.selects "WornSkin$Library" ({ cls := "WornSkin$Library", name := "howManyShow", desc := "(IIII)I" } : Jvm.MethodName) ({ cls := "WornSkin$Library", name := "howManyShow", desc := "(IIII)I" } : Jvm.MethodName)) ∈ wT0 := wT0_in (List.mem_append_right _ (List.mem_of_getElem? (i := 1034) (by decide +kernel))) rfl
theorem wd_1100 : (Jvm.Cond.code ({ cls := "WornSkin", name := "isGain", desc := "(I)Z" } : Jvm.MethodName) prog_1_method_38_code (1 : Nat) (Option.some Jvm.ClassFile.FieldType.boolean)) ∈ wT0 := wT0_in (List.mem_append_right _ (List.mem_of_getElem? (i := 1100) (by decide +kernel))) rfl
theorem wd_1098 : (Jvm.Cond.methodLink "WornSkin" (290 : Nat) ({ cls := "WornSkin", name := "isGain", desc := "(I)Z" } : Jvm.MethodName)) ∈ wT0 := wT0_in (List.mem_append_right _ (List.mem_of_getElem? (i := 1098) (by decide +kernel))) rfl
theorem wd_1099 : (Jvm.Cond.static ({ cls := "WornSkin", name := "isGain", desc := "(I)Z" } : Jvm.MethodName)) ∈ wT0 := wT0_in (List.mem_append_right _ (List.mem_of_getElem? (i := 1099) (by decide +kernel))) rfl
theorem wd_1164 : (Jvm.Cond.code ({ cls := "WornSkin", name := "isContent", desc := "(ZZIII)Z" } : Jvm.MethodName) prog_1_method_39_code (5 : Nat) (Option.some Jvm.ClassFile.FieldType.boolean)) ∈ wT0 := wT0_in (List.mem_append_right _ (List.mem_of_getElem? (i := 1164) (by decide +kernel))) rfl
theorem wd_1162 : (Jvm.Cond.methodLink "WornSkin" (296 : Nat) ({ cls := "WornSkin", name := "isContent", desc := "(ZZIII)Z" } : Jvm.MethodName)) ∈ wT0 := wT0_in (List.mem_append_right _ (List.mem_of_getElem? (i := 1162) (by decide +kernel))) rfl
theorem wd_1163 : (Jvm.Cond.static ({ cls := "WornSkin", name := "isContent", desc := "(ZZIII)Z" } : Jvm.MethodName)) ∈ wT0 := wT0_in (List.mem_append_right _ (List.mem_of_getElem? (i := 1163) (by decide +kernel))) rfl
theorem wd_1167 : (Jvm.Cond.code ({ cls := "WornSkin", name := "gainOf", desc := "(ZZIII)I" } : Jvm.MethodName) prog_1_method_40_code (5 : Nat) (Option.some Jvm.ClassFile.FieldType.int)) ∈ wT0 := wT0_in (List.mem_append_right _ (List.mem_of_getElem? (i := 1167) (by decide +kernel))) rfl
theorem wd_1165 : (Jvm.Cond.methodLink "WornSkin" (300 : Nat) ({ cls := "WornSkin", name := "gainOf", desc := "(ZZIII)I" } : Jvm.MethodName)) ∈ wT0 := wT0_in (List.mem_append_right _ (List.mem_of_getElem? (i := 1165) (by decide +kernel))) rfl
theorem wd_1166 : (Jvm.Cond.static ({ cls := "WornSkin", name := "gainOf", desc := "(ZZIII)I" } : Jvm.MethodName)) ∈ wT0 := wT0_in (List.mem_append_right _ (List.mem_of_getElem? (i := 1166) (by decide +kernel))) rfl
theorem wd_1049 : (Jvm.Cond.code ({ cls := "WornSkin$Draws", name := "start", desc := "(I)V" } : Jvm.MethodName) prog_3_method_2_code (2 : Nat) (Option.none : Option Jvm.ClassFile.FieldType)) ∈ wT0 := wT0_in (List.mem_append_right _ (List.mem_of_getElem? (i := 1049) (by decide +kernel))) rfl
theorem wd_1046 : (Jvm.Cond.methodLink "WornSkin" (304 : Nat) ({ cls := "WornSkin$Draws", name := "start", desc := "(I)V" } : Jvm.MethodName)) ∈ wT0 := wT0_in (List.mem_append_right _ (List.mem_of_getElem? (i := 1046) (by decide +kernel))) rfl
theorem wd_1047 : (Jvm.Cond.instanceMethod ({ cls := "WornSkin$Draws", name := "start", desc := "(I)V" } : Jvm.MethodName)) ∈ wT0 := wT0_in (List.mem_append_right _ (List.mem_of_getElem? (i := 1047) (by decide +kernel))) rfl
theorem wd_1048 : (Jvm.Cond.selects "WornSkin$Draws" ({ cls := "WornSkin$Draws", name := "start", desc := "(I)V" } : Jvm.MethodName) ({ cls := "WornSkin$Draws", name := "start", desc := "(I)V" } : Jvm.MethodName)) ∈ wT0 := wT0_in (List.mem_append_right _ (List.mem_of_getElem? (i := 1048) (by decide +kernel))) rfl
theorem wd_10 : (Jvm.Cond.initialized "WornSkin$Draws") ∈ wT0 := wT0_in (List.mem_append_right _ (List.mem_of_getElem? (i := 10) (by decide +kernel))) rfl
theorem wd_1053 : (Jvm.Cond.code ({ cls := "WornSkin$Shelf", name := "liveByDraws", desc := "(LWornSkin$Draws;)Z" } : Jvm.MethodName) prog_8_method_17_code (6 : Nat) (Option.some Jvm.ClassFile.FieldType.boolean)) ∈ wT0 := wT0_in (List.mem_append_right _ (List.mem_of_getElem? (i := 1053) (by decide +kernel))) rfl
theorem wd_1050 : (Jvm.Cond.methodLink "WornSkin" (307 : Nat) ({ cls := "WornSkin$Shelf", name := "liveByDraws", desc := "(LWornSkin$Draws;)Z" } : Jvm.MethodName)) ∈ wT0 := wT0_in (List.mem_append_right _ (List.mem_of_getElem? (i := 1050) (by decide +kernel))) rfl
theorem wd_1051 : (Jvm.Cond.instanceMethod ({ cls := "WornSkin$Shelf", name := "liveByDraws", desc := "(LWornSkin$Draws;)Z" } : Jvm.MethodName)) ∈ wT0 := wT0_in (List.mem_append_right _ (List.mem_of_getElem? (i := 1051) (by decide +kernel))) rfl
theorem wd_1052 : (Jvm.Cond.selects "WornSkin$Shelf" ({ cls := "WornSkin$Shelf", name := "liveByDraws", desc := "(LWornSkin$Draws;)Z" } : Jvm.MethodName) ({ cls := "WornSkin$Shelf", name := "liveByDraws", desc := "(LWornSkin$Draws;)Z" } : Jvm.MethodName)) ∈ wT0 := wT0_in (List.mem_append_right _ (List.mem_of_getElem? (i := 1052) (by decide +kernel))) rfl
theorem wd_1065 : (Jvm.Cond.code ({ cls := "WornSkin$Shelf", name := "thickTogether", desc := "()I" } : Jvm.MethodName) prog_8_method_28_code (3 : Nat) (Option.some Jvm.ClassFile.FieldType.int)) ∈ wT0 := wT0_in (List.mem_append_right _ (List.mem_of_getElem? (i := 1065) (by decide +kernel))) rfl
theorem wd_1062 : (Jvm.Cond.methodLink "WornSkin" (311 : Nat) ({ cls := "WornSkin$Shelf", name := "thickTogether", desc := "()I" } : Jvm.MethodName)) ∈ wT0 := wT0_in (List.mem_append_right _ (List.mem_of_getElem? (i := 1062) (by decide +kernel))) rfl
theorem wd_1063 : (Jvm.Cond.instanceMethod ({ cls := "WornSkin$Shelf", name := "thickTogether", desc := "()I" } : Jvm.MethodName)) ∈ wT0 := wT0_in (List.mem_append_right _ (List.mem_of_getElem? (i := 1063) (by decide +kernel))) rfl
theorem wd_1064 : (Jvm.Cond.selects "WornSkin$Shelf" ({ cls := "WornSkin$Shelf", name := "thickTogether", desc := "()I" } : Jvm.MethodName) ({ cls := "WornSkin$Shelf", name := "thickTogether", desc := "()I" } : Jvm.MethodName)) ∈ wT0 := wT0_in (List.mem_append_right _ (List.mem_of_getElem? (i := 1064) (by decide +kernel))) rfl
theorem wd_1073 : (Jvm.Cond.code ({ cls := "WornSkin$Bookmark", name := "keep", desc := "(LWornSkin$Shelf;LWornSkin$Year;LWornSkin$Seen;)V" } : Jvm.MethodName) prog_2_method_2_code (4 : Nat) (Option.none : Option Jvm.ClassFile.FieldType)) ∈ wT0 := wT0_in (List.mem_append_right _ (List.mem_of_getElem? (i := 1073) (by decide +kernel))) rfl
theorem wd_1070 : (Jvm.Cond.methodLink "WornSkin" (314 : Nat) ({ cls := "WornSkin$Bookmark", name := "keep", desc := "(LWornSkin$Shelf;LWornSkin$Year;LWornSkin$Seen;)V" } : Jvm.MethodName)) ∈ wT0 := wT0_in (List.mem_append_right _ (List.mem_of_getElem? (i := 1070) (by decide +kernel))) rfl
theorem wd_1071 : (Jvm.Cond.instanceMethod ({ cls := "WornSkin$Bookmark", name := "keep", desc := "(LWornSkin$Shelf;LWornSkin$Year;LWornSkin$Seen;)V" } : Jvm.MethodName)) ∈ wT0 := wT0_in (List.mem_append_right _ (List.mem_of_getElem? (i := 1071) (by decide +kernel))) rfl
theorem wd_1072 : (Jvm.Cond.selects "WornSkin$Bookmark" ({ cls := "WornSkin$Bookmark", name := "keep", desc := "(LWornSkin$Shelf;LWornSkin$Year;LWornSkin$Seen;)V" } : Jvm.MethodName) ({ cls := "WornSkin$Bookmark", name := "keep", desc := "(LWornSkin$Shelf;LWornSkin$Year;LWornSkin$Seen;)V" } : Jvm.MethodName)) ∈ wT0 := wT0_in (List.mem_append_right _ (List.mem_of_getElem? (i := 1072) (by decide +kernel))) rfl
theorem wd_11 : (Jvm.Cond.initialized "WornSkin$Bookmark") ∈ wT0 := wT0_in (List.mem_append_right _ (List.mem_of_getElem? (i := 11) (by decide +kernel))) rfl
theorem wd_1079 : (Jvm.Cond.code ({ cls := "WornSkin$Seen", name := "copyFrom", desc := "(LWornSkin$Seen;)V" } : Jvm.MethodName) prog_7_method_3_code (2 : Nat) (Option.none : Option Jvm.ClassFile.FieldType)) ∈ wT0 := wT0_in (List.mem_append_right _ (List.mem_of_getElem? (i := 1079) (by decide +kernel))) rfl
theorem wd_1081 : (Jvm.Cond.methodLink "WornSkin" (322 : Nat) ({ cls := "WornSkin$Seen", name := "copyFrom", desc := "(LWornSkin$Seen;)V" } : Jvm.MethodName)) ∈ wT0 := wT0_in (List.mem_append_right _ (List.mem_of_getElem? (i := 1081) (by decide +kernel))) rfl
theorem wd_1077 : (Jvm.Cond.instanceMethod ({ cls := "WornSkin$Seen", name := "copyFrom", desc := "(LWornSkin$Seen;)V" } : Jvm.MethodName)) ∈ wT0 := wT0_in (List.mem_append_right _ (List.mem_of_getElem? (i := 1077) (by decide +kernel))) rfl
theorem wd_1078 : (Jvm.Cond.selects "WornSkin$Seen" ({ cls := "WornSkin$Seen", name := "copyFrom", desc := "(LWornSkin$Seen;)V" } : Jvm.MethodName) ({ cls := "WornSkin$Seen", name := "copyFrom", desc := "(LWornSkin$Seen;)V" } : Jvm.MethodName)) ∈ wT0 := wT0_in (List.mem_append_right _ (List.mem_of_getElem? (i := 1078) (by decide +kernel))) rfl
theorem wd_1089 : (Jvm.Cond.code ({ cls := "WornSkin$Shelf", name := "layersTogether", desc := "()I" } : Jvm.MethodName) prog_8_method_27_code (3 : Nat) (Option.some Jvm.ClassFile.FieldType.int)) ∈ wT0 := wT0_in (List.mem_append_right _ (List.mem_of_getElem? (i := 1089) (by decide +kernel))) rfl
theorem wd_1086 : (Jvm.Cond.methodLink "WornSkin" (325 : Nat) ({ cls := "WornSkin$Shelf", name := "layersTogether", desc := "()I" } : Jvm.MethodName)) ∈ wT0 := wT0_in (List.mem_append_right _ (List.mem_of_getElem? (i := 1086) (by decide +kernel))) rfl
theorem wd_1087 : (Jvm.Cond.instanceMethod ({ cls := "WornSkin$Shelf", name := "layersTogether", desc := "()I" } : Jvm.MethodName)) ∈ wT0 := wT0_in (List.mem_append_right _ (List.mem_of_getElem? (i := 1087) (by decide +kernel))) rfl
theorem wd_1088 : (Jvm.Cond.selects "WornSkin$Shelf" ({ cls := "WornSkin$Shelf", name := "layersTogether", desc := "()I" } : Jvm.MethodName) ({ cls := "WornSkin$Shelf", name := "layersTogether", desc := "()I" } : Jvm.MethodName)) ∈ wT0 := wT0_in (List.mem_append_right _ (List.mem_of_getElem? (i := 1088) (by decide +kernel))) rfl
theorem wd_1074 : (Jvm.Cond.methodLink "WornSkin$Bookmark" (32 : Nat) ({ cls := "WornSkin$Shelf", name := "copyFrom", desc := "(LWornSkin$Shelf;)V" } : Jvm.MethodName)) ∈ wT0 := wT0_in (List.mem_append_right _ (List.mem_of_getElem? (i := 1074) (by decide +kernel))) rfl
theorem wd_1075 : (Jvm.Cond.methodLink "WornSkin$Bookmark" (36 : Nat) ({ cls := "WornSkin$Year", name := "copyFrom", desc := "(LWornSkin$Year;)V" } : Jvm.MethodName)) ∈ wT0 := wT0_in (List.mem_append_right _ (List.mem_of_getElem? (i := 1075) (by decide +kernel))) rfl
theorem wd_1076 : (Jvm.Cond.methodLink "WornSkin$Bookmark" (39 : Nat) ({ cls := "WornSkin$Seen", name := "copyFrom", desc := "(LWornSkin$Seen;)V" } : Jvm.MethodName)) ∈ wT0 := wT0_in (List.mem_append_right _ (List.mem_of_getElem? (i := 1076) (by decide +kernel))) rfl
theorem wd_664 : (Jvm.Cond.methodLink "WornSkin$Law" (22 : Nat) ({ cls := "java/lang/System", name := "arraycopy", desc := "(Ljava/lang/Object;ILjava/lang/Object;II)V" } : Jvm.MethodName)) ∈ wT0 := wT0_in (List.mem_append_right _ (List.mem_of_getElem? (i := 664) (by decide +kernel))) rfl
theorem wd_374 : (Jvm.Cond.code ({ cls := "WornSkin$Law", name := "add", desc := "(I)V" } : Jvm.MethodName) prog_4_method_4_code (2 : Nat) (Option.none : Option Jvm.ClassFile.FieldType)) ∈ wT0 := wT0_in (List.mem_append_right _ (List.mem_of_getElem? (i := 374) (by decide +kernel))) rfl
theorem wd_371 : (Jvm.Cond.methodLink "WornSkin$Law" (32 : Nat) ({ cls := "WornSkin$Law", name := "add", desc := "(I)V" } : Jvm.MethodName)) ∈ wT0 := wT0_in (List.mem_append_right _ (List.mem_of_getElem? (i := 371) (by decide +kernel))) rfl
theorem wd_373 : (Jvm.Cond.instanceMethod ({ cls := "WornSkin$Law", name := "add", desc := "(I)V" } : Jvm.MethodName)) ∈ wT0 := wT0_in (List.mem_append_right _ (List.mem_of_getElem? (i := 373) (by decide +kernel))) rfl
theorem wp_0 : Cond.selects "WornSkin$Law" ({ cls := "WornSkin$Law", name := "add", desc := "(I)V" } : Jvm.MethodName) ({ cls := "WornSkin$Law", name := "add", desc := "(I)V" } : Jvm.MethodName) ∈ wT0 := wT0_in (List.mem_append_left _ (List.mem_of_getElem? (i := 0) (by decide +kernel))) rfl
theorem wd_4 : (Jvm.Cond.initialized "WornSkin$Law") ∈ wT0 := wT0_in (List.mem_append_right _ (List.mem_of_getElem? (i := 4) (by decide +kernel))) rfl
theorem wd_520 : (Jvm.Cond.code ({ cls := "WornSkin$Tape", name := "fail", desc := "(I)V" } : Jvm.MethodName) prog_9_method_7_code (2 : Nat) (Option.none : Option Jvm.ClassFile.FieldType)) ∈ wT0 := wT0_in (List.mem_append_right _ (List.mem_of_getElem? (i := 520) (by decide +kernel))) rfl
theorem wd_621 : (Jvm.Cond.methodLink "WornSkin$Law" (36 : Nat) ({ cls := "WornSkin$Tape", name := "fail", desc := "(I)V" } : Jvm.MethodName)) ∈ wT0 := wT0_in (List.mem_append_right _ (List.mem_of_getElem? (i := 621) (by decide +kernel))) rfl
theorem wd_518 : (Jvm.Cond.instanceMethod ({ cls := "WornSkin$Tape", name := "fail", desc := "(I)V" } : Jvm.MethodName)) ∈ wT0 := wT0_in (List.mem_append_right _ (List.mem_of_getElem? (i := 518) (by decide +kernel))) rfl
theorem wd_519 : (Jvm.Cond.selects "WornSkin$Tape" ({ cls := "WornSkin$Tape", name := "fail", desc := "(I)V" } : Jvm.MethodName) ({ cls := "WornSkin$Tape", name := "fail", desc := "(I)V" } : Jvm.MethodName)) ∈ wT0 := wT0_in (List.mem_append_right _ (List.mem_of_getElem? (i := 519) (by decide +kernel))) rfl
theorem wd_382 : (Jvm.Cond.code ({ cls := "WornSkin$Tape", name := "next", desc := "()V" } : Jvm.MethodName) prog_9_method_8_code (2 : Nat) (Option.none : Option Jvm.ClassFile.FieldType)) ∈ wT0 := wT0_in (List.mem_append_right _ (List.mem_of_getElem? (i := 382) (by decide +kernel))) rfl
theorem wd_622 : (Jvm.Cond.methodLink "WornSkin$Law" (39 : Nat) ({ cls := "WornSkin$Tape", name := "next", desc := "()V" } : Jvm.MethodName)) ∈ wT0 := wT0_in (List.mem_append_right _ (List.mem_of_getElem? (i := 622) (by decide +kernel))) rfl
theorem wd_380 : (Jvm.Cond.instanceMethod ({ cls := "WornSkin$Tape", name := "next", desc := "()V" } : Jvm.MethodName)) ∈ wT0 := wT0_in (List.mem_append_right _ (List.mem_of_getElem? (i := 380) (by decide +kernel))) rfl
theorem wd_381 : (Jvm.Cond.selects "WornSkin$Tape" ({ cls := "WornSkin$Tape", name := "next", desc := "()V" } : Jvm.MethodName) ({ cls := "WornSkin$Tape", name := "next", desc := "()V" } : Jvm.MethodName)) ∈ wT0 := wT0_in (List.mem_append_right _ (List.mem_of_getElem? (i := 381) (by decide +kernel))) rfl
theorem wd_626 : (Jvm.Cond.code ({ cls := "WornSkin$Law", name := "readLevel", desc := "(LWornSkin$Tape;II)V" } : Jvm.MethodName) prog_4_method_6_code (7 : Nat) (Option.none : Option Jvm.ClassFile.FieldType)) ∈ wT0 := wT0_in (List.mem_append_right _ (List.mem_of_getElem? (i := 626) (by decide +kernel))) rfl
theorem wd_623 : (Jvm.Cond.methodLink "WornSkin$Law" (42 : Nat) ({ cls := "WornSkin$Law", name := "readLevel", desc := "(LWornSkin$Tape;II)V" } : Jvm.MethodName)) ∈ wT0 := wT0_in (List.mem_append_right _ (List.mem_of_getElem? (i := 623) (by decide +kernel))) rfl
theorem wd_625 : (Jvm.Cond.instanceMethod ({ cls := "WornSkin$Law", name := "readLevel", desc := "(LWornSkin$Tape;II)V" } : Jvm.MethodName)) ∈ wT0 := wT0_in (List.mem_append_right _ (List.mem_of_getElem? (i := 625) (by decide +kernel))) rfl
theorem wp_8 : Cond.selects "WornSkin$Law" ({ cls := "WornSkin$Law", name := "readLevel", desc := "(LWornSkin$Tape;II)V" } : Jvm.MethodName) ({ cls := "WornSkin$Law", name := "readLevel", desc := "(LWornSkin$Tape;II)V" } : Jvm.MethodName) ∈ wT0 := wT0_in (List.mem_append_left _ (List.mem_of_getElem? (i := 8) (by decide +kernel))) rfl
theorem wd_572 : (Jvm.Cond.code ({ cls := "WornSkin$Tape", name := "takeSign", desc := "(C)V" } : Jvm.MethodName) prog_9_method_16_code (2 : Nat) (Option.none : Option Jvm.ClassFile.FieldType)) ∈ wT0 := wT0_in (List.mem_append_right _ (List.mem_of_getElem? (i := 572) (by decide +kernel))) rfl
theorem wd_643 : (Jvm.Cond.methodLink "WornSkin$Law" (46 : Nat) ({ cls := "WornSkin$Tape", name := "takeSign", desc := "(C)V" } : Jvm.MethodName)) ∈ wT0 := wT0_in (List.mem_append_right _ (List.mem_of_getElem? (i := 643) (by decide +kernel))) rfl
theorem wd_570 : (Jvm.Cond.instanceMethod ({ cls := "WornSkin$Tape", name := "takeSign", desc := "(C)V" } : Jvm.MethodName)) ∈ wT0 := wT0_in (List.mem_append_right _ (List.mem_of_getElem? (i := 570) (by decide +kernel))) rfl
theorem wd_571 : (Jvm.Cond.selects "WornSkin$Tape" ({ cls := "WornSkin$Tape", name := "takeSign", desc := "(C)V" } : Jvm.MethodName) ({ cls := "WornSkin$Tape", name := "takeSign", desc := "(C)V" } : Jvm.MethodName)) ∈ wT0 := wT0_in (List.mem_append_right _ (List.mem_of_getElem? (i := 571) (by decide +kernel))) rfl
theorem wd_630 : (Jvm.Cond.code ({ cls := "WornSkin$Law", name := "readPart", desc := "(LWornSkin$Tape;I)V" } : Jvm.MethodName) prog_4_method_8_code (5 : Nat) (Option.none : Option Jvm.ClassFile.FieldType)) ∈ wT0 := wT0_in (List.mem_append_right _ (List.mem_of_getElem? (i := 630) (by decide +kernel))) rfl
theorem wd_627 : (Jvm.Cond.methodLink "WornSkin$Law" (50 : Nat) ({ cls := "WornSkin$Law", name := "readPart", desc := "(LWornSkin$Tape;I)V" } : Jvm.MethodName)) ∈ wT0 := wT0_in (List.mem_append_right _ (List.mem_of_getElem? (i := 627) (by decide +kernel))) rfl
theorem wd_629 : (Jvm.Cond.instanceMethod ({ cls := "WornSkin$Law", name := "readPart", desc := "(LWornSkin$Tape;I)V" } : Jvm.MethodName)) ∈ wT0 := wT0_in (List.mem_append_right _ (List.mem_of_getElem? (i := 629) (by decide +kernel))) rfl
theorem wp_9 : Cond.selects "WornSkin$Law" ({ cls := "WornSkin$Law", name := "readPart", desc := "(LWornSkin$Tape;I)V" } : Jvm.MethodName) ({ cls := "WornSkin$Law", name := "readPart", desc := "(LWornSkin$Tape;I)V" } : Jvm.MethodName) ∈ wT0 := wT0_in (List.mem_append_left _ (List.mem_of_getElem? (i := 9) (by decide +kernel))) rfl
theorem wd_482 : (Jvm.Cond.code ({ cls := "WornSkin$Tape", name := "isSound", desc := "()Z" } : Jvm.MethodName) prog_9_method_5_code (1 : Nat) (Option.some Jvm.ClassFile.FieldType.boolean)) ∈ wT0 := wT0_in (List.mem_append_right _ (List.mem_of_getElem? (i := 482) (by decide +kernel))) rfl
theorem wd_631 : (Jvm.Cond.methodLink "WornSkin$Law" (54 : Nat) ({ cls := "WornSkin$Tape", name := "isSound", desc := "()Z" } : Jvm.MethodName)) ∈ wT0 := wT0_in (List.mem_append_right _ (List.mem_of_getElem? (i := 631) (by decide +kernel))) rfl
theorem wd_480 : (Jvm.Cond.instanceMethod ({ cls := "WornSkin$Tape", name := "isSound", desc := "()Z" } : Jvm.MethodName)) ∈ wT0 := wT0_in (List.mem_append_right _ (List.mem_of_getElem? (i := 480) (by decide +kernel))) rfl
theorem wd_481 : (Jvm.Cond.selects "WornSkin$Tape" ({ cls := "WornSkin$Tape", name := "isSound", desc := "()Z" } : Jvm.MethodName) ({ cls := "WornSkin$Tape", name := "isSound", desc := "()Z" } : Jvm.MethodName)) ∈ wT0 := wT0_in (List.mem_append_right _ (List.mem_of_getElem? (i := 481) (by decide +kernel))) rfl
theorem wd_646 : (Jvm.Cond.code ({ cls := "WornSkin$Law", name := "jointAt", desc := "(LWornSkin$Tape;I)I" } : Jvm.MethodName) prog_4_method_7_code (2 : Nat) (Option.some Jvm.ClassFile.FieldType.int)) ∈ wT0 := wT0_in (List.mem_append_right _ (List.mem_of_getElem? (i := 646) (by decide +kernel))) rfl
theorem wd_644 : (Jvm.Cond.methodLink "WornSkin$Law" (58 : Nat) ({ cls := "WornSkin$Law", name := "jointAt", desc := "(LWornSkin$Tape;I)I" } : Jvm.MethodName)) ∈ wT0 := wT0_in (List.mem_append_right _ (List.mem_of_getElem? (i := 644) (by decide +kernel))) rfl
theorem wd_645 : (Jvm.Cond.static ({ cls := "WornSkin$Law", name := "jointAt", desc := "(LWornSkin$Tape;I)I" } : Jvm.MethodName)) ∈ wT0 := wT0_in (List.mem_append_right _ (List.mem_of_getElem? (i := 645) (by decide +kernel))) rfl
theorem wd_491 : (Jvm.Cond.code ({ cls := "WornSkin$Tape", name := "isWord", desc := "(Ljava/lang/String;)Z" } : Jvm.MethodName) prog_9_method_13_code (3 : Nat) (Option.some Jvm.ClassFile.FieldType.boolean)) ∈ wT0 := wT0_in (List.mem_append_right _ (List.mem_of_getElem? (i := 491) (by decide +kernel))) rfl
theorem wd_636 : (Jvm.Cond.methodLink "WornSkin$Law" (64 : Nat) ({ cls := "WornSkin$Tape", name := "isWord", desc := "(Ljava/lang/String;)Z" } : Jvm.MethodName)) ∈ wT0 := wT0_in (List.mem_append_right _ (List.mem_of_getElem? (i := 636) (by decide +kernel))) rfl
theorem wd_489 : (Jvm.Cond.instanceMethod ({ cls := "WornSkin$Tape", name := "isWord", desc := "(Ljava/lang/String;)Z" } : Jvm.MethodName)) ∈ wT0 := wT0_in (List.mem_append_right _ (List.mem_of_getElem? (i := 489) (by decide +kernel))) rfl
theorem wd_490 : (Jvm.Cond.selects "WornSkin$Tape" ({ cls := "WornSkin$Tape", name := "isWord", desc := "(Ljava/lang/String;)Z" } : Jvm.MethodName) ({ cls := "WornSkin$Tape", name := "isWord", desc := "(Ljava/lang/String;)Z" } : Jvm.MethodName)) ∈ wT0 := wT0_in (List.mem_append_right _ (List.mem_of_getElem? (i := 490) (by decide +kernel))) rfl
theorem wd_576 : (Jvm.Cond.code ({ cls := "WornSkin$Tape", name := "isSign", desc := "(C)Z" } : Jvm.MethodName) prog_9_method_12_code (2 : Nat) (Option.some Jvm.ClassFile.FieldType.boolean)) ∈ wT0 := wT0_in (List.mem_append_right _ (List.mem_of_getElem? (i := 576) (by decide +kernel))) rfl
theorem wd_642 : (Jvm.Cond.methodLink "WornSkin$Law" (70 : Nat) ({ cls := "WornSkin$Tape", name := "isSign", desc := "(C)Z" } : Jvm.MethodName)) ∈ wT0 := wT0_in (List.mem_append_right _ (List.mem_of_getElem? (i := 642) (by decide +kernel))) rfl
theorem wd_574 : (Jvm.Cond.instanceMethod ({ cls := "WornSkin$Tape", name := "isSign", desc := "(C)Z" } : Jvm.MethodName)) ∈ wT0 := wT0_in (List.mem_append_right _ (List.mem_of_getElem? (i := 574) (by decide +kernel))) rfl
theorem wd_575 : (Jvm.Cond.selects "WornSkin$Tape" ({ cls := "WornSkin$Tape", name := "isSign", desc := "(C)Z" } : Jvm.MethodName) ({ cls := "WornSkin$Tape", name := "isSign", desc := "(C)Z" } : Jvm.MethodName)) ∈ wT0 := wT0_in (List.mem_append_right _ (List.mem_of_getElem? (i := 575) (by decide +kernel))) rfl
theorem wd_634 : (Jvm.Cond.code ({ cls := "WornSkin$Law", name := "factAt", desc := "(LWornSkin$Tape;)I" } : Jvm.MethodName) prog_4_method_9_code (1 : Nat) (Option.some Jvm.ClassFile.FieldType.int)) ∈ wT0 := wT0_in (List.mem_append_right _ (List.mem_of_getElem? (i := 634) (by decide +kernel))) rfl
theorem wd_632 : (Jvm.Cond.methodLink "WornSkin$Law" (74 : Nat) ({ cls := "WornSkin$Law", name := "factAt", desc := "(LWornSkin$Tape;)I" } : Jvm.MethodName)) ∈ wT0 := wT0_in (List.mem_append_right _ (List.mem_of_getElem? (i := 632) (by decide +kernel))) rfl
theorem wd_633 : (Jvm.Cond.static ({ cls := "WornSkin$Law", name := "factAt", desc := "(LWornSkin$Tape;)I" } : Jvm.MethodName)) ∈ wT0 := wT0_in (List.mem_append_right _ (List.mem_of_getElem? (i := 633) (by decide +kernel))) rfl
theorem wd_615 : (Jvm.Cond.code ({ cls := "WornSkin$Tape", name := "isNumber", desc := "()Z" } : Jvm.MethodName) prog_9_method_11_code (1 : Nat) (Option.some Jvm.ClassFile.FieldType.boolean)) ∈ wT0 := wT0_in (List.mem_append_right _ (List.mem_of_getElem? (i := 615) (by decide +kernel))) rfl
theorem wd_641 : (Jvm.Cond.methodLink "WornSkin$Law" (80 : Nat) ({ cls := "WornSkin$Tape", name := "isNumber", desc := "()Z" } : Jvm.MethodName)) ∈ wT0 := wT0_in (List.mem_append_right _ (List.mem_of_getElem? (i := 641) (by decide +kernel))) rfl
theorem wd_613 : (Jvm.Cond.instanceMethod ({ cls := "WornSkin$Tape", name := "isNumber", desc := "()Z" } : Jvm.MethodName)) ∈ wT0 := wT0_in (List.mem_append_right _ (List.mem_of_getElem? (i := 613) (by decide +kernel))) rfl
theorem wd_614 : (Jvm.Cond.selects "WornSkin$Tape" ({ cls := "WornSkin$Tape", name := "isNumber", desc := "()Z" } : Jvm.MethodName) ({ cls := "WornSkin$Tape", name := "isNumber", desc := "()Z" } : Jvm.MethodName)) ∈ wT0 := wT0_in (List.mem_append_right _ (List.mem_of_getElem? (i := 614) (by decide +kernel))) rfl
theorem wd_760 : (Jvm.Cond.code ({ cls := "WornSkin$Law", name := "joined", desc := "(III)I" } : Jvm.MethodName) prog_4_method_11_code (3 : Nat) (Option.some Jvm.ClassFile.FieldType.int)) ∈ wT0 := wT0_in (List.mem_append_right _ (List.mem_of_getElem? (i := 760) (by decide +kernel))) rfl
theorem wd_758 : (Jvm.Cond.methodLink "WornSkin$Law" (94 : Nat) ({ cls := "WornSkin$Law", name := "joined", desc := "(III)I" } : Jvm.MethodName)) ∈ wT0 := wT0_in (List.mem_append_right _ (List.mem_of_getElem? (i := 758) (by decide +kernel))) rfl
theorem wd_759 : (Jvm.Cond.static ({ cls := "WornSkin$Law", name := "joined", desc := "(III)I" } : Jvm.MethodName)) ∈ wT0 := wT0_in (List.mem_append_right _ (List.mem_of_getElem? (i := 759) (by decide +kernel))) rfl
theorem wd_950 : (Jvm.Cond.code ({ cls := "WornSkin$Layout", name := "canLay", desc := "(III)Z" } : Jvm.MethodName) prog_5_method_5_code (4 : Nat) (Option.some Jvm.ClassFile.FieldType.boolean)) ∈ wT0 := wT0_in (List.mem_append_right _ (List.mem_of_getElem? (i := 950) (by decide +kernel))) rfl
theorem wd_947 : (Jvm.Cond.methodLink "WornSkin$Layout" (34 : Nat) ({ cls := "WornSkin$Layout", name := "canLay", desc := "(III)Z" } : Jvm.MethodName)) ∈ wT0 := wT0_in (List.mem_append_right _ (List.mem_of_getElem? (i := 947) (by decide +kernel))) rfl
theorem wd_949 : (Jvm.Cond.instanceMethod ({ cls := "WornSkin$Layout", name := "canLay", desc := "(III)Z" } : Jvm.MethodName)) ∈ wT0 := wT0_in (List.mem_append_right _ (List.mem_of_getElem? (i := 949) (by decide +kernel))) rfl
theorem wp_17 : Cond.selects "WornSkin$Layout" ({ cls := "WornSkin$Layout", name := "canLay", desc := "(III)Z" } : Jvm.MethodName) ({ cls := "WornSkin$Layout", name := "canLay", desc := "(III)Z" } : Jvm.MethodName) ∈ wT0 := wT0_in (List.mem_append_left _ (List.mem_of_getElem? (i := 17) (by decide +kernel))) rfl
theorem wd_966 : (Jvm.Cond.code ({ cls := "WornSkin$Layout", name := "firstPlaceLeaving", desc := "(III)I" } : Jvm.MethodName) prog_5_method_4_code (7 : Nat) (Option.some Jvm.ClassFile.FieldType.int)) ∈ wT0 := wT0_in (List.mem_append_right _ (List.mem_of_getElem? (i := 966) (by decide +kernel))) rfl
theorem wd_963 : (Jvm.Cond.methodLink "WornSkin$Layout" (38 : Nat) ({ cls := "WornSkin$Layout", name := "firstPlaceLeaving", desc := "(III)I" } : Jvm.MethodName)) ∈ wT0 := wT0_in (List.mem_append_right _ (List.mem_of_getElem? (i := 963) (by decide +kernel))) rfl
theorem wd_965 : (Jvm.Cond.instanceMethod ({ cls := "WornSkin$Layout", name := "firstPlaceLeaving", desc := "(III)I" } : Jvm.MethodName)) ∈ wT0 := wT0_in (List.mem_append_right _ (List.mem_of_getElem? (i := 965) (by decide +kernel))) rfl
theorem wp_21 : Cond.selects "WornSkin$Layout" ({ cls := "WornSkin$Layout", name := "firstPlaceLeaving", desc := "(III)I" } : Jvm.MethodName) ({ cls := "WornSkin$Layout", name := "firstPlaceLeaving", desc := "(III)I" } : Jvm.MethodName) ∈ wT0 := wT0_in (List.mem_append_left _ (List.mem_of_getElem? (i := 21) (by decide +kernel))) rfl
theorem wd_970 : (Jvm.Cond.code ({ cls := "WornSkin$Layout", name := "linesOf", desc := "(II)I" } : Jvm.MethodName) prog_5_method_3_code (3 : Nat) (Option.some Jvm.ClassFile.FieldType.int)) ∈ wT0 := wT0_in (List.mem_append_right _ (List.mem_of_getElem? (i := 970) (by decide +kernel))) rfl
theorem wd_967 : (Jvm.Cond.methodLink "WornSkin$Layout" (42 : Nat) ({ cls := "WornSkin$Layout", name := "linesOf", desc := "(II)I" } : Jvm.MethodName)) ∈ wT0 := wT0_in (List.mem_append_right _ (List.mem_of_getElem? (i := 967) (by decide +kernel))) rfl
theorem wd_969 : (Jvm.Cond.instanceMethod ({ cls := "WornSkin$Layout", name := "linesOf", desc := "(II)I" } : Jvm.MethodName)) ∈ wT0 := wT0_in (List.mem_append_right _ (List.mem_of_getElem? (i := 969) (by decide +kernel))) rfl
theorem wp_22 : Cond.selects "WornSkin$Layout" ({ cls := "WornSkin$Layout", name := "linesOf", desc := "(II)I" } : Jvm.MethodName) ({ cls := "WornSkin$Layout", name := "linesOf", desc := "(II)I" } : Jvm.MethodName) ∈ wT0 := wT0_in (List.mem_append_left _ (List.mem_of_getElem? (i := 22) (by decide +kernel))) rfl
theorem wd_954 : (Jvm.Cond.code ({ cls := "WornSkin$Layout", name := "gatherShortest", desc := "(II)V" } : Jvm.MethodName) prog_5_method_6_code (5 : Nat) (Option.none : Option Jvm.ClassFile.FieldType)) ∈ wT0 := wT0_in (List.mem_append_right _ (List.mem_of_getElem? (i := 954) (by decide +kernel))) rfl
theorem wd_951 : (Jvm.Cond.methodLink "WornSkin$Layout" (49 : Nat) ({ cls := "WornSkin$Layout", name := "gatherShortest", desc := "(II)V" } : Jvm.MethodName)) ∈ wT0 := wT0_in (List.mem_append_right _ (List.mem_of_getElem? (i := 951) (by decide +kernel))) rfl
theorem wd_953 : (Jvm.Cond.instanceMethod ({ cls := "WornSkin$Layout", name := "gatherShortest", desc := "(II)V" } : Jvm.MethodName)) ∈ wT0 := wT0_in (List.mem_append_right _ (List.mem_of_getElem? (i := 953) (by decide +kernel))) rfl
theorem wp_18 : Cond.selects "WornSkin$Layout" ({ cls := "WornSkin$Layout", name := "gatherShortest", desc := "(II)V" } : Jvm.MethodName) ({ cls := "WornSkin$Layout", name := "gatherShortest", desc := "(II)V" } : Jvm.MethodName) ∈ wT0 := wT0_in (List.mem_append_left _ (List.mem_of_getElem? (i := 18) (by decide +kernel))) rfl
theorem wd_958 : (Jvm.Cond.code ({ cls := "WornSkin$Layout", name := "gatherStretches", desc := "(I)V" } : Jvm.MethodName) prog_5_method_7_code (6 : Nat) (Option.none : Option Jvm.ClassFile.FieldType)) ∈ wT0 := wT0_in (List.mem_append_right _ (List.mem_of_getElem? (i := 958) (by decide +kernel))) rfl
theorem wd_955 : (Jvm.Cond.methodLink "WornSkin$Layout" (56 : Nat) ({ cls := "WornSkin$Layout", name := "gatherStretches", desc := "(I)V" } : Jvm.MethodName)) ∈ wT0 := wT0_in (List.mem_append_right _ (List.mem_of_getElem? (i := 955) (by decide +kernel))) rfl
theorem wd_957 : (Jvm.Cond.instanceMethod ({ cls := "WornSkin$Layout", name := "gatherStretches", desc := "(I)V" } : Jvm.MethodName)) ∈ wT0 := wT0_in (List.mem_append_right _ (List.mem_of_getElem? (i := 957) (by decide +kernel))) rfl
theorem wp_19 : Cond.selects "WornSkin$Layout" ({ cls := "WornSkin$Layout", name := "gatherStretches", desc := "(I)V" } : Jvm.MethodName) ({ cls := "WornSkin$Layout", name := "gatherStretches", desc := "(I)V" } : Jvm.MethodName) ∈ wT0 := wT0_in (List.mem_append_left _ (List.mem_of_getElem? (i := 19) (by decide +kernel))) rfl
theorem wd_962 : (Jvm.Cond.code ({ cls := "WornSkin$Layout", name := "fill", desc := "(I)Z" } : Jvm.MethodName) prog_5_method_8_code (8 : Nat) (Option.some Jvm.ClassFile.FieldType.boolean)) ∈ wT0 := wT0_in (List.mem_append_right _ (List.mem_of_getElem? (i := 962) (by decide +kernel))) rfl
theorem wd_959 : (Jvm.Cond.methodLink "WornSkin$Layout" (60 : Nat) ({ cls := "WornSkin$Layout", name := "fill", desc := "(I)Z" } : Jvm.MethodName)) ∈ wT0 := wT0_in (List.mem_append_right _ (List.mem_of_getElem? (i := 959) (by decide +kernel))) rfl
theorem wd_961 : (Jvm.Cond.instanceMethod ({ cls := "WornSkin$Layout", name := "fill", desc := "(I)Z" } : Jvm.MethodName)) ∈ wT0 := wT0_in (List.mem_append_right _ (List.mem_of_getElem? (i := 961) (by decide +kernel))) rfl
theorem wp_20 : Cond.selects "WornSkin$Layout" ({ cls := "WornSkin$Layout", name := "fill", desc := "(I)Z" } : Jvm.MethodName) ({ cls := "WornSkin$Layout", name := "fill", desc := "(I)Z" } : Jvm.MethodName) ∈ wT0 := wT0_in (List.mem_append_left _ (List.mem_of_getElem? (i := 20) (by decide +kernel))) rfl
theorem wd_657 : (Jvm.Cond.methodLink "WornSkin$Library" (51 : Nat) ({ cls := "java/lang/System", name := "arraycopy", desc := "(Ljava/lang/Object;ILjava/lang/Object;II)V" } : Jvm.MethodName)) ∈ wT0 := wT0_in (List.mem_append_right _ (List.mem_of_getElem? (i := 657) (by decide +kernel))) rfl
theorem wd_663 : (Jvm.Cond.code ({ cls := "WornSkin$Law", name := "copyFrom", desc := "(LWornSkin$Law;)V" } : Jvm.MethodName) prog_4_method_2_code (2 : Nat) (Option.none : Option Jvm.ClassFile.FieldType)) ∈ wT0 := wT0_in (List.mem_append_right _ (List.mem_of_getElem? (i := 663) (by decide +kernel))) rfl
theorem wd_660 : (Jvm.Cond.methodLink "WornSkin$Library" (63 : Nat) ({ cls := "WornSkin$Law", name := "copyFrom", desc := "(LWornSkin$Law;)V" } : Jvm.MethodName)) ∈ wT0 := wT0_in (List.mem_append_right _ (List.mem_of_getElem? (i := 660) (by decide +kernel))) rfl
theorem wd_661 : (Jvm.Cond.instanceMethod ({ cls := "WornSkin$Law", name := "copyFrom", desc := "(LWornSkin$Law;)V" } : Jvm.MethodName)) ∈ wT0 := wT0_in (List.mem_append_right _ (List.mem_of_getElem? (i := 661) (by decide +kernel))) rfl
theorem wd_662 : (Jvm.Cond.selects "WornSkin$Law" ({ cls := "WornSkin$Law", name := "copyFrom", desc := "(LWornSkin$Law;)V" } : Jvm.MethodName) ({ cls := "WornSkin$Law", name := "copyFrom", desc := "(LWornSkin$Law;)V" } : Jvm.MethodName)) ∈ wT0 := wT0_in (List.mem_append_right _ (List.mem_of_getElem? (i := 662) (by decide +kernel))) rfl
theorem wd_370 : (Jvm.Cond.code ({ cls := "WornSkin$Law", name := "setUntold", desc := "()V" } : Jvm.MethodName) prog_4_method_3_code (1 : Nat) (Option.none : Option Jvm.ClassFile.FieldType)) ∈ wT0 := wT0_in (List.mem_append_right _ (List.mem_of_getElem? (i := 370) (by decide +kernel))) rfl
theorem wd_367 : (Jvm.Cond.methodLink "WornSkin$Library" (67 : Nat) ({ cls := "WornSkin$Law", name := "setUntold", desc := "()V" } : Jvm.MethodName)) ∈ wT0 := wT0_in (List.mem_append_right _ (List.mem_of_getElem? (i := 367) (by decide +kernel))) rfl
theorem wd_368 : (Jvm.Cond.instanceMethod ({ cls := "WornSkin$Law", name := "setUntold", desc := "()V" } : Jvm.MethodName)) ∈ wT0 := wT0_in (List.mem_append_right _ (List.mem_of_getElem? (i := 368) (by decide +kernel))) rfl
theorem wd_369 : (Jvm.Cond.selects "WornSkin$Law" ({ cls := "WornSkin$Law", name := "setUntold", desc := "()V" } : Jvm.MethodName) ({ cls := "WornSkin$Law", name := "setUntold", desc := "()V" } : Jvm.MethodName)) ∈ wT0 := wT0_in (List.mem_append_right _ (List.mem_of_getElem? (i := 369) (by decide +kernel))) rfl
theorem wd_378 : (Jvm.Cond.code ({ cls := "WornSkin$Tape", name := "rewind", desc := "()V" } : Jvm.MethodName) prog_9_method_4_code (1 : Nat) (Option.none : Option Jvm.ClassFile.FieldType)) ∈ wT0 := wT0_in (List.mem_append_right _ (List.mem_of_getElem? (i := 378) (by decide +kernel))) rfl
theorem wd_375 : (Jvm.Cond.methodLink "WornSkin$Library" (70 : Nat) ({ cls := "WornSkin$Tape", name := "rewind", desc := "()V" } : Jvm.MethodName)) ∈ wT0 := wT0_in (List.mem_append_right _ (List.mem_of_getElem? (i := 375) (by decide +kernel))) rfl
theorem wd_376 : (Jvm.Cond.instanceMethod ({ cls := "WornSkin$Tape", name := "rewind", desc := "()V" } : Jvm.MethodName)) ∈ wT0 := wT0_in (List.mem_append_right _ (List.mem_of_getElem? (i := 376) (by decide +kernel))) rfl
theorem wd_377 : (Jvm.Cond.selects "WornSkin$Tape" ({ cls := "WornSkin$Tape", name := "rewind", desc := "()V" } : Jvm.MethodName) ({ cls := "WornSkin$Tape", name := "rewind", desc := "()V" } : Jvm.MethodName)) ∈ wT0 := wT0_in (List.mem_append_right _ (List.mem_of_getElem? (i := 377) (by decide +kernel))) rfl
theorem wd_479 : (Jvm.Cond.methodLink "WornSkin$Library" (75 : Nat) ({ cls := "WornSkin$Tape", name := "isSound", desc := "()Z" } : Jvm.MethodName)) ∈ wT0 := wT0_in (List.mem_append_right _ (List.mem_of_getElem? (i := 479) (by decide +kernel))) rfl
theorem wd_486 : (Jvm.Cond.code ({ cls := "WornSkin$Tape", name := "isAtEnd", desc := "()Z" } : Jvm.MethodName) prog_9_method_6_code (1 : Nat) (Option.some Jvm.ClassFile.FieldType.boolean)) ∈ wT0 := wT0_in (List.mem_append_right _ (List.mem_of_getElem? (i := 486) (by decide +kernel))) rfl
theorem wd_483 : (Jvm.Cond.methodLink "WornSkin$Library" (79 : Nat) ({ cls := "WornSkin$Tape", name := "isAtEnd", desc := "()Z" } : Jvm.MethodName)) ∈ wT0 := wT0_in (List.mem_append_right _ (List.mem_of_getElem? (i := 483) (by decide +kernel))) rfl
theorem wd_484 : (Jvm.Cond.instanceMethod ({ cls := "WornSkin$Tape", name := "isAtEnd", desc := "()Z" } : Jvm.MethodName)) ∈ wT0 := wT0_in (List.mem_append_right _ (List.mem_of_getElem? (i := 484) (by decide +kernel))) rfl
theorem wd_485 : (Jvm.Cond.selects "WornSkin$Tape" ({ cls := "WornSkin$Tape", name := "isAtEnd", desc := "()Z" } : Jvm.MethodName) ({ cls := "WornSkin$Tape", name := "isAtEnd", desc := "()Z" } : Jvm.MethodName)) ∈ wT0 := wT0_in (List.mem_append_right _ (List.mem_of_getElem? (i := 485) (by decide +kernel))) rfl
theorem wd_488 : (Jvm.Cond.methodLink "WornSkin$Library" (84 : Nat) ({ cls := "WornSkin$Tape", name := "isWord", desc := "(Ljava/lang/String;)Z" } : Jvm.MethodName)) ∈ wT0 := wT0_in (List.mem_append_right _ (List.mem_of_getElem? (i := 488) (by decide +kernel))) rfl
theorem wd_516 : (Jvm.Cond.code ({ cls := "WornSkin$Library", name := "readSkin", desc := "(LWornSkin$Tape;)V" } : Jvm.MethodName) prog_6_method_4_code (2 : Nat) (Option.none : Option Jvm.ClassFile.FieldType)) ∈ wT0 := wT0_in (List.mem_append_right _ (List.mem_of_getElem? (i := 516) (by decide +kernel))) rfl
theorem wd_513 : (Jvm.Cond.methodLink "WornSkin$Library" (88 : Nat) ({ cls := "WornSkin$Library", name := "readSkin", desc := "(LWornSkin$Tape;)V" } : Jvm.MethodName)) ∈ wT0 := wT0_in (List.mem_append_right _ (List.mem_of_getElem? (i := 513) (by decide +kernel))) rfl
theorem wd_515 : (Jvm.Cond.instanceMethod ({ cls := "WornSkin$Library", name := "readSkin", desc := "(LWornSkin$Tape;)V" } : Jvm.MethodName)) ∈ wT0 := wT0_in (List.mem_append_right _ (List.mem_of_getElem? (i := 515) (by decide +kernel))) rfl
theorem wp_3 : Cond.selects "WornSkin$Library" ({ cls := "WornSkin$Library", name := "readSkin", desc := "(LWornSkin$Tape;)V" } : Jvm.MethodName) ({ cls := "WornSkin$Library", name := "readSkin", desc := "(LWornSkin$Tape;)V" } : Jvm.MethodName) ∈ wT0 := wT0_in (List.mem_append_left _ (List.mem_of_getElem? (i := 3) (by decide +kernel))) rfl
theorem wd_581 : (Jvm.Cond.code ({ cls := "WornSkin$Library", name := "readHole", desc := "(LWornSkin$Tape;)V" } : Jvm.MethodName) prog_6_method_5_code (4 : Nat) (Option.none : Option Jvm.ClassFile.FieldType)) ∈ wT0 := wT0_in (List.mem_append_right _ (List.mem_of_getElem? (i := 581) (by decide +kernel))) rfl
theorem wd_578 : (Jvm.Cond.methodLink "WornSkin$Library" (94 : Nat) ({ cls := "WornSkin$Library", name := "readHole", desc := "(LWornSkin$Tape;)V" } : Jvm.MethodName)) ∈ wT0 := wT0_in (List.mem_append_right _ (List.mem_of_getElem? (i := 578) (by decide +kernel))) rfl
theorem wd_580 : (Jvm.Cond.instanceMethod ({ cls := "WornSkin$Library", name := "readHole", desc := "(LWornSkin$Tape;)V" } : Jvm.MethodName)) ∈ wT0 := wT0_in (List.mem_append_right _ (List.mem_of_getElem? (i := 580) (by decide +kernel))) rfl
theorem wp_5 : Cond.selects "WornSkin$Library" ({ cls := "WornSkin$Library", name := "readHole", desc := "(LWornSkin$Tape;)V" } : Jvm.MethodName) ({ cls := "WornSkin$Library", name := "readHole", desc := "(LWornSkin$Tape;)V" } : Jvm.MethodName) ∈ wT0 := wT0_in (List.mem_append_left _ (List.mem_of_getElem? (i := 5) (by decide +kernel))) rfl
theorem wd_594 : (Jvm.Cond.code ({ cls := "WornSkin$Library", name := "readText", desc := "(LWornSkin$Tape;)V" } : Jvm.MethodName) prog_6_method_6_code (2 : Nat) (Option.none : Option Jvm.ClassFile.FieldType)) ∈ wT0 := wT0_in (List.mem_append_right _ (List.mem_of_getElem? (i := 594) (by decide +kernel))) rfl
theorem wd_591 : (Jvm.Cond.methodLink "WornSkin$Library" (99 : Nat) ({ cls := "WornSkin$Library", name := "readText", desc := "(LWornSkin$Tape;)V" } : Jvm.MethodName)) ∈ wT0 := wT0_in (List.mem_append_right _ (List.mem_of_getElem? (i := 591) (by decide +kernel))) rfl
theorem wd_593 : (Jvm.Cond.instanceMethod ({ cls := "WornSkin$Library", name := "readText", desc := "(LWornSkin$Tape;)V" } : Jvm.MethodName)) ∈ wT0 := wT0_in (List.mem_append_right _ (List.mem_of_getElem? (i := 593) (by decide +kernel))) rfl
theorem wp_6 : Cond.selects "WornSkin$Library" ({ cls := "WornSkin$Library", name := "readText", desc := "(LWornSkin$Tape;)V" } : Jvm.MethodName) ({ cls := "WornSkin$Library", name := "readText", desc := "(LWornSkin$Tape;)V" } : Jvm.MethodName) ∈ wT0 := wT0_in (List.mem_append_left _ (List.mem_of_getElem? (i := 6) (by decide +kernel))) rfl
theorem wd_611 : (Jvm.Cond.code ({ cls := "WornSkin$Library", name := "readDamp", desc := "(LWornSkin$Tape;)V" } : Jvm.MethodName) prog_6_method_9_code (3 : Nat) (Option.none : Option Jvm.ClassFile.FieldType)) ∈ wT0 := wT0_in (List.mem_append_right _ (List.mem_of_getElem? (i := 611) (by decide +kernel))) rfl
theorem wd_608 : (Jvm.Cond.methodLink "WornSkin$Library" (103 : Nat) ({ cls := "WornSkin$Library", name := "readDamp", desc := "(LWornSkin$Tape;)V" } : Jvm.MethodName)) ∈ wT0 := wT0_in (List.mem_append_right _ (List.mem_of_getElem? (i := 608) (by decide +kernel))) rfl
theorem wd_610 : (Jvm.Cond.instanceMethod ({ cls := "WornSkin$Library", name := "readDamp", desc := "(LWornSkin$Tape;)V" } : Jvm.MethodName)) ∈ wT0 := wT0_in (List.mem_append_right _ (List.mem_of_getElem? (i := 610) (by decide +kernel))) rfl
theorem wp_7 : Cond.selects "WornSkin$Library" ({ cls := "WornSkin$Library", name := "readDamp", desc := "(LWornSkin$Tape;)V" } : Jvm.MethodName) ({ cls := "WornSkin$Library", name := "readDamp", desc := "(LWornSkin$Tape;)V" } : Jvm.MethodName) ∈ wT0 := wT0_in (List.mem_append_left _ (List.mem_of_getElem? (i := 7) (by decide +kernel))) rfl
theorem wd_620 : (Jvm.Cond.code ({ cls := "WornSkin$Law", name := "readFrom", desc := "(LWornSkin$Tape;)V" } : Jvm.MethodName) prog_4_method_5_code (2 : Nat) (Option.none : Option Jvm.ClassFile.FieldType)) ∈ wT0 := wT0_in (List.mem_append_right _ (List.mem_of_getElem? (i := 620) (by decide +kernel))) rfl
theorem wd_617 : (Jvm.Cond.methodLink "WornSkin$Library" (108 : Nat) ({ cls := "WornSkin$Law", name := "readFrom", desc := "(LWornSkin$Tape;)V" } : Jvm.MethodName)) ∈ wT0 := wT0_in (List.mem_append_right _ (List.mem_of_getElem? (i := 617) (by decide +kernel))) rfl
theorem wd_618 : (Jvm.Cond.instanceMethod ({ cls := "WornSkin$Law", name := "readFrom", desc := "(LWornSkin$Tape;)V" } : Jvm.MethodName)) ∈ wT0 := wT0_in (List.mem_append_right _ (List.mem_of_getElem? (i := 618) (by decide +kernel))) rfl
theorem wd_619 : (Jvm.Cond.selects "WornSkin$Law" ({ cls := "WornSkin$Law", name := "readFrom", desc := "(LWornSkin$Tape;)V" } : Jvm.MethodName) ({ cls := "WornSkin$Law", name := "readFrom", desc := "(LWornSkin$Tape;)V" } : Jvm.MethodName)) ∈ wT0 := wT0_in (List.mem_append_right _ (List.mem_of_getElem? (i := 619) (by decide +kernel))) rfl
theorem wd_517 : (Jvm.Cond.methodLink "WornSkin$Library" (111 : Nat) ({ cls := "WornSkin$Tape", name := "fail", desc := "(I)V" } : Jvm.MethodName)) ∈ wT0 := wT0_in (List.mem_append_right _ (List.mem_of_getElem? (i := 517) (by decide +kernel))) rfl
theorem wd_521 : (Jvm.Cond.methodLink "WornSkin$Library" (118 : Nat) ({ cls := "WornSkin$Tape", name := "next", desc := "()V" } : Jvm.MethodName)) ∈ wT0 := wT0_in (List.mem_append_right _ (List.mem_of_getElem? (i := 521) (by decide +kernel))) rfl
theorem wd_525 : (Jvm.Cond.code ({ cls := "WornSkin$Library", name := "takeNewName", desc := "(LWornSkin$Tape;)J" } : Jvm.MethodName) prog_6_method_10_code (4 : Nat) (Option.some Jvm.ClassFile.FieldType.long)) ∈ wT0 := wT0_in (List.mem_append_right _ (List.mem_of_getElem? (i := 525) (by decide +kernel))) rfl
theorem wd_522 : (Jvm.Cond.methodLink "WornSkin$Library" (121 : Nat) ({ cls := "WornSkin$Library", name := "takeNewName", desc := "(LWornSkin$Tape;)J" } : Jvm.MethodName)) ∈ wT0 := wT0_in (List.mem_append_right _ (List.mem_of_getElem? (i := 522) (by decide +kernel))) rfl
theorem wd_524 : (Jvm.Cond.instanceMethod ({ cls := "WornSkin$Library", name := "takeNewName", desc := "(LWornSkin$Tape;)J" } : Jvm.MethodName)) ∈ wT0 := wT0_in (List.mem_append_right _ (List.mem_of_getElem? (i := 524) (by decide +kernel))) rfl
theorem wp_4 : Cond.selects "WornSkin$Library" ({ cls := "WornSkin$Library", name := "takeNewName", desc := "(LWornSkin$Tape;)J" } : Jvm.MethodName) ({ cls := "WornSkin$Library", name := "takeNewName", desc := "(LWornSkin$Tape;)J" } : Jvm.MethodName) ∈ wT0 := wT0_in (List.mem_append_left _ (List.mem_of_getElem? (i := 4) (by decide +kernel))) rfl
theorem wd_558 : (Jvm.Cond.code ({ cls := "WornSkin$Tape", name := "takeWord", desc := "(Ljava/lang/String;)V" } : Jvm.MethodName) prog_9_method_15_code (2 : Nat) (Option.none : Option Jvm.ClassFile.FieldType)) ∈ wT0 := wT0_in (List.mem_append_right _ (List.mem_of_getElem? (i := 558) (by decide +kernel))) rfl
theorem wd_555 : (Jvm.Cond.methodLink "WornSkin$Library" (126 : Nat) ({ cls := "WornSkin$Tape", name := "takeWord", desc := "(Ljava/lang/String;)V" } : Jvm.MethodName)) ∈ wT0 := wT0_in (List.mem_append_right _ (List.mem_of_getElem? (i := 555) (by decide +kernel))) rfl
theorem wd_556 : (Jvm.Cond.instanceMethod ({ cls := "WornSkin$Tape", name := "takeWord", desc := "(Ljava/lang/String;)V" } : Jvm.MethodName)) ∈ wT0 := wT0_in (List.mem_append_right _ (List.mem_of_getElem? (i := 556) (by decide +kernel))) rfl
theorem wd_557 : (Jvm.Cond.selects "WornSkin$Tape" ({ cls := "WornSkin$Tape", name := "takeWord", desc := "(Ljava/lang/String;)V" } : Jvm.MethodName) ({ cls := "WornSkin$Tape", name := "takeWord", desc := "(Ljava/lang/String;)V" } : Jvm.MethodName)) ∈ wT0 := wT0_in (List.mem_append_right _ (List.mem_of_getElem? (i := 557) (by decide +kernel))) rfl
theorem wd_563 : (Jvm.Cond.code ({ cls := "WornSkin$Tape", name := "takeNumber", desc := "(II)I" } : Jvm.MethodName) prog_9_method_18_code (4 : Nat) (Option.some Jvm.ClassFile.FieldType.int)) ∈ wT0 := wT0_in (List.mem_append_right _ (List.mem_of_getElem? (i := 563) (by decide +kernel))) rfl
theorem wd_560 : (Jvm.Cond.methodLink "WornSkin$Library" (130 : Nat) ({ cls := "WornSkin$Tape", name := "takeNumber", desc := "(II)I" } : Jvm.MethodName)) ∈ wT0 := wT0_in (List.mem_append_right _ (List.mem_of_getElem? (i := 560) (by decide +kernel))) rfl
theorem wd_561 : (Jvm.Cond.instanceMethod ({ cls := "WornSkin$Tape", name := "takeNumber", desc := "(II)I" } : Jvm.MethodName)) ∈ wT0 := wT0_in (List.mem_append_right _ (List.mem_of_getElem? (i := 561) (by decide +kernel))) rfl
theorem wd_562 : (Jvm.Cond.selects "WornSkin$Tape" ({ cls := "WornSkin$Tape", name := "takeNumber", desc := "(II)I" } : Jvm.MethodName) ({ cls := "WornSkin$Tape", name := "takeNumber", desc := "(II)I" } : Jvm.MethodName)) ∈ wT0 := wT0_in (List.mem_append_right _ (List.mem_of_getElem? (i := 562) (by decide +kernel))) rfl
theorem wd_569 : (Jvm.Cond.methodLink "WornSkin$Library" (135 : Nat) ({ cls := "WornSkin$Tape", name := "takeSign", desc := "(C)V" } : Jvm.MethodName)) ∈ wT0 := wT0_in (List.mem_append_right _ (List.mem_of_getElem? (i := 569) (by decide +kernel))) rfl
theorem wd_585 : (Jvm.Cond.code ({ cls := "WornSkin$Library", name := "takeSkin", desc := "(LWornSkin$Tape;)I" } : Jvm.MethodName) prog_6_method_11_code (2 : Nat) (Option.some Jvm.ClassFile.FieldType.int)) ∈ wT0 := wT0_in (List.mem_append_right _ (List.mem_of_getElem? (i := 585) (by decide +kernel))) rfl
theorem wd_582 : (Jvm.Cond.methodLink "WornSkin$Library" (139 : Nat) ({ cls := "WornSkin$Library", name := "takeSkin", desc := "(LWornSkin$Tape;)I" } : Jvm.MethodName)) ∈ wT0 := wT0_in (List.mem_append_right _ (List.mem_of_getElem? (i := 582) (by decide +kernel))) rfl
theorem wd_583 : (Jvm.Cond.instanceMethod ({ cls := "WornSkin$Library", name := "takeSkin", desc := "(LWornSkin$Tape;)I" } : Jvm.MethodName)) ∈ wT0 := wT0_in (List.mem_append_right _ (List.mem_of_getElem? (i := 583) (by decide +kernel))) rfl
theorem wd_584 : (Jvm.Cond.selects "WornSkin$Library" ({ cls := "WornSkin$Library", name := "takeSkin", desc := "(LWornSkin$Tape;)I" } : Jvm.MethodName) ({ cls := "WornSkin$Library", name := "takeSkin", desc := "(LWornSkin$Tape;)I" } : Jvm.MethodName)) ∈ wT0 := wT0_in (List.mem_append_right _ (List.mem_of_getElem? (i := 584) (by decide +kernel))) rfl
theorem wd_567 : (Jvm.Cond.code ({ cls := "WornSkin$Tape", name := "isNumberWithin", desc := "(II)Z" } : Jvm.MethodName) prog_9_method_17_code (3 : Nat) (Option.some Jvm.ClassFile.FieldType.boolean)) ∈ wT0 := wT0_in (List.mem_append_right _ (List.mem_of_getElem? (i := 567) (by decide +kernel))) rfl
theorem wd_589 : (Jvm.Cond.methodLink "WornSkin$Library" (143 : Nat) ({ cls := "WornSkin$Tape", name := "isNumberWithin", desc := "(II)Z" } : Jvm.MethodName)) ∈ wT0 := wT0_in (List.mem_append_right _ (List.mem_of_getElem? (i := 589) (by decide +kernel))) rfl
theorem wd_565 : (Jvm.Cond.instanceMethod ({ cls := "WornSkin$Tape", name := "isNumberWithin", desc := "(II)Z" } : Jvm.MethodName)) ∈ wT0 := wT0_in (List.mem_append_right _ (List.mem_of_getElem? (i := 565) (by decide +kernel))) rfl
theorem wd_566 : (Jvm.Cond.selects "WornSkin$Tape" ({ cls := "WornSkin$Tape", name := "isNumberWithin", desc := "(II)Z" } : Jvm.MethodName) ({ cls := "WornSkin$Tape", name := "isNumberWithin", desc := "(II)Z" } : Jvm.MethodName)) ∈ wT0 := wT0_in (List.mem_append_right _ (List.mem_of_getElem? (i := 566) (by decide +kernel))) rfl
theorem wd_597 : (Jvm.Cond.code ({ cls := "WornSkin$Library", name := "takeKind", desc := "(LWornSkin$Tape;)I" } : Jvm.MethodName) prog_6_method_7_code (2 : Nat) (Option.some Jvm.ClassFile.FieldType.int)) ∈ wT0 := wT0_in (List.mem_append_right _ (List.mem_of_getElem? (i := 597) (by decide +kernel))) rfl
theorem wd_595 : (Jvm.Cond.methodLink "WornSkin$Library" (150 : Nat) ({ cls := "WornSkin$Library", name := "takeKind", desc := "(LWornSkin$Tape;)I" } : Jvm.MethodName)) ∈ wT0 := wT0_in (List.mem_append_right _ (List.mem_of_getElem? (i := 595) (by decide +kernel))) rfl
theorem wd_596 : (Jvm.Cond.static ({ cls := "WornSkin$Library", name := "takeKind", desc := "(LWornSkin$Tape;)I" } : Jvm.MethodName)) ∈ wT0 := wT0_in (List.mem_append_right _ (List.mem_of_getElem? (i := 596) (by decide +kernel))) rfl
theorem wd_604 : (Jvm.Cond.code ({ cls := "WornSkin$Library", name := "takeInk", desc := "(LWornSkin$Tape;)I" } : Jvm.MethodName) prog_6_method_8_code (2 : Nat) (Option.some Jvm.ClassFile.FieldType.int)) ∈ wT0 := wT0_in (List.mem_append_right _ (List.mem_of_getElem? (i := 604) (by decide +kernel))) rfl
theorem wd_602 : (Jvm.Cond.methodLink "WornSkin$Library" (153 : Nat) ({ cls := "WornSkin$Library", name := "takeInk", desc := "(LWornSkin$Tape;)I" } : Jvm.MethodName)) ∈ wT0 := wT0_in (List.mem_append_right _ (List.mem_of_getElem? (i := 602) (by decide +kernel))) rfl
theorem wd_603 : (Jvm.Cond.static ({ cls := "WornSkin$Library", name := "takeInk", desc := "(LWornSkin$Tape;)I" } : Jvm.MethodName)) ∈ wT0 := wT0_in (List.mem_append_right _ (List.mem_of_getElem? (i := 603) (by decide +kernel))) rfl
theorem wd_612 : (Jvm.Cond.methodLink "WornSkin$Library" (168 : Nat) ({ cls := "WornSkin$Tape", name := "isNumber", desc := "()Z" } : Jvm.MethodName)) ∈ wT0 := wT0_in (List.mem_append_right _ (List.mem_of_getElem? (i := 612) (by decide +kernel))) rfl
theorem wd_529 : (Jvm.Cond.code ({ cls := "WornSkin$Tape", name := "isName", desc := "()Z" } : Jvm.MethodName) prog_9_method_14_code (2 : Nat) (Option.some Jvm.ClassFile.FieldType.boolean)) ∈ wT0 := wT0_in (List.mem_append_right _ (List.mem_of_getElem? (i := 529) (by decide +kernel))) rfl
theorem wd_526 : (Jvm.Cond.methodLink "WornSkin$Library" (175 : Nat) ({ cls := "WornSkin$Tape", name := "isName", desc := "()Z" } : Jvm.MethodName)) ∈ wT0 := wT0_in (List.mem_append_right _ (List.mem_of_getElem? (i := 526) (by decide +kernel))) rfl
theorem wd_527 : (Jvm.Cond.instanceMethod ({ cls := "WornSkin$Tape", name := "isName", desc := "()Z" } : Jvm.MethodName)) ∈ wT0 := wT0_in (List.mem_append_right _ (List.mem_of_getElem? (i := 527) (by decide +kernel))) rfl
theorem wd_528 : (Jvm.Cond.selects "WornSkin$Tape" ({ cls := "WornSkin$Tape", name := "isName", desc := "()Z" } : Jvm.MethodName) ({ cls := "WornSkin$Tape", name := "isName", desc := "()Z" } : Jvm.MethodName)) ∈ wT0 := wT0_in (List.mem_append_right _ (List.mem_of_getElem? (i := 528) (by decide +kernel))) rfl
theorem wd_553 : (Jvm.Cond.code ({ cls := "WornSkin$Library", name := "indexOf", desc := "(J[JI)I" } : Jvm.MethodName) prog_6_method_14_code (5 : Nat) (Option.some Jvm.ClassFile.FieldType.int)) ∈ wT0 := wT0_in (List.mem_append_right _ (List.mem_of_getElem? (i := 553) (by decide +kernel))) rfl
theorem wd_551 : (Jvm.Cond.methodLink "WornSkin$Library" (178 : Nat) ({ cls := "WornSkin$Library", name := "indexOf", desc := "(J[JI)I" } : Jvm.MethodName)) ∈ wT0 := wT0_in (List.mem_append_right _ (List.mem_of_getElem? (i := 551) (by decide +kernel))) rfl
theorem wd_552 : (Jvm.Cond.static ({ cls := "WornSkin$Library", name := "indexOf", desc := "(J[JI)I" } : Jvm.MethodName)) ∈ wT0 := wT0_in (List.mem_append_right _ (List.mem_of_getElem? (i := 552) (by decide +kernel))) rfl
theorem wd_588 : (Jvm.Cond.code ({ cls := "WornSkin$Library", name := "takeTold", desc := "(LWornSkin$Tape;[JI)I" } : Jvm.MethodName) prog_6_method_13_code (4 : Nat) (Option.some Jvm.ClassFile.FieldType.int)) ∈ wT0 := wT0_in (List.mem_append_right _ (List.mem_of_getElem? (i := 588) (by decide +kernel))) rfl
theorem wd_586 : (Jvm.Cond.methodLink "WornSkin$Library" (182 : Nat) ({ cls := "WornSkin$Library", name := "takeTold", desc := "(LWornSkin$Tape;[JI)I" } : Jvm.MethodName)) ∈ wT0 := wT0_in (List.mem_append_right _ (List.mem_of_getElem? (i := 586) (by decide +kernel))) rfl
theorem wd_587 : (Jvm.Cond.static ({ cls := "WornSkin$Library", name := "takeTold", desc := "(LWornSkin$Tape;[JI)I" } : Jvm.MethodName)) ∈ wT0 := wT0_in (List.mem_append_right _ (List.mem_of_getElem? (i := 587) (by decide +kernel))) rfl
theorem wd_789 : (Jvm.Cond.methodLink "WornSkin$Library" (186 : Nat) ({ cls := "WornSkin$Library", name := "hasSkin", desc := "(I)Z" } : Jvm.MethodName)) ∈ wT0 := wT0_in (List.mem_append_right _ (List.mem_of_getElem? (i := 789) (by decide +kernel))) rfl
theorem wd_757 : (Jvm.Cond.code ({ cls := "WornSkin$Law", name := "holds", desc := "(IIII)Z" } : Jvm.MethodName) prog_4_method_10_code (8 : Nat) (Option.some Jvm.ClassFile.FieldType.boolean)) ∈ wT0 := wT0_in (List.mem_append_right _ (List.mem_of_getElem? (i := 757) (by decide +kernel))) rfl
theorem wd_754 : (Jvm.Cond.methodLink "WornSkin$Library" (190 : Nat) ({ cls := "WornSkin$Law", name := "holds", desc := "(IIII)Z" } : Jvm.MethodName)) ∈ wT0 := wT0_in (List.mem_append_right _ (List.mem_of_getElem? (i := 754) (by decide +kernel))) rfl
theorem wd_755 : (Jvm.Cond.instanceMethod ({ cls := "WornSkin$Law", name := "holds", desc := "(IIII)Z" } : Jvm.MethodName)) ∈ wT0 := wT0_in (List.mem_append_right _ (List.mem_of_getElem? (i := 755) (by decide +kernel))) rfl
theorem wd_756 : (Jvm.Cond.selects "WornSkin$Law" ({ cls := "WornSkin$Law", name := "holds", desc := "(IIII)Z" } : Jvm.MethodName) ({ cls := "WornSkin$Law", name := "holds", desc := "(IIII)Z" } : Jvm.MethodName)) ∈ wT0 := wT0_in (List.mem_append_right _ (List.mem_of_getElem? (i := 756) (by decide +kernel))) rfl
theorem wd_753 : (Jvm.Cond.code ({ cls := "WornSkin$Library", name := "showsText", desc := "(IIII)Z" } : Jvm.MethodName) prog_6_method_19_code (7 : Nat) (Option.some Jvm.ClassFile.FieldType.boolean)) ∈ wT0 := wT0_in (List.mem_append_right _ (List.mem_of_getElem? (i := 753) (by decide +kernel))) rfl
theorem wd_1036 : (Jvm.Cond.methodLink "WornSkin$Library" (194 : Nat) ({ cls := "WornSkin$Library", name := "showsText", desc := "(IIII)Z" } : Jvm.MethodName)) ∈ wT0 := wT0_in (List.mem_append_right _ (List.mem_of_getElem? (i := 1036) (by decide +kernel))) rfl
theorem wd_751 : (Jvm.Cond.instanceMethod ({ cls := "WornSkin$Library", name := "showsText", desc := "(IIII)Z" } : Jvm.MethodName)) ∈ wT0 := wT0_in (List.mem_append_right _ (List.mem_of_getElem? (i := 751) (by decide +kernel))) rfl
theorem wd_752 : (Jvm.Cond.selects "WornSkin$Library" ({ cls := "WornSkin$Library", name := "showsText", desc := "(IIII)Z" } : Jvm.MethodName) ({ cls := "WornSkin$Library", name := "showsText", desc := "(IIII)Z" } : Jvm.MethodName)) ∈ wT0 := wT0_in (List.mem_append_right _ (List.mem_of_getElem? (i := 752) (by decide +kernel))) rfl
theorem wd_1080 : (Jvm.Cond.methodLink "WornSkin$Seen" (26 : Nat) ({ cls := "java/lang/System", name := "arraycopy", desc := "(Ljava/lang/Object;ILjava/lang/Object;II)V" } : Jvm.MethodName)) ∈ wT0 := wT0_in (List.mem_append_right _ (List.mem_of_getElem? (i := 1080) (by decide +kernel))) rfl
theorem wd_1027 : (Jvm.Cond.methodLink "WornSkin$Seen" (37 : Nat) ({ cls := "WornSkin$Library", name := "showsText", desc := "(IIII)Z" } : Jvm.MethodName)) ∈ wT0 := wT0_in (List.mem_append_right _ (List.mem_of_getElem? (i := 1027) (by decide +kernel))) rfl
theorem wd_672 : (Jvm.Cond.code ({ cls := "WornSkin$Shelf", name := "strip", desc := "(I)V" } : Jvm.MethodName) prog_8_method_3_code (3 : Nat) (Option.none : Option Jvm.ClassFile.FieldType)) ∈ wT0 := wT0_in (List.mem_append_right _ (List.mem_of_getElem? (i := 672) (by decide +kernel))) rfl
theorem wd_669 : (Jvm.Cond.methodLink "WornSkin$Shelf" (32 : Nat) ({ cls := "WornSkin$Shelf", name := "strip", desc := "(I)V" } : Jvm.MethodName)) ∈ wT0 := wT0_in (List.mem_append_right _ (List.mem_of_getElem? (i := 669) (by decide +kernel))) rfl
theorem wd_671 : (Jvm.Cond.instanceMethod ({ cls := "WornSkin$Shelf", name := "strip", desc := "(I)V" } : Jvm.MethodName)) ∈ wT0 := wT0_in (List.mem_append_right _ (List.mem_of_getElem? (i := 671) (by decide +kernel))) rfl
theorem wp_10 : Cond.selects "WornSkin$Shelf" ({ cls := "WornSkin$Shelf", name := "strip", desc := "(I)V" } : Jvm.MethodName) ({ cls := "WornSkin$Shelf", name := "strip", desc := "(I)V" } : Jvm.MethodName) ∈ wT0 := wT0_in (List.mem_append_left _ (List.mem_of_getElem? (i := 10) (by decide +kernel))) rfl
theorem wd_820 : (Jvm.Cond.methodLink "WornSkin$Shelf" (42 : Nat) ({ cls := "java/lang/System", name := "arraycopy", desc := "(Ljava/lang/Object;ILjava/lang/Object;II)V" } : Jvm.MethodName)) ∈ wT0 := wT0_in (List.mem_append_right _ (List.mem_of_getElem? (i := 820) (by decide +kernel))) rfl
theorem wd_734 : (Jvm.Cond.methodLink "WornSkin$Shelf" (48 : Nat) ({ cls := "WornSkin$Library", name := "dampOf", desc := "(I)I" } : Jvm.MethodName)) ∈ wT0 := wT0_in (List.mem_append_right _ (List.mem_of_getElem? (i := 734) (by decide +kernel))) rfl
theorem wd_811 : (Jvm.Cond.code ({ cls := "WornSkin$Shelf", name := "freeLinesOf", desc := "(I)I" } : Jvm.MethodName) prog_8_method_7_code (4 : Nat) (Option.some Jvm.ClassFile.FieldType.int)) ∈ wT0 := wT0_in (List.mem_append_right _ (List.mem_of_getElem? (i := 811) (by decide +kernel))) rfl
theorem wd_808 : (Jvm.Cond.methodLink "WornSkin$Shelf" (58 : Nat) ({ cls := "WornSkin$Shelf", name := "freeLinesOf", desc := "(I)I" } : Jvm.MethodName)) ∈ wT0 := wT0_in (List.mem_append_right _ (List.mem_of_getElem? (i := 808) (by decide +kernel))) rfl
theorem wd_810 : (Jvm.Cond.instanceMethod ({ cls := "WornSkin$Shelf", name := "freeLinesOf", desc := "(I)I" } : Jvm.MethodName)) ∈ wT0 := wT0_in (List.mem_append_right _ (List.mem_of_getElem? (i := 810) (by decide +kernel))) rfl
theorem wp_12 : Cond.selects "WornSkin$Shelf" ({ cls := "WornSkin$Shelf", name := "freeLinesOf", desc := "(I)I" } : Jvm.MethodName) ({ cls := "WornSkin$Shelf", name := "freeLinesOf", desc := "(I)I" } : Jvm.MethodName) ∈ wT0 := wT0_in (List.mem_append_left _ (List.mem_of_getElem? (i := 12) (by decide +kernel))) rfl
theorem wd_881 : (Jvm.Cond.methodLink "WornSkin$Shelf" (64 : Nat) ({ cls := "WornSkin$Shelf", name := "canWrite", desc := "(III)Z" } : Jvm.MethodName)) ∈ wT0 := wT0_in (List.mem_append_right _ (List.mem_of_getElem? (i := 881) (by decide +kernel))) rfl
theorem wd_845 : (Jvm.Cond.code ({ cls := "WornSkin$Shelf", name := "wearOf", desc := "(II)I" } : Jvm.MethodName) prog_8_method_14_code (8 : Nat) (Option.some Jvm.ClassFile.FieldType.int)) ∈ wT0 := wT0_in (List.mem_append_right _ (List.mem_of_getElem? (i := 845) (by decide +kernel))) rfl
theorem wd_842 : (Jvm.Cond.methodLink "WornSkin$Shelf" (68 : Nat) ({ cls := "WornSkin$Shelf", name := "wearOf", desc := "(II)I" } : Jvm.MethodName)) ∈ wT0 := wT0_in (List.mem_append_right _ (List.mem_of_getElem? (i := 842) (by decide +kernel))) rfl
theorem wd_844 : (Jvm.Cond.instanceMethod ({ cls := "WornSkin$Shelf", name := "wearOf", desc := "(II)I" } : Jvm.MethodName)) ∈ wT0 := wT0_in (List.mem_append_right _ (List.mem_of_getElem? (i := 844) (by decide +kernel))) rfl
theorem wp_14 : Cond.selects "WornSkin$Shelf" ({ cls := "WornSkin$Shelf", name := "wearOf", desc := "(II)I" } : Jvm.MethodName) ({ cls := "WornSkin$Shelf", name := "wearOf", desc := "(II)I" } : Jvm.MethodName) ∈ wT0 := wT0_in (List.mem_append_left _ (List.mem_of_getElem? (i := 14) (by decide +kernel))) rfl
theorem wd_846 : (Jvm.Cond.methodLink "WornSkin$Shelf" (72 : Nat) ({ cls := "java/lang/Math", name := "max", desc := "(II)I" } : Jvm.MethodName)) ∈ wT0 := wT0_in (List.mem_append_right _ (List.mem_of_getElem? (i := 846) (by decide +kernel))) rfl
theorem wd_746 : (Jvm.Cond.methodLink "WornSkin$Shelf" (77 : Nat) ({ cls := "WornSkin$Shelf", name := "layerAt", desc := "(II)I" } : Jvm.MethodName)) ∈ wT0 := wT0_in (List.mem_append_right _ (List.mem_of_getElem? (i := 746) (by decide +kernel))) rfl
theorem wd_875 : (Jvm.Cond.methodLink "WornSkin$Shelf" (88 : Nat) ({ cls := "WornSkin$Library", name := "hasSkin", desc := "(I)Z" } : Jvm.MethodName)) ∈ wT0 := wT0_in (List.mem_append_right _ (List.mem_of_getElem? (i := 875) (by decide +kernel))) rfl
theorem wd_876 : (Jvm.Cond.methodLink "WornSkin$Shelf" (92 : Nat) ({ cls := "WornSkin$Library", name := "hasText", desc := "(I)Z" } : Jvm.MethodName)) ∈ wT0 := wT0_in (List.mem_append_right _ (List.mem_of_getElem? (i := 876) (by decide +kernel))) rfl
theorem wd_880 : (Jvm.Cond.code ({ cls := "WornSkin$Shelf", name := "writeIfCan", desc := "(III)Z" } : Jvm.MethodName) prog_8_method_16_code (4 : Nat) (Option.some Jvm.ClassFile.FieldType.boolean)) ∈ wT0 := wT0_in (List.mem_append_right _ (List.mem_of_getElem? (i := 880) (by decide +kernel))) rfl
theorem wd_877 : (Jvm.Cond.methodLink "WornSkin$Shelf" (95 : Nat) ({ cls := "WornSkin$Shelf", name := "writeIfCan", desc := "(III)Z" } : Jvm.MethodName)) ∈ wT0 := wT0_in (List.mem_append_right _ (List.mem_of_getElem? (i := 877) (by decide +kernel))) rfl
theorem wd_879 : (Jvm.Cond.instanceMethod ({ cls := "WornSkin$Shelf", name := "writeIfCan", desc := "(III)Z" } : Jvm.MethodName)) ∈ wT0 := wT0_in (List.mem_append_right _ (List.mem_of_getElem? (i := 879) (by decide +kernel))) rfl
theorem wp_15 : Cond.selects "WornSkin$Shelf" ({ cls := "WornSkin$Shelf", name := "writeIfCan", desc := "(III)Z" } : Jvm.MethodName) ({ cls := "WornSkin$Shelf", name := "writeIfCan", desc := "(III)Z" } : Jvm.MethodName) ∈ wT0 := wT0_in (List.mem_append_left _ (List.mem_of_getElem? (i := 15) (by decide +kernel))) rfl
theorem wd_883 : (Jvm.Cond.methodLink "WornSkin$Shelf" (98 : Nat) ({ cls := "WornSkin$Shelf", name := "rub", desc := "(II)Z" } : Jvm.MethodName)) ∈ wT0 := wT0_in (List.mem_append_right _ (List.mem_of_getElem? (i := 883) (by decide +kernel))) rfl
theorem wd_882 : (Jvm.Cond.methodLink "WornSkin$Shelf" (102 : Nat) ({ cls := "WornSkin$Shelf", name := "put", desc := "(III)V" } : Jvm.MethodName)) ∈ wT0 := wT0_in (List.mem_append_right _ (List.mem_of_getElem? (i := 882) (by decide +kernel))) rfl
theorem wd_1057 : (Jvm.Cond.code ({ cls := "WornSkin$Draws", name := "below", desc := "(I)I" } : Jvm.MethodName) prog_3_method_3_code (2 : Nat) (Option.some Jvm.ClassFile.FieldType.int)) ∈ wT0 := wT0_in (List.mem_append_right _ (List.mem_of_getElem? (i := 1057) (by decide +kernel))) rfl
theorem wd_1054 : (Jvm.Cond.methodLink "WornSkin$Shelf" (109 : Nat) ({ cls := "WornSkin$Draws", name := "below", desc := "(I)I" } : Jvm.MethodName)) ∈ wT0 := wT0_in (List.mem_append_right _ (List.mem_of_getElem? (i := 1054) (by decide +kernel))) rfl
theorem wd_1055 : (Jvm.Cond.instanceMethod ({ cls := "WornSkin$Draws", name := "below", desc := "(I)I" } : Jvm.MethodName)) ∈ wT0 := wT0_in (List.mem_append_right _ (List.mem_of_getElem? (i := 1055) (by decide +kernel))) rfl
theorem wd_1056 : (Jvm.Cond.selects "WornSkin$Draws" ({ cls := "WornSkin$Draws", name := "below", desc := "(I)I" } : Jvm.MethodName) ({ cls := "WornSkin$Draws", name := "below", desc := "(I)I" } : Jvm.MethodName)) ∈ wT0 := wT0_in (List.mem_append_right _ (List.mem_of_getElem? (i := 1056) (by decide +kernel))) rfl
theorem wd_750 : (Jvm.Cond.methodLink "WornSkin$Shelf" (114 : Nat) ({ cls := "WornSkin$Library", name := "showsText", desc := "(IIII)Z" } : Jvm.MethodName)) ∈ wT0 := wT0_in (List.mem_append_right _ (List.mem_of_getElem? (i := 750) (by decide +kernel))) rfl
theorem wd_742 : (Jvm.Cond.methodLink "WornSkin$Shelf" (118 : Nat) ({ cls := "WornSkin$Shelf", name := "shown", desc := "(III)I" } : Jvm.MethodName)) ∈ wT0 := wT0_in (List.mem_append_right _ (List.mem_of_getElem? (i := 742) (by decide +kernel))) rfl
theorem wd_773 : (Jvm.Cond.methodLink "WornSkin$Shelf" (122 : Nat) ({ cls := "WornSkin$Shelf", name := "wholeTexts", desc := "(I)I" } : Jvm.MethodName)) ∈ wT0 := wT0_in (List.mem_append_right _ (List.mem_of_getElem? (i := 773) (by decide +kernel))) rfl
theorem wd_379 : (Jvm.Cond.methodLink "WornSkin$Tape" (23 : Nat) ({ cls := "WornSkin$Tape", name := "next", desc := "()V" } : Jvm.MethodName)) ∈ wT0 := wT0_in (List.mem_append_right _ (List.mem_of_getElem? (i := 379) (by decide +kernel))) rfl
theorem wd_386 : (Jvm.Cond.code ({ cls := "WornSkin$Tape", name := "takeLetters", desc := "()V" } : Jvm.MethodName) prog_9_method_9_code (1 : Nat) (Option.none : Option Jvm.ClassFile.FieldType)) ∈ wT0 := wT0_in (List.mem_append_right _ (List.mem_of_getElem? (i := 386) (by decide +kernel))) rfl
theorem wd_383 : (Jvm.Cond.methodLink "WornSkin$Tape" (32 : Nat) ({ cls := "WornSkin$Tape", name := "takeLetters", desc := "()V" } : Jvm.MethodName)) ∈ wT0 := wT0_in (List.mem_append_right _ (List.mem_of_getElem? (i := 383) (by decide +kernel))) rfl
theorem wd_385 : (Jvm.Cond.instanceMethod ({ cls := "WornSkin$Tape", name := "takeLetters", desc := "()V" } : Jvm.MethodName)) ∈ wT0 := wT0_in (List.mem_append_right _ (List.mem_of_getElem? (i := 385) (by decide +kernel))) rfl
theorem wp_1 : Cond.selects "WornSkin$Tape" ({ cls := "WornSkin$Tape", name := "takeLetters", desc := "()V" } : Jvm.MethodName) ({ cls := "WornSkin$Tape", name := "takeLetters", desc := "()V" } : Jvm.MethodName) ∈ wT0 := wT0_in (List.mem_append_left _ (List.mem_of_getElem? (i := 1) (by decide +kernel))) rfl
theorem wd_391 : (Jvm.Cond.code ({ cls := "WornSkin$Tape", name := "takeDigits", desc := "()V" } : Jvm.MethodName) prog_9_method_10_code (1 : Nat) (Option.none : Option Jvm.ClassFile.FieldType)) ∈ wT0 := wT0_in (List.mem_append_right _ (List.mem_of_getElem? (i := 391) (by decide +kernel))) rfl
theorem wd_388 : (Jvm.Cond.methodLink "WornSkin$Tape" (35 : Nat) ({ cls := "WornSkin$Tape", name := "takeDigits", desc := "()V" } : Jvm.MethodName)) ∈ wT0 := wT0_in (List.mem_append_right _ (List.mem_of_getElem? (i := 388) (by decide +kernel))) rfl
theorem wd_390 : (Jvm.Cond.instanceMethod ({ cls := "WornSkin$Tape", name := "takeDigits", desc := "()V" } : Jvm.MethodName)) ∈ wT0 := wT0_in (List.mem_append_right _ (List.mem_of_getElem? (i := 390) (by decide +kernel))) rfl
theorem wp_2 : Cond.selects "WornSkin$Tape" ({ cls := "WornSkin$Tape", name := "takeDigits", desc := "()V" } : Jvm.MethodName) ({ cls := "WornSkin$Tape", name := "takeDigits", desc := "()V" } : Jvm.MethodName) ∈ wT0 := wT0_in (List.mem_append_left _ (List.mem_of_getElem? (i := 2) (by decide +kernel))) rfl
theorem wd_393 : (Jvm.Cond.methodLink "WornSkin$Tape" (40 : Nat) ({ cls := "java/lang/String", name := "indexOf", desc := "(I)I" } : Jvm.MethodName)) ∈ wT0 := wT0_in (List.mem_append_right _ (List.mem_of_getElem? (i := 393) (by decide +kernel))) rfl
theorem wd_492 : (Jvm.Cond.methodLink "WornSkin$Tape" (55 : Nat) ({ cls := "java/lang/String", name := "length", desc := "()I" } : Jvm.MethodName)) ∈ wT0 := wT0_in (List.mem_append_right _ (List.mem_of_getElem? (i := 492) (by decide +kernel))) rfl
theorem wd_493 : (Jvm.Cond.methodLink "WornSkin$Tape" (58 : Nat) ({ cls := "java/lang/String", name := "charAt", desc := "(I)C" } : Jvm.MethodName)) ∈ wT0 := wT0_in (List.mem_append_right _ (List.mem_of_getElem? (i := 493) (by decide +kernel))) rfl
theorem wd_531 : (Jvm.Cond.methodLink "WornSkin$Tape" (64 : Nat) ({ cls := "WornSkin$Tape", name := "isWord", desc := "(Ljava/lang/String;)Z" } : Jvm.MethodName)) ∈ wT0 := wT0_in (List.mem_append_right _ (List.mem_of_getElem? (i := 531) (by decide +kernel))) rfl
theorem wd_559 : (Jvm.Cond.methodLink "WornSkin$Tape" (106 : Nat) ({ cls := "WornSkin$Tape", name := "fail", desc := "(I)V" } : Jvm.MethodName)) ∈ wT0 := wT0_in (List.mem_append_right _ (List.mem_of_getElem? (i := 559) (by decide +kernel))) rfl
theorem wd_573 : (Jvm.Cond.methodLink "WornSkin$Tape" (110 : Nat) ({ cls := "WornSkin$Tape", name := "isSign", desc := "(C)Z" } : Jvm.MethodName)) ∈ wT0 := wT0_in (List.mem_append_right _ (List.mem_of_getElem? (i := 573) (by decide +kernel))) rfl
theorem wd_564 : (Jvm.Cond.methodLink "WornSkin$Tape" (114 : Nat) ({ cls := "WornSkin$Tape", name := "isNumberWithin", desc := "(II)Z" } : Jvm.MethodName)) ∈ wT0 := wT0_in (List.mem_append_right _ (List.mem_of_getElem? (i := 564) (by decide +kernel))) rfl
theorem wd_816 : (Jvm.Cond.methodLink "WornSkin$Undoing" (25 : Nat) ({ cls := "WornSkin$Shelf", name := "copyFrom", desc := "(LWornSkin$Shelf;)V" } : Jvm.MethodName)) ∈ wT0 := wT0_in (List.mem_append_right _ (List.mem_of_getElem? (i := 816) (by decide +kernel))) rfl
theorem wd_821 : (Jvm.Cond.methodLink "WornSkin$Undoing" (29 : Nat) ({ cls := "java/lang/Math", name := "min", desc := "(II)I" } : Jvm.MethodName)) ∈ wT0 := wT0_in (List.mem_append_right _ (List.mem_of_getElem? (i := 821) (by decide +kernel))) rfl
theorem wd_721 : (Jvm.Cond.methodLink "WornSkin$Year" (19 : Nat) ({ cls := "java/lang/System", name := "arraycopy", desc := "(Ljava/lang/Object;ILjava/lang/Object;II)V" } : Jvm.MethodName)) ∈ wT0 := wT0_in (List.mem_append_right _ (List.mem_of_getElem? (i := 721) (by decide +kernel))) rfl
theorem wd_693 : (Jvm.Cond.methodLink "WornSkin$Year" (25 : Nat) ({ cls := "WornSkin$Tape", name := "rewind", desc := "()V" } : Jvm.MethodName)) ∈ wT0 := wT0_in (List.mem_append_right _ (List.mem_of_getElem? (i := 693) (by decide +kernel))) rfl
theorem wd_694 : (Jvm.Cond.methodLink "WornSkin$Year" (30 : Nat) ({ cls := "WornSkin$Tape", name := "isSound", desc := "()Z" } : Jvm.MethodName)) ∈ wT0 := wT0_in (List.mem_append_right _ (List.mem_of_getElem? (i := 694) (by decide +kernel))) rfl
theorem wd_695 : (Jvm.Cond.methodLink "WornSkin$Year" (34 : Nat) ({ cls := "WornSkin$Tape", name := "isAtEnd", desc := "()Z" } : Jvm.MethodName)) ∈ wT0 := wT0_in (List.mem_append_right _ (List.mem_of_getElem? (i := 695) (by decide +kernel))) rfl
theorem wd_699 : (Jvm.Cond.code ({ cls := "WornSkin$Year", name := "readOne", desc := "(LWornSkin$Tape;LWornSkin$Library;)V" } : Jvm.MethodName) prog_11_method_5_code (5 : Nat) (Option.none : Option Jvm.ClassFile.FieldType)) ∈ wT0 := wT0_in (List.mem_append_right _ (List.mem_of_getElem? (i := 699) (by decide +kernel))) rfl
theorem wd_696 : (Jvm.Cond.methodLink "WornSkin$Year" (37 : Nat) ({ cls := "WornSkin$Year", name := "readOne", desc := "(LWornSkin$Tape;LWornSkin$Library;)V" } : Jvm.MethodName)) ∈ wT0 := wT0_in (List.mem_append_right _ (List.mem_of_getElem? (i := 696) (by decide +kernel))) rfl
theorem wd_698 : (Jvm.Cond.instanceMethod ({ cls := "WornSkin$Year", name := "readOne", desc := "(LWornSkin$Tape;LWornSkin$Library;)V" } : Jvm.MethodName)) ∈ wT0 := wT0_in (List.mem_append_right _ (List.mem_of_getElem? (i := 698) (by decide +kernel))) rfl
theorem wp_11 : Cond.selects "WornSkin$Year" ({ cls := "WornSkin$Year", name := "readOne", desc := "(LWornSkin$Tape;LWornSkin$Library;)V" } : Jvm.MethodName) ({ cls := "WornSkin$Year", name := "readOne", desc := "(LWornSkin$Tape;LWornSkin$Library;)V" } : Jvm.MethodName) ∈ wT0 := wT0_in (List.mem_append_left _ (List.mem_of_getElem? (i := 11) (by decide +kernel))) rfl
theorem wd_702 : (Jvm.Cond.code ({ cls := "WornSkin$Year", name := "actAt", desc := "(LWornSkin$Tape;)I" } : Jvm.MethodName) prog_11_method_6_code (1 : Nat) (Option.some Jvm.ClassFile.FieldType.int)) ∈ wT0 := wT0_in (List.mem_append_right _ (List.mem_of_getElem? (i := 702) (by decide +kernel))) rfl
theorem wd_700 : (Jvm.Cond.methodLink "WornSkin$Year" (44 : Nat) ({ cls := "WornSkin$Year", name := "actAt", desc := "(LWornSkin$Tape;)I" } : Jvm.MethodName)) ∈ wT0 := wT0_in (List.mem_append_right _ (List.mem_of_getElem? (i := 700) (by decide +kernel))) rfl
theorem wd_701 : (Jvm.Cond.static ({ cls := "WornSkin$Year", name := "actAt", desc := "(LWornSkin$Tape;)I" } : Jvm.MethodName)) ∈ wT0 := wT0_in (List.mem_append_right _ (List.mem_of_getElem? (i := 701) (by decide +kernel))) rfl
theorem wd_708 : (Jvm.Cond.methodLink "WornSkin$Year" (48 : Nat) ({ cls := "WornSkin$Tape", name := "fail", desc := "(I)V" } : Jvm.MethodName)) ∈ wT0 := wT0_in (List.mem_append_right _ (List.mem_of_getElem? (i := 708) (by decide +kernel))) rfl
theorem wd_709 : (Jvm.Cond.methodLink "WornSkin$Year" (52 : Nat) ({ cls := "WornSkin$Tape", name := "next", desc := "()V" } : Jvm.MethodName)) ∈ wT0 := wT0_in (List.mem_append_right _ (List.mem_of_getElem? (i := 709) (by decide +kernel))) rfl
theorem wd_713 : (Jvm.Cond.code ({ cls := "WornSkin$Library", name := "takeText", desc := "(LWornSkin$Tape;)I" } : Jvm.MethodName) prog_6_method_12_code (2 : Nat) (Option.some Jvm.ClassFile.FieldType.int)) ∈ wT0 := wT0_in (List.mem_append_right _ (List.mem_of_getElem? (i := 713) (by decide +kernel))) rfl
theorem wd_710 : (Jvm.Cond.methodLink "WornSkin$Year" (55 : Nat) ({ cls := "WornSkin$Library", name := "takeText", desc := "(LWornSkin$Tape;)I" } : Jvm.MethodName)) ∈ wT0 := wT0_in (List.mem_append_right _ (List.mem_of_getElem? (i := 710) (by decide +kernel))) rfl
theorem wd_711 : (Jvm.Cond.instanceMethod ({ cls := "WornSkin$Library", name := "takeText", desc := "(LWornSkin$Tape;)I" } : Jvm.MethodName)) ∈ wT0 := wT0_in (List.mem_append_right _ (List.mem_of_getElem? (i := 711) (by decide +kernel))) rfl
theorem wd_712 : (Jvm.Cond.selects "WornSkin$Library" ({ cls := "WornSkin$Library", name := "takeText", desc := "(LWornSkin$Tape;)I" } : Jvm.MethodName) ({ cls := "WornSkin$Library", name := "takeText", desc := "(LWornSkin$Tape;)I" } : Jvm.MethodName)) ∈ wT0 := wT0_in (List.mem_append_right _ (List.mem_of_getElem? (i := 712) (by decide +kernel))) rfl
theorem wd_714 : (Jvm.Cond.methodLink "WornSkin$Year" (60 : Nat) ({ cls := "WornSkin$Library", name := "takeSkin", desc := "(LWornSkin$Tape;)I" } : Jvm.MethodName)) ∈ wT0 := wT0_in (List.mem_append_right _ (List.mem_of_getElem? (i := 714) (by decide +kernel))) rfl
theorem wd_715 : (Jvm.Cond.methodLink "WornSkin$Year" (63 : Nat) ({ cls := "WornSkin$Tape", name := "takeNumber", desc := "(II)I" } : Jvm.MethodName)) ∈ wT0 := wT0_in (List.mem_append_right _ (List.mem_of_getElem? (i := 715) (by decide +kernel))) rfl
theorem wd_716 : (Jvm.Cond.methodLink "WornSkin$Year" (67 : Nat) ({ cls := "WornSkin$Tape", name := "takeSign", desc := "(C)V" } : Jvm.MethodName)) ∈ wT0 := wT0_in (List.mem_append_right _ (List.mem_of_getElem? (i := 716) (by decide +kernel))) rfl
theorem wd_704 : (Jvm.Cond.methodLink "WornSkin$Year" (73 : Nat) ({ cls := "WornSkin$Tape", name := "isWord", desc := "(Ljava/lang/String;)Z" } : Jvm.MethodName)) ∈ wT0 := wT0_in (List.mem_append_right _ (List.mem_of_getElem? (i := 704) (by decide +kernel))) rfl
theorem wd_354 : (Jvm.Cond.code ({ cls := "WornSkin", name := "feed", desc := "(JJJ)I" } : Jvm.MethodName) prog_1_method_2_code (7 : Nat) (Option.some Jvm.ClassFile.FieldType.int)) ∈ wT0 := wT0_in (List.mem_append_right _ (List.mem_of_getElem? (i := 354) (by decide +kernel))) rfl
theorem wd_351 : (Jvm.Cond.methodLink "WornSkinLaw" (21 : Nat) ({ cls := "WornSkin", name := "feed", desc := "(JJJ)I" } : Jvm.MethodName)) ∈ wT0 := wT0_in (List.mem_append_right _ (List.mem_of_getElem? (i := 351) (by decide +kernel))) rfl
theorem wd_352 : (Jvm.Cond.instanceMethod ({ cls := "WornSkin", name := "feed", desc := "(JJJ)I" } : Jvm.MethodName)) ∈ wT0 := wT0_in (List.mem_append_right _ (List.mem_of_getElem? (i := 352) (by decide +kernel))) rfl
theorem wd_353 : (Jvm.Cond.selects "WornSkin" ({ cls := "WornSkin", name := "feed", desc := "(JJJ)I" } : Jvm.MethodName) ({ cls := "WornSkin", name := "feed", desc := "(JJJ)I" } : Jvm.MethodName)) ∈ wT0 := wT0_in (List.mem_append_right _ (List.mem_of_getElem? (i := 353) (by decide +kernel))) rfl
theorem wd_1360 : (Jvm.Cond.code ({ cls := "WornSkinModel", name := "feed", desc := "(JJJ)I" } : Jvm.MethodName) prog_13_method_5_code (11 : Nat) (Option.some Jvm.ClassFile.FieldType.int)) ∈ wT0 := wT0_in (List.mem_append_right _ (List.mem_of_getElem? (i := 1360) (by decide +kernel))) rfl
theorem wd_1357 : (Jvm.Cond.methodLink "WornSkinLaw" (25 : Nat) ({ cls := "WornSkinModel", name := "feed", desc := "(JJJ)I" } : Jvm.MethodName)) ∈ wT0 := wT0_in (List.mem_append_right _ (List.mem_of_getElem? (i := 1357) (by decide +kernel))) rfl
theorem wd_1358 : (Jvm.Cond.instanceMethod ({ cls := "WornSkinModel", name := "feed", desc := "(JJJ)I" } : Jvm.MethodName)) ∈ wT0 := wT0_in (List.mem_append_right _ (List.mem_of_getElem? (i := 1358) (by decide +kernel))) rfl
theorem wd_1359 : (Jvm.Cond.selects "WornSkinModel" ({ cls := "WornSkinModel", name := "feed", desc := "(JJJ)I" } : Jvm.MethodName) ({ cls := "WornSkinModel", name := "feed", desc := "(JJJ)I" } : Jvm.MethodName)) ∈ wT0 := wT0_in (List.mem_append_right _ (List.mem_of_getElem? (i := 1359) (by decide +kernel))) rfl
theorem wd_12 : (Jvm.Cond.initialized "WornSkinModel") ∈ wT0 := wT0_in (List.mem_append_right _ (List.mem_of_getElem? (i := 12) (by decide +kernel))) rfl
theorem wd_362 : (Jvm.Cond.code ({ cls := "WornSkin", name := "library", desc := "()I" } : Jvm.MethodName) prog_1_method_3_code (3 : Nat) (Option.some Jvm.ClassFile.FieldType.int)) ∈ wT0 := wT0_in (List.mem_append_right _ (List.mem_of_getElem? (i := 362) (by decide +kernel))) rfl
theorem wd_359 : (Jvm.Cond.methodLink "WornSkinLaw" (26 : Nat) ({ cls := "WornSkin", name := "library", desc := "()I" } : Jvm.MethodName)) ∈ wT0 := wT0_in (List.mem_append_right _ (List.mem_of_getElem? (i := 359) (by decide +kernel))) rfl
theorem wd_360 : (Jvm.Cond.instanceMethod ({ cls := "WornSkin", name := "library", desc := "()I" } : Jvm.MethodName)) ∈ wT0 := wT0_in (List.mem_append_right _ (List.mem_of_getElem? (i := 360) (by decide +kernel))) rfl
theorem wd_361 : (Jvm.Cond.selects "WornSkin" ({ cls := "WornSkin", name := "library", desc := "()I" } : Jvm.MethodName) ({ cls := "WornSkin", name := "library", desc := "()I" } : Jvm.MethodName)) ∈ wT0 := wT0_in (List.mem_append_right _ (List.mem_of_getElem? (i := 361) (by decide +kernel))) rfl
theorem wd_1365 : (Jvm.Cond.code ({ cls := "WornSkinModel", name := "library", desc := "()I" } : Jvm.MethodName) prog_13_method_42_code (2 : Nat) (Option.some Jvm.ClassFile.FieldType.int)) ∈ wT0 := wT0_in (List.mem_append_right _ (List.mem_of_getElem? (i := 1365) (by decide +kernel))) rfl
theorem wd_1362 : (Jvm.Cond.methodLink "WornSkinLaw" (30 : Nat) ({ cls := "WornSkinModel", name := "library", desc := "()I" } : Jvm.MethodName)) ∈ wT0 := wT0_in (List.mem_append_right _ (List.mem_of_getElem? (i := 1362) (by decide +kernel))) rfl
theorem wd_1363 : (Jvm.Cond.instanceMethod ({ cls := "WornSkinModel", name := "library", desc := "()I" } : Jvm.MethodName)) ∈ wT0 := wT0_in (List.mem_append_right _ (List.mem_of_getElem? (i := 1363) (by decide +kernel))) rfl
theorem wd_1364 : (Jvm.Cond.selects "WornSkinModel" ({ cls := "WornSkinModel", name := "library", desc := "()I" } : Jvm.MethodName) ({ cls := "WornSkinModel", name := "library", desc := "()I" } : Jvm.MethodName)) ∈ wT0 := wT0_in (List.mem_append_right _ (List.mem_of_getElem? (i := 1364) (by decide +kernel))) rfl
theorem wd_688 : (Jvm.Cond.code ({ cls := "WornSkin", name := "year", desc := "()I" } : Jvm.MethodName) prog_1_method_4_code (2 : Nat) (Option.some Jvm.ClassFile.FieldType.int)) ∈ wT0 := wT0_in (List.mem_append_right _ (List.mem_of_getElem? (i := 688) (by decide +kernel))) rfl
theorem wd_685 : (Jvm.Cond.methodLink "WornSkinLaw" (31 : Nat) ({ cls := "WornSkin", name := "year", desc := "()I" } : Jvm.MethodName)) ∈ wT0 := wT0_in (List.mem_append_right _ (List.mem_of_getElem? (i := 685) (by decide +kernel))) rfl
theorem wd_686 : (Jvm.Cond.instanceMethod ({ cls := "WornSkin", name := "year", desc := "()I" } : Jvm.MethodName)) ∈ wT0 := wT0_in (List.mem_append_right _ (List.mem_of_getElem? (i := 686) (by decide +kernel))) rfl
theorem wd_687 : (Jvm.Cond.selects "WornSkin" ({ cls := "WornSkin", name := "year", desc := "()I" } : Jvm.MethodName) ({ cls := "WornSkin", name := "year", desc := "()I" } : Jvm.MethodName)) ∈ wT0 := wT0_in (List.mem_append_right _ (List.mem_of_getElem? (i := 687) (by decide +kernel))) rfl
theorem wd_1504 : (Jvm.Cond.code ({ cls := "WornSkinModel", name := "year", desc := "()I" } : Jvm.MethodName) prog_13_method_43_code (1 : Nat) (Option.some Jvm.ClassFile.FieldType.int)) ∈ wT0 := wT0_in (List.mem_append_right _ (List.mem_of_getElem? (i := 1504) (by decide +kernel))) rfl
theorem wd_1501 : (Jvm.Cond.methodLink "WornSkinLaw" (34 : Nat) ({ cls := "WornSkinModel", name := "year", desc := "()I" } : Jvm.MethodName)) ∈ wT0 := wT0_in (List.mem_append_right _ (List.mem_of_getElem? (i := 1501) (by decide +kernel))) rfl
theorem wd_1502 : (Jvm.Cond.instanceMethod ({ cls := "WornSkinModel", name := "year", desc := "()I" } : Jvm.MethodName)) ∈ wT0 := wT0_in (List.mem_append_right _ (List.mem_of_getElem? (i := 1502) (by decide +kernel))) rfl
theorem wd_1503 : (Jvm.Cond.selects "WornSkinModel" ({ cls := "WornSkinModel", name := "year", desc := "()I" } : Jvm.MethodName) ({ cls := "WornSkinModel", name := "year", desc := "()I" } : Jvm.MethodName)) ∈ wT0 := wT0_in (List.mem_append_right _ (List.mem_of_getElem? (i := 1503) (by decide +kernel))) rfl
theorem wd_725 : (Jvm.Cond.code ({ cls := "WornSkin", name := "skin", desc := "(II)I" } : Jvm.MethodName) prog_1_method_5_code (3 : Nat) (Option.some Jvm.ClassFile.FieldType.int)) ∈ wT0 := wT0_in (List.mem_append_right _ (List.mem_of_getElem? (i := 725) (by decide +kernel))) rfl
theorem wd_722 : (Jvm.Cond.methodLink "WornSkinLaw" (35 : Nat) ({ cls := "WornSkin", name := "skin", desc := "(II)I" } : Jvm.MethodName)) ∈ wT0 := wT0_in (List.mem_append_right _ (List.mem_of_getElem? (i := 722) (by decide +kernel))) rfl
theorem wd_723 : (Jvm.Cond.instanceMethod ({ cls := "WornSkin", name := "skin", desc := "(II)I" } : Jvm.MethodName)) ∈ wT0 := wT0_in (List.mem_append_right _ (List.mem_of_getElem? (i := 723) (by decide +kernel))) rfl
theorem wd_724 : (Jvm.Cond.selects "WornSkin" ({ cls := "WornSkin", name := "skin", desc := "(II)I" } : Jvm.MethodName) ({ cls := "WornSkin", name := "skin", desc := "(II)I" } : Jvm.MethodName)) ∈ wT0 := wT0_in (List.mem_append_right _ (List.mem_of_getElem? (i := 724) (by decide +kernel))) rfl
theorem wd_1520 : (Jvm.Cond.code ({ cls := "WornSkinModel", name := "skin", desc := "(II)I" } : Jvm.MethodName) prog_13_method_60_code (3 : Nat) (Option.some Jvm.ClassFile.FieldType.int)) ∈ wT0 := wT0_in (List.mem_append_right _ (List.mem_of_getElem? (i := 1520) (by decide +kernel))) rfl
theorem wd_1517 : (Jvm.Cond.methodLink "WornSkinLaw" (39 : Nat) ({ cls := "WornSkinModel", name := "skin", desc := "(II)I" } : Jvm.MethodName)) ∈ wT0 := wT0_in (List.mem_append_right _ (List.mem_of_getElem? (i := 1517) (by decide +kernel))) rfl
theorem wd_1518 : (Jvm.Cond.instanceMethod ({ cls := "WornSkinModel", name := "skin", desc := "(II)I" } : Jvm.MethodName)) ∈ wT0 := wT0_in (List.mem_append_right _ (List.mem_of_getElem? (i := 1518) (by decide +kernel))) rfl
theorem wd_1519 : (Jvm.Cond.selects "WornSkinModel" ({ cls := "WornSkinModel", name := "skin", desc := "(II)I" } : Jvm.MethodName) ({ cls := "WornSkinModel", name := "skin", desc := "(II)I" } : Jvm.MethodName)) ∈ wT0 := wT0_in (List.mem_append_right _ (List.mem_of_getElem? (i := 1519) (by decide +kernel))) rfl
theorem wd_764 : (Jvm.Cond.code ({ cls := "WornSkin", name := "text", desc := "(II)I" } : Jvm.MethodName) prog_1_method_6_code (3 : Nat) (Option.some Jvm.ClassFile.FieldType.int)) ∈ wT0 := wT0_in (List.mem_append_right _ (List.mem_of_getElem? (i := 764) (by decide +kernel))) rfl
theorem wd_761 : (Jvm.Cond.methodLink "WornSkinLaw" (40 : Nat) ({ cls := "WornSkin", name := "text", desc := "(II)I" } : Jvm.MethodName)) ∈ wT0 := wT0_in (List.mem_append_right _ (List.mem_of_getElem? (i := 761) (by decide +kernel))) rfl
theorem wd_762 : (Jvm.Cond.instanceMethod ({ cls := "WornSkin", name := "text", desc := "(II)I" } : Jvm.MethodName)) ∈ wT0 := wT0_in (List.mem_append_right _ (List.mem_of_getElem? (i := 762) (by decide +kernel))) rfl
theorem wd_763 : (Jvm.Cond.selects "WornSkin" ({ cls := "WornSkin", name := "text", desc := "(II)I" } : Jvm.MethodName) ({ cls := "WornSkin", name := "text", desc := "(II)I" } : Jvm.MethodName)) ∈ wT0 := wT0_in (List.mem_append_right _ (List.mem_of_getElem? (i := 763) (by decide +kernel))) rfl
theorem wd_1560 : (Jvm.Cond.code ({ cls := "WornSkinModel", name := "text", desc := "(II)I" } : Jvm.MethodName) prog_13_method_61_code (3 : Nat) (Option.some Jvm.ClassFile.FieldType.int)) ∈ wT0 := wT0_in (List.mem_append_right _ (List.mem_of_getElem? (i := 1560) (by decide +kernel))) rfl
theorem wd_1557 : (Jvm.Cond.methodLink "WornSkinLaw" (43 : Nat) ({ cls := "WornSkinModel", name := "text", desc := "(II)I" } : Jvm.MethodName)) ∈ wT0 := wT0_in (List.mem_append_right _ (List.mem_of_getElem? (i := 1557) (by decide +kernel))) rfl
theorem wd_1558 : (Jvm.Cond.instanceMethod ({ cls := "WornSkinModel", name := "text", desc := "(II)I" } : Jvm.MethodName)) ∈ wT0 := wT0_in (List.mem_append_right _ (List.mem_of_getElem? (i := 1558) (by decide +kernel))) rfl
theorem wd_1559 : (Jvm.Cond.selects "WornSkinModel" ({ cls := "WornSkinModel", name := "text", desc := "(II)I" } : Jvm.MethodName) ({ cls := "WornSkinModel", name := "text", desc := "(II)I" } : Jvm.MethodName)) ∈ wT0 := wT0_in (List.mem_append_right _ (List.mem_of_getElem? (i := 1559) (by decide +kernel))) rfl
theorem wd_784 : (Jvm.Cond.code ({ cls := "WornSkin", name := "layers", desc := "(II)I" } : Jvm.MethodName) prog_1_method_7_code (3 : Nat) (Option.some Jvm.ClassFile.FieldType.int)) ∈ wT0 := wT0_in (List.mem_append_right _ (List.mem_of_getElem? (i := 784) (by decide +kernel))) rfl
theorem wd_781 : (Jvm.Cond.methodLink "WornSkinLaw" (44 : Nat) ({ cls := "WornSkin", name := "layers", desc := "(II)I" } : Jvm.MethodName)) ∈ wT0 := wT0_in (List.mem_append_right _ (List.mem_of_getElem? (i := 781) (by decide +kernel))) rfl
theorem wd_782 : (Jvm.Cond.instanceMethod ({ cls := "WornSkin", name := "layers", desc := "(II)I" } : Jvm.MethodName)) ∈ wT0 := wT0_in (List.mem_append_right _ (List.mem_of_getElem? (i := 782) (by decide +kernel))) rfl
theorem wd_783 : (Jvm.Cond.selects "WornSkin" ({ cls := "WornSkin", name := "layers", desc := "(II)I" } : Jvm.MethodName) ({ cls := "WornSkin", name := "layers", desc := "(II)I" } : Jvm.MethodName)) ∈ wT0 := wT0_in (List.mem_append_right _ (List.mem_of_getElem? (i := 783) (by decide +kernel))) rfl
theorem wd_1583 : (Jvm.Cond.code ({ cls := "WornSkinModel", name := "layers", desc := "(II)I" } : Jvm.MethodName) prog_13_method_62_code (3 : Nat) (Option.some Jvm.ClassFile.FieldType.int)) ∈ wT0 := wT0_in (List.mem_append_right _ (List.mem_of_getElem? (i := 1583) (by decide +kernel))) rfl
theorem wd_1580 : (Jvm.Cond.methodLink "WornSkinLaw" (47 : Nat) ({ cls := "WornSkinModel", name := "layers", desc := "(II)I" } : Jvm.MethodName)) ∈ wT0 := wT0_in (List.mem_append_right _ (List.mem_of_getElem? (i := 1580) (by decide +kernel))) rfl
theorem wd_1581 : (Jvm.Cond.instanceMethod ({ cls := "WornSkinModel", name := "layers", desc := "(II)I" } : Jvm.MethodName)) ∈ wT0 := wT0_in (List.mem_append_right _ (List.mem_of_getElem? (i := 1581) (by decide +kernel))) rfl
theorem wd_1582 : (Jvm.Cond.selects "WornSkinModel" ({ cls := "WornSkinModel", name := "layers", desc := "(II)I" } : Jvm.MethodName) ({ cls := "WornSkinModel", name := "layers", desc := "(II)I" } : Jvm.MethodName)) ∈ wT0 := wT0_in (List.mem_append_right _ (List.mem_of_getElem? (i := 1582) (by decide +kernel))) rfl
theorem wd_793 : (Jvm.Cond.code ({ cls := "WornSkin", name := "layer", desc := "(III)I" } : Jvm.MethodName) prog_1_method_8_code (4 : Nat) (Option.some Jvm.ClassFile.FieldType.int)) ∈ wT0 := wT0_in (List.mem_append_right _ (List.mem_of_getElem? (i := 793) (by decide +kernel))) rfl
theorem wd_790 : (Jvm.Cond.methodLink "WornSkinLaw" (48 : Nat) ({ cls := "WornSkin", name := "layer", desc := "(III)I" } : Jvm.MethodName)) ∈ wT0 := wT0_in (List.mem_append_right _ (List.mem_of_getElem? (i := 790) (by decide +kernel))) rfl
theorem wd_791 : (Jvm.Cond.instanceMethod ({ cls := "WornSkin", name := "layer", desc := "(III)I" } : Jvm.MethodName)) ∈ wT0 := wT0_in (List.mem_append_right _ (List.mem_of_getElem? (i := 791) (by decide +kernel))) rfl
theorem wd_792 : (Jvm.Cond.selects "WornSkin" ({ cls := "WornSkin", name := "layer", desc := "(III)I" } : Jvm.MethodName) ({ cls := "WornSkin", name := "layer", desc := "(III)I" } : Jvm.MethodName)) ∈ wT0 := wT0_in (List.mem_append_right _ (List.mem_of_getElem? (i := 792) (by decide +kernel))) rfl
theorem wd_1594 : (Jvm.Cond.code ({ cls := "WornSkinModel", name := "layer", desc := "(III)I" } : Jvm.MethodName) prog_13_method_64_code (4 : Nat) (Option.some Jvm.ClassFile.FieldType.int)) ∈ wT0 := wT0_in (List.mem_append_right _ (List.mem_of_getElem? (i := 1594) (by decide +kernel))) rfl
theorem wd_1591 : (Jvm.Cond.methodLink "WornSkinLaw" (52 : Nat) ({ cls := "WornSkinModel", name := "layer", desc := "(III)I" } : Jvm.MethodName)) ∈ wT0 := wT0_in (List.mem_append_right _ (List.mem_of_getElem? (i := 1591) (by decide +kernel))) rfl
theorem wd_1592 : (Jvm.Cond.instanceMethod ({ cls := "WornSkinModel", name := "layer", desc := "(III)I" } : Jvm.MethodName)) ∈ wT0 := wT0_in (List.mem_append_right _ (List.mem_of_getElem? (i := 1592) (by decide +kernel))) rfl
theorem wd_1593 : (Jvm.Cond.selects "WornSkinModel" ({ cls := "WornSkinModel", name := "layer", desc := "(III)I" } : Jvm.MethodName) ({ cls := "WornSkinModel", name := "layer", desc := "(III)I" } : Jvm.MethodName)) ∈ wT0 := wT0_in (List.mem_append_right _ (List.mem_of_getElem? (i := 1593) (by decide +kernel))) rfl
theorem wd_798 : (Jvm.Cond.code ({ cls := "WornSkin", name := "read", desc := "(II)I" } : Jvm.MethodName) prog_1_method_9_code (3 : Nat) (Option.some Jvm.ClassFile.FieldType.int)) ∈ wT0 := wT0_in (List.mem_append_right _ (List.mem_of_getElem? (i := 798) (by decide +kernel))) rfl
theorem wd_795 : (Jvm.Cond.methodLink "WornSkinLaw" (53 : Nat) ({ cls := "WornSkin", name := "read", desc := "(II)I" } : Jvm.MethodName)) ∈ wT0 := wT0_in (List.mem_append_right _ (List.mem_of_getElem? (i := 795) (by decide +kernel))) rfl
theorem wd_796 : (Jvm.Cond.instanceMethod ({ cls := "WornSkin", name := "read", desc := "(II)I" } : Jvm.MethodName)) ∈ wT0 := wT0_in (List.mem_append_right _ (List.mem_of_getElem? (i := 796) (by decide +kernel))) rfl
theorem wd_797 : (Jvm.Cond.selects "WornSkin" ({ cls := "WornSkin", name := "read", desc := "(II)I" } : Jvm.MethodName) ({ cls := "WornSkin", name := "read", desc := "(II)I" } : Jvm.MethodName)) ∈ wT0 := wT0_in (List.mem_append_right _ (List.mem_of_getElem? (i := 797) (by decide +kernel))) rfl
theorem wd_1601 : (Jvm.Cond.code ({ cls := "WornSkinModel", name := "read", desc := "(II)I" } : Jvm.MethodName) prog_13_method_65_code (3 : Nat) (Option.some Jvm.ClassFile.FieldType.int)) ∈ wT0 := wT0_in (List.mem_append_right _ (List.mem_of_getElem? (i := 1601) (by decide +kernel))) rfl
theorem wd_1598 : (Jvm.Cond.methodLink "WornSkinLaw" (56 : Nat) ({ cls := "WornSkinModel", name := "read", desc := "(II)I" } : Jvm.MethodName)) ∈ wT0 := wT0_in (List.mem_append_right _ (List.mem_of_getElem? (i := 1598) (by decide +kernel))) rfl
theorem wd_1599 : (Jvm.Cond.instanceMethod ({ cls := "WornSkinModel", name := "read", desc := "(II)I" } : Jvm.MethodName)) ∈ wT0 := wT0_in (List.mem_append_right _ (List.mem_of_getElem? (i := 1599) (by decide +kernel))) rfl
theorem wd_1600 : (Jvm.Cond.selects "WornSkinModel" ({ cls := "WornSkinModel", name := "read", desc := "(II)I" } : Jvm.MethodName) ({ cls := "WornSkinModel", name := "read", desc := "(II)I" } : Jvm.MethodName)) ∈ wT0 := wT0_in (List.mem_append_right _ (List.mem_of_getElem? (i := 1600) (by decide +kernel))) rfl
theorem wd_803 : (Jvm.Cond.code ({ cls := "WornSkin", name := "write", desc := "(III)Z" } : Jvm.MethodName) prog_1_method_10_code (4 : Nat) (Option.some Jvm.ClassFile.FieldType.boolean)) ∈ wT0 := wT0_in (List.mem_append_right _ (List.mem_of_getElem? (i := 803) (by decide +kernel))) rfl
theorem wd_800 : (Jvm.Cond.methodLink "WornSkinLaw" (57 : Nat) ({ cls := "WornSkin", name := "write", desc := "(III)Z" } : Jvm.MethodName)) ∈ wT0 := wT0_in (List.mem_append_right _ (List.mem_of_getElem? (i := 800) (by decide +kernel))) rfl
theorem wd_801 : (Jvm.Cond.instanceMethod ({ cls := "WornSkin", name := "write", desc := "(III)Z" } : Jvm.MethodName)) ∈ wT0 := wT0_in (List.mem_append_right _ (List.mem_of_getElem? (i := 801) (by decide +kernel))) rfl
theorem wd_802 : (Jvm.Cond.selects "WornSkin" ({ cls := "WornSkin", name := "write", desc := "(III)Z" } : Jvm.MethodName) ({ cls := "WornSkin", name := "write", desc := "(III)Z" } : Jvm.MethodName)) ∈ wT0 := wT0_in (List.mem_append_right _ (List.mem_of_getElem? (i := 802) (by decide +kernel))) rfl
theorem wd_1605 : (Jvm.Cond.code ({ cls := "WornSkinModel", name := "write", desc := "(III)Z" } : Jvm.MethodName) prog_13_method_67_code (4 : Nat) (Option.some Jvm.ClassFile.FieldType.boolean)) ∈ wT0 := wT0_in (List.mem_append_right _ (List.mem_of_getElem? (i := 1605) (by decide +kernel))) rfl
theorem wd_1602 : (Jvm.Cond.methodLink "WornSkinLaw" (61 : Nat) ({ cls := "WornSkinModel", name := "write", desc := "(III)Z" } : Jvm.MethodName)) ∈ wT0 := wT0_in (List.mem_append_right _ (List.mem_of_getElem? (i := 1602) (by decide +kernel))) rfl
theorem wd_1603 : (Jvm.Cond.instanceMethod ({ cls := "WornSkinModel", name := "write", desc := "(III)Z" } : Jvm.MethodName)) ∈ wT0 := wT0_in (List.mem_append_right _ (List.mem_of_getElem? (i := 1603) (by decide +kernel))) rfl
theorem wd_1604 : (Jvm.Cond.selects "WornSkinModel" ({ cls := "WornSkinModel", name := "write", desc := "(III)Z" } : Jvm.MethodName) ({ cls := "WornSkinModel", name := "write", desc := "(III)Z" } : Jvm.MethodName)) ∈ wT0 := wT0_in (List.mem_append_right _ (List.mem_of_getElem? (i := 1604) (by decide +kernel))) rfl
theorem wd_829 : (Jvm.Cond.code ({ cls := "WornSkin", name := "scrape", desc := "(I)I" } : Jvm.MethodName) prog_1_method_11_code (2 : Nat) (Option.some Jvm.ClassFile.FieldType.int)) ∈ wT0 := wT0_in (List.mem_append_right _ (List.mem_of_getElem? (i := 829) (by decide +kernel))) rfl
theorem wd_826 : (Jvm.Cond.methodLink "WornSkinLaw" (62 : Nat) ({ cls := "WornSkin", name := "scrape", desc := "(I)I" } : Jvm.MethodName)) ∈ wT0 := wT0_in (List.mem_append_right _ (List.mem_of_getElem? (i := 826) (by decide +kernel))) rfl
theorem wd_827 : (Jvm.Cond.instanceMethod ({ cls := "WornSkin", name := "scrape", desc := "(I)I" } : Jvm.MethodName)) ∈ wT0 := wT0_in (List.mem_append_right _ (List.mem_of_getElem? (i := 827) (by decide +kernel))) rfl
theorem wd_828 : (Jvm.Cond.selects "WornSkin" ({ cls := "WornSkin", name := "scrape", desc := "(I)I" } : Jvm.MethodName) ({ cls := "WornSkin", name := "scrape", desc := "(I)I" } : Jvm.MethodName)) ∈ wT0 := wT0_in (List.mem_append_right _ (List.mem_of_getElem? (i := 828) (by decide +kernel))) rfl
theorem wd_1625 : (Jvm.Cond.code ({ cls := "WornSkinModel", name := "scrape", desc := "(I)I" } : Jvm.MethodName) prog_13_method_69_code (2 : Nat) (Option.some Jvm.ClassFile.FieldType.int)) ∈ wT0 := wT0_in (List.mem_append_right _ (List.mem_of_getElem? (i := 1625) (by decide +kernel))) rfl
theorem wd_1622 : (Jvm.Cond.methodLink "WornSkinLaw" (66 : Nat) ({ cls := "WornSkinModel", name := "scrape", desc := "(I)I" } : Jvm.MethodName)) ∈ wT0 := wT0_in (List.mem_append_right _ (List.mem_of_getElem? (i := 1622) (by decide +kernel))) rfl
theorem wd_1623 : (Jvm.Cond.instanceMethod ({ cls := "WornSkinModel", name := "scrape", desc := "(I)I" } : Jvm.MethodName)) ∈ wT0 := wT0_in (List.mem_append_right _ (List.mem_of_getElem? (i := 1623) (by decide +kernel))) rfl
theorem wd_1624 : (Jvm.Cond.selects "WornSkinModel" ({ cls := "WornSkinModel", name := "scrape", desc := "(I)I" } : Jvm.MethodName) ({ cls := "WornSkinModel", name := "scrape", desc := "(I)I" } : Jvm.MethodName)) ∈ wT0 := wT0_in (List.mem_append_right _ (List.mem_of_getElem? (i := 1624) (by decide +kernel))) rfl
theorem wd_850 : (Jvm.Cond.code ({ cls := "WornSkin", name := "third", desc := "(I)I" } : Jvm.MethodName) prog_1_method_12_code (2 : Nat) (Option.some Jvm.ClassFile.FieldType.int)) ∈ wT0 := wT0_in (List.mem_append_right _ (List.mem_of_getElem? (i := 850) (by decide +kernel))) rfl
theorem wd_847 : (Jvm.Cond.methodLink "WornSkinLaw" (67 : Nat) ({ cls := "WornSkin", name := "third", desc := "(I)I" } : Jvm.MethodName)) ∈ wT0 := wT0_in (List.mem_append_right _ (List.mem_of_getElem? (i := 847) (by decide +kernel))) rfl
theorem wd_848 : (Jvm.Cond.instanceMethod ({ cls := "WornSkin", name := "third", desc := "(I)I" } : Jvm.MethodName)) ∈ wT0 := wT0_in (List.mem_append_right _ (List.mem_of_getElem? (i := 848) (by decide +kernel))) rfl
theorem wd_849 : (Jvm.Cond.selects "WornSkin" ({ cls := "WornSkin", name := "third", desc := "(I)I" } : Jvm.MethodName) ({ cls := "WornSkin", name := "third", desc := "(I)I" } : Jvm.MethodName)) ∈ wT0 := wT0_in (List.mem_append_right _ (List.mem_of_getElem? (i := 849) (by decide +kernel))) rfl
theorem wd_1641 : (Jvm.Cond.code ({ cls := "WornSkinModel", name := "third", desc := "(I)I" } : Jvm.MethodName) prog_13_method_70_code (2 : Nat) (Option.some Jvm.ClassFile.FieldType.int)) ∈ wT0 := wT0_in (List.mem_append_right _ (List.mem_of_getElem? (i := 1641) (by decide +kernel))) rfl
theorem wd_1638 : (Jvm.Cond.methodLink "WornSkinLaw" (70 : Nat) ({ cls := "WornSkinModel", name := "third", desc := "(I)I" } : Jvm.MethodName)) ∈ wT0 := wT0_in (List.mem_append_right _ (List.mem_of_getElem? (i := 1638) (by decide +kernel))) rfl
theorem wd_1639 : (Jvm.Cond.instanceMethod ({ cls := "WornSkinModel", name := "third", desc := "(I)I" } : Jvm.MethodName)) ∈ wT0 := wT0_in (List.mem_append_right _ (List.mem_of_getElem? (i := 1639) (by decide +kernel))) rfl
theorem wd_1640 : (Jvm.Cond.selects "WornSkinModel" ({ cls := "WornSkinModel", name := "third", desc := "(I)I" } : Jvm.MethodName) ({ cls := "WornSkinModel", name := "third", desc := "(I)I" } : Jvm.MethodName)) ∈ wT0 := wT0_in (List.mem_append_right _ (List.mem_of_getElem? (i := 1640) (by decide +kernel))) rfl
theorem wd_854 : (Jvm.Cond.code ({ cls := "WornSkin", name := "week", desc := "()I" } : Jvm.MethodName) prog_1_method_14_code (1 : Nat) (Option.some Jvm.ClassFile.FieldType.int)) ∈ wT0 := wT0_in (List.mem_append_right _ (List.mem_of_getElem? (i := 854) (by decide +kernel))) rfl
theorem wd_851 : (Jvm.Cond.methodLink "WornSkinLaw" (71 : Nat) ({ cls := "WornSkin", name := "week", desc := "()I" } : Jvm.MethodName)) ∈ wT0 := wT0_in (List.mem_append_right _ (List.mem_of_getElem? (i := 851) (by decide +kernel))) rfl
theorem wd_852 : (Jvm.Cond.instanceMethod ({ cls := "WornSkin", name := "week", desc := "()I" } : Jvm.MethodName)) ∈ wT0 := wT0_in (List.mem_append_right _ (List.mem_of_getElem? (i := 852) (by decide +kernel))) rfl
theorem wd_853 : (Jvm.Cond.selects "WornSkin" ({ cls := "WornSkin", name := "week", desc := "()I" } : Jvm.MethodName) ({ cls := "WornSkin", name := "week", desc := "()I" } : Jvm.MethodName)) ∈ wT0 := wT0_in (List.mem_append_right _ (List.mem_of_getElem? (i := 853) (by decide +kernel))) rfl
theorem wd_1645 : (Jvm.Cond.code ({ cls := "WornSkinModel", name := "week", desc := "()I" } : Jvm.MethodName) prog_13_method_71_code (1 : Nat) (Option.some Jvm.ClassFile.FieldType.int)) ∈ wT0 := wT0_in (List.mem_append_right _ (List.mem_of_getElem? (i := 1645) (by decide +kernel))) rfl
theorem wd_1642 : (Jvm.Cond.methodLink "WornSkinLaw" (74 : Nat) ({ cls := "WornSkinModel", name := "week", desc := "()I" } : Jvm.MethodName)) ∈ wT0 := wT0_in (List.mem_append_right _ (List.mem_of_getElem? (i := 1642) (by decide +kernel))) rfl
theorem wd_1643 : (Jvm.Cond.instanceMethod ({ cls := "WornSkinModel", name := "week", desc := "()I" } : Jvm.MethodName)) ∈ wT0 := wT0_in (List.mem_append_right _ (List.mem_of_getElem? (i := 1643) (by decide +kernel))) rfl
theorem wd_1644 : (Jvm.Cond.selects "WornSkinModel" ({ cls := "WornSkinModel", name := "week", desc := "()I" } : Jvm.MethodName) ({ cls := "WornSkinModel", name := "week", desc := "()I" } : Jvm.MethodName)) ∈ wT0 := wT0_in (List.mem_append_right _ (List.mem_of_getElem? (i := 1644) (by decide +kernel))) rfl
theorem wd_858 : (Jvm.Cond.code ({ cls := "WornSkin", name := "undo", desc := "()Z" } : Jvm.MethodName) prog_1_method_15_code (1 : Nat) (Option.some Jvm.ClassFile.FieldType.boolean)) ∈ wT0 := wT0_in (List.mem_append_right _ (List.mem_of_getElem? (i := 858) (by decide +kernel))) rfl
theorem wd_855 : (Jvm.Cond.methodLink "WornSkinLaw" (75 : Nat) ({ cls := "WornSkin", name := "undo", desc := "()Z" } : Jvm.MethodName)) ∈ wT0 := wT0_in (List.mem_append_right _ (List.mem_of_getElem? (i := 855) (by decide +kernel))) rfl
theorem wd_856 : (Jvm.Cond.instanceMethod ({ cls := "WornSkin", name := "undo", desc := "()Z" } : Jvm.MethodName)) ∈ wT0 := wT0_in (List.mem_append_right _ (List.mem_of_getElem? (i := 856) (by decide +kernel))) rfl
theorem wd_857 : (Jvm.Cond.selects "WornSkin" ({ cls := "WornSkin", name := "undo", desc := "()Z" } : Jvm.MethodName) ({ cls := "WornSkin", name := "undo", desc := "()Z" } : Jvm.MethodName)) ∈ wT0 := wT0_in (List.mem_append_right _ (List.mem_of_getElem? (i := 857) (by decide +kernel))) rfl
theorem wd_1649 : (Jvm.Cond.code ({ cls := "WornSkinModel", name := "undo", desc := "()Z" } : Jvm.MethodName) prog_13_method_72_code (1 : Nat) (Option.some Jvm.ClassFile.FieldType.boolean)) ∈ wT0 := wT0_in (List.mem_append_right _ (List.mem_of_getElem? (i := 1649) (by decide +kernel))) rfl
theorem wd_1646 : (Jvm.Cond.methodLink "WornSkinLaw" (79 : Nat) ({ cls := "WornSkinModel", name := "undo", desc := "()Z" } : Jvm.MethodName)) ∈ wT0 := wT0_in (List.mem_append_right _ (List.mem_of_getElem? (i := 1646) (by decide +kernel))) rfl
theorem wd_1647 : (Jvm.Cond.instanceMethod ({ cls := "WornSkinModel", name := "undo", desc := "()Z" } : Jvm.MethodName)) ∈ wT0 := wT0_in (List.mem_append_right _ (List.mem_of_getElem? (i := 1647) (by decide +kernel))) rfl
theorem wd_1648 : (Jvm.Cond.selects "WornSkinModel" ({ cls := "WornSkinModel", name := "undo", desc := "()Z" } : Jvm.MethodName) ({ cls := "WornSkinModel", name := "undo", desc := "()Z" } : Jvm.MethodName)) ∈ wT0 := wT0_in (List.mem_append_right _ (List.mem_of_getElem? (i := 1648) (by decide +kernel))) rfl
theorem wd_866 : (Jvm.Cond.code ({ cls := "WornSkin", name := "judged", desc := "(I)I" } : Jvm.MethodName) prog_1_method_16_code (7 : Nat) (Option.some Jvm.ClassFile.FieldType.int)) ∈ wT0 := wT0_in (List.mem_append_right _ (List.mem_of_getElem? (i := 866) (by decide +kernel))) rfl
theorem wd_863 : (Jvm.Cond.methodLink "WornSkinLaw" (80 : Nat) ({ cls := "WornSkin", name := "judged", desc := "(I)I" } : Jvm.MethodName)) ∈ wT0 := wT0_in (List.mem_append_right _ (List.mem_of_getElem? (i := 863) (by decide +kernel))) rfl
theorem wd_864 : (Jvm.Cond.instanceMethod ({ cls := "WornSkin", name := "judged", desc := "(I)I" } : Jvm.MethodName)) ∈ wT0 := wT0_in (List.mem_append_right _ (List.mem_of_getElem? (i := 864) (by decide +kernel))) rfl
theorem wd_865 : (Jvm.Cond.selects "WornSkin" ({ cls := "WornSkin", name := "judged", desc := "(I)I" } : Jvm.MethodName) ({ cls := "WornSkin", name := "judged", desc := "(I)I" } : Jvm.MethodName)) ∈ wT0 := wT0_in (List.mem_append_right _ (List.mem_of_getElem? (i := 865) (by decide +kernel))) rfl
theorem wd_1653 : (Jvm.Cond.code ({ cls := "WornSkinModel", name := "judged", desc := "(I)I" } : Jvm.MethodName) prog_13_method_75_code (6 : Nat) (Option.some Jvm.ClassFile.FieldType.int)) ∈ wT0 := wT0_in (List.mem_append_right _ (List.mem_of_getElem? (i := 1653) (by decide +kernel))) rfl
theorem wd_1650 : (Jvm.Cond.methodLink "WornSkinLaw" (83 : Nat) ({ cls := "WornSkinModel", name := "judged", desc := "(I)I" } : Jvm.MethodName)) ∈ wT0 := wT0_in (List.mem_append_right _ (List.mem_of_getElem? (i := 1650) (by decide +kernel))) rfl
theorem wd_1651 : (Jvm.Cond.instanceMethod ({ cls := "WornSkinModel", name := "judged", desc := "(I)I" } : Jvm.MethodName)) ∈ wT0 := wT0_in (List.mem_append_right _ (List.mem_of_getElem? (i := 1651) (by decide +kernel))) rfl
theorem wd_1652 : (Jvm.Cond.selects "WornSkinModel" ({ cls := "WornSkinModel", name := "judged", desc := "(I)I" } : Jvm.MethodName) ({ cls := "WornSkinModel", name := "judged", desc := "(I)I" } : Jvm.MethodName)) ∈ wT0 := wT0_in (List.mem_append_right _ (List.mem_of_getElem? (i := 1652) (by decide +kernel))) rfl
theorem wd_894 : (Jvm.Cond.code ({ cls := "WornSkin", name := "later", desc := "(III)I" } : Jvm.MethodName) prog_1_method_17_code (4 : Nat) (Option.some Jvm.ClassFile.FieldType.int)) ∈ wT0 := wT0_in (List.mem_append_right _ (List.mem_of_getElem? (i := 894) (by decide +kernel))) rfl
theorem wd_891 : (Jvm.Cond.methodLink "WornSkinLaw" (84 : Nat) ({ cls := "WornSkin", name := "later", desc := "(III)I" } : Jvm.MethodName)) ∈ wT0 := wT0_in (List.mem_append_right _ (List.mem_of_getElem? (i := 891) (by decide +kernel))) rfl
theorem wd_892 : (Jvm.Cond.instanceMethod ({ cls := "WornSkin", name := "later", desc := "(III)I" } : Jvm.MethodName)) ∈ wT0 := wT0_in (List.mem_append_right _ (List.mem_of_getElem? (i := 892) (by decide +kernel))) rfl
theorem wd_893 : (Jvm.Cond.selects "WornSkin" ({ cls := "WornSkin", name := "later", desc := "(III)I" } : Jvm.MethodName) ({ cls := "WornSkin", name := "later", desc := "(III)I" } : Jvm.MethodName)) ∈ wT0 := wT0_in (List.mem_append_right _ (List.mem_of_getElem? (i := 893) (by decide +kernel))) rfl
theorem wd_1665 : (Jvm.Cond.code ({ cls := "WornSkinModel", name := "later", desc := "(III)I" } : Jvm.MethodName) prog_13_method_76_code (4 : Nat) (Option.some Jvm.ClassFile.FieldType.int)) ∈ wT0 := wT0_in (List.mem_append_right _ (List.mem_of_getElem? (i := 1665) (by decide +kernel))) rfl
theorem wd_1662 : (Jvm.Cond.methodLink "WornSkinLaw" (87 : Nat) ({ cls := "WornSkinModel", name := "later", desc := "(III)I" } : Jvm.MethodName)) ∈ wT0 := wT0_in (List.mem_append_right _ (List.mem_of_getElem? (i := 1662) (by decide +kernel))) rfl
theorem wd_1663 : (Jvm.Cond.instanceMethod ({ cls := "WornSkinModel", name := "later", desc := "(III)I" } : Jvm.MethodName)) ∈ wT0 := wT0_in (List.mem_append_right _ (List.mem_of_getElem? (i := 1663) (by decide +kernel))) rfl
theorem wd_1664 : (Jvm.Cond.selects "WornSkinModel" ({ cls := "WornSkinModel", name := "later", desc := "(III)I" } : Jvm.MethodName) ({ cls := "WornSkinModel", name := "later", desc := "(III)I" } : Jvm.MethodName)) ∈ wT0 := wT0_in (List.mem_append_right _ (List.mem_of_getElem? (i := 1664) (by decide +kernel))) rfl
theorem wd_899 : (Jvm.Cond.code ({ cls := "WornSkin", name := "when", desc := "(I)I" } : Jvm.MethodName) prog_1_method_18_code (4 : Nat) (Option.some Jvm.ClassFile.FieldType.int)) ∈ wT0 := wT0_in (List.mem_append_right _ (List.mem_of_getElem? (i := 899) (by decide +kernel))) rfl
theorem wd_896 : (Jvm.Cond.methodLink "WornSkinLaw" (88 : Nat) ({ cls := "WornSkin", name := "when", desc := "(I)I" } : Jvm.MethodName)) ∈ wT0 := wT0_in (List.mem_append_right _ (List.mem_of_getElem? (i := 896) (by decide +kernel))) rfl
theorem wd_897 : (Jvm.Cond.instanceMethod ({ cls := "WornSkin", name := "when", desc := "(I)I" } : Jvm.MethodName)) ∈ wT0 := wT0_in (List.mem_append_right _ (List.mem_of_getElem? (i := 897) (by decide +kernel))) rfl
theorem wd_898 : (Jvm.Cond.selects "WornSkin" ({ cls := "WornSkin", name := "when", desc := "(I)I" } : Jvm.MethodName) ({ cls := "WornSkin", name := "when", desc := "(I)I" } : Jvm.MethodName)) ∈ wT0 := wT0_in (List.mem_append_right _ (List.mem_of_getElem? (i := 898) (by decide +kernel))) rfl
theorem wd_1669 : (Jvm.Cond.code ({ cls := "WornSkinModel", name := "when", desc := "(I)I" } : Jvm.MethodName) prog_13_method_77_code (3 : Nat) (Option.some Jvm.ClassFile.FieldType.int)) ∈ wT0 := wT0_in (List.mem_append_right _ (List.mem_of_getElem? (i := 1669) (by decide +kernel))) rfl
theorem wd_1666 : (Jvm.Cond.methodLink "WornSkinLaw" (91 : Nat) ({ cls := "WornSkinModel", name := "when", desc := "(I)I" } : Jvm.MethodName)) ∈ wT0 := wT0_in (List.mem_append_right _ (List.mem_of_getElem? (i := 1666) (by decide +kernel))) rfl
theorem wd_1667 : (Jvm.Cond.instanceMethod ({ cls := "WornSkinModel", name := "when", desc := "(I)I" } : Jvm.MethodName)) ∈ wT0 := wT0_in (List.mem_append_right _ (List.mem_of_getElem? (i := 1667) (by decide +kernel))) rfl
theorem wd_1668 : (Jvm.Cond.selects "WornSkinModel" ({ cls := "WornSkinModel", name := "when", desc := "(I)I" } : Jvm.MethodName) ({ cls := "WornSkinModel", name := "when", desc := "(I)I" } : Jvm.MethodName)) ∈ wT0 := wT0_in (List.mem_append_right _ (List.mem_of_getElem? (i := 1668) (by decide +kernel))) rfl
theorem wd_904 : (Jvm.Cond.code ({ cls := "WornSkin", name := "need", desc := "(I)I" } : Jvm.MethodName) prog_1_method_19_code (3 : Nat) (Option.some Jvm.ClassFile.FieldType.int)) ∈ wT0 := wT0_in (List.mem_append_right _ (List.mem_of_getElem? (i := 904) (by decide +kernel))) rfl
theorem wd_901 : (Jvm.Cond.methodLink "WornSkinLaw" (92 : Nat) ({ cls := "WornSkin", name := "need", desc := "(I)I" } : Jvm.MethodName)) ∈ wT0 := wT0_in (List.mem_append_right _ (List.mem_of_getElem? (i := 901) (by decide +kernel))) rfl
theorem wd_902 : (Jvm.Cond.instanceMethod ({ cls := "WornSkin", name := "need", desc := "(I)I" } : Jvm.MethodName)) ∈ wT0 := wT0_in (List.mem_append_right _ (List.mem_of_getElem? (i := 902) (by decide +kernel))) rfl
theorem wd_903 : (Jvm.Cond.selects "WornSkin" ({ cls := "WornSkin", name := "need", desc := "(I)I" } : Jvm.MethodName) ({ cls := "WornSkin", name := "need", desc := "(I)I" } : Jvm.MethodName)) ∈ wT0 := wT0_in (List.mem_append_right _ (List.mem_of_getElem? (i := 903) (by decide +kernel))) rfl
theorem wd_1673 : (Jvm.Cond.code ({ cls := "WornSkinModel", name := "need", desc := "(I)I" } : Jvm.MethodName) prog_13_method_78_code (3 : Nat) (Option.some Jvm.ClassFile.FieldType.int)) ∈ wT0 := wT0_in (List.mem_append_right _ (List.mem_of_getElem? (i := 1673) (by decide +kernel))) rfl
theorem wd_1670 : (Jvm.Cond.methodLink "WornSkinLaw" (95 : Nat) ({ cls := "WornSkinModel", name := "need", desc := "(I)I" } : Jvm.MethodName)) ∈ wT0 := wT0_in (List.mem_append_right _ (List.mem_of_getElem? (i := 1670) (by decide +kernel))) rfl
theorem wd_1671 : (Jvm.Cond.instanceMethod ({ cls := "WornSkinModel", name := "need", desc := "(I)I" } : Jvm.MethodName)) ∈ wT0 := wT0_in (List.mem_append_right _ (List.mem_of_getElem? (i := 1671) (by decide +kernel))) rfl
theorem wd_1672 : (Jvm.Cond.selects "WornSkinModel" ({ cls := "WornSkinModel", name := "need", desc := "(I)I" } : Jvm.MethodName) ({ cls := "WornSkinModel", name := "need", desc := "(I)I" } : Jvm.MethodName)) ∈ wT0 := wT0_in (List.mem_append_right _ (List.mem_of_getElem? (i := 1672) (by decide +kernel))) rfl
theorem wd_908 : (Jvm.Cond.code ({ cls := "WornSkin", name := "lost", desc := "()I" } : Jvm.MethodName) prog_1_method_20_code (3 : Nat) (Option.some Jvm.ClassFile.FieldType.int)) ∈ wT0 := wT0_in (List.mem_append_right _ (List.mem_of_getElem? (i := 908) (by decide +kernel))) rfl
theorem wd_905 : (Jvm.Cond.methodLink "WornSkinLaw" (96 : Nat) ({ cls := "WornSkin", name := "lost", desc := "()I" } : Jvm.MethodName)) ∈ wT0 := wT0_in (List.mem_append_right _ (List.mem_of_getElem? (i := 905) (by decide +kernel))) rfl
theorem wd_906 : (Jvm.Cond.instanceMethod ({ cls := "WornSkin", name := "lost", desc := "()I" } : Jvm.MethodName)) ∈ wT0 := wT0_in (List.mem_append_right _ (List.mem_of_getElem? (i := 906) (by decide +kernel))) rfl
theorem wd_907 : (Jvm.Cond.selects "WornSkin" ({ cls := "WornSkin", name := "lost", desc := "()I" } : Jvm.MethodName) ({ cls := "WornSkin", name := "lost", desc := "()I" } : Jvm.MethodName)) ∈ wT0 := wT0_in (List.mem_append_right _ (List.mem_of_getElem? (i := 907) (by decide +kernel))) rfl
theorem wd_1681 : (Jvm.Cond.code ({ cls := "WornSkinModel", name := "lost", desc := "()I" } : Jvm.MethodName) prog_13_method_80_code (7 : Nat) (Option.some Jvm.ClassFile.FieldType.int)) ∈ wT0 := wT0_in (List.mem_append_right _ (List.mem_of_getElem? (i := 1681) (by decide +kernel))) rfl
theorem wd_1678 : (Jvm.Cond.methodLink "WornSkinLaw" (99 : Nat) ({ cls := "WornSkinModel", name := "lost", desc := "()I" } : Jvm.MethodName)) ∈ wT0 := wT0_in (List.mem_append_right _ (List.mem_of_getElem? (i := 1678) (by decide +kernel))) rfl
theorem wd_1679 : (Jvm.Cond.instanceMethod ({ cls := "WornSkinModel", name := "lost", desc := "()I" } : Jvm.MethodName)) ∈ wT0 := wT0_in (List.mem_append_right _ (List.mem_of_getElem? (i := 1679) (by decide +kernel))) rfl
theorem wd_1680 : (Jvm.Cond.selects "WornSkinModel" ({ cls := "WornSkinModel", name := "lost", desc := "()I" } : Jvm.MethodName) ({ cls := "WornSkinModel", name := "lost", desc := "()I" } : Jvm.MethodName)) ∈ wT0 := wT0_in (List.mem_append_right _ (List.mem_of_getElem? (i := 1680) (by decide +kernel))) rfl
theorem wd_920 : (Jvm.Cond.code ({ cls := "WornSkin", name := "place", desc := "(II)I" } : Jvm.MethodName) prog_1_method_21_code (3 : Nat) (Option.some Jvm.ClassFile.FieldType.int)) ∈ wT0 := wT0_in (List.mem_append_right _ (List.mem_of_getElem? (i := 920) (by decide +kernel))) rfl
theorem wd_917 : (Jvm.Cond.methodLink "WornSkinLaw" (100 : Nat) ({ cls := "WornSkin", name := "place", desc := "(II)I" } : Jvm.MethodName)) ∈ wT0 := wT0_in (List.mem_append_right _ (List.mem_of_getElem? (i := 917) (by decide +kernel))) rfl
theorem wd_918 : (Jvm.Cond.instanceMethod ({ cls := "WornSkin", name := "place", desc := "(II)I" } : Jvm.MethodName)) ∈ wT0 := wT0_in (List.mem_append_right _ (List.mem_of_getElem? (i := 918) (by decide +kernel))) rfl
theorem wd_919 : (Jvm.Cond.selects "WornSkin" ({ cls := "WornSkin", name := "place", desc := "(II)I" } : Jvm.MethodName) ({ cls := "WornSkin", name := "place", desc := "(II)I" } : Jvm.MethodName)) ∈ wT0 := wT0_in (List.mem_append_right _ (List.mem_of_getElem? (i := 919) (by decide +kernel))) rfl
theorem wd_1685 : (Jvm.Cond.code ({ cls := "WornSkinModel", name := "place", desc := "(II)I" } : Jvm.MethodName) prog_13_method_81_code (3 : Nat) (Option.some Jvm.ClassFile.FieldType.int)) ∈ wT0 := wT0_in (List.mem_append_right _ (List.mem_of_getElem? (i := 1685) (by decide +kernel))) rfl
theorem wd_1682 : (Jvm.Cond.methodLink "WornSkinLaw" (103 : Nat) ({ cls := "WornSkinModel", name := "place", desc := "(II)I" } : Jvm.MethodName)) ∈ wT0 := wT0_in (List.mem_append_right _ (List.mem_of_getElem? (i := 1682) (by decide +kernel))) rfl
theorem wd_1683 : (Jvm.Cond.instanceMethod ({ cls := "WornSkinModel", name := "place", desc := "(II)I" } : Jvm.MethodName)) ∈ wT0 := wT0_in (List.mem_append_right _ (List.mem_of_getElem? (i := 1683) (by decide +kernel))) rfl
theorem wd_1684 : (Jvm.Cond.selects "WornSkinModel" ({ cls := "WornSkinModel", name := "place", desc := "(II)I" } : Jvm.MethodName) ({ cls := "WornSkinModel", name := "place", desc := "(II)I" } : Jvm.MethodName)) ∈ wT0 := wT0_in (List.mem_append_right _ (List.mem_of_getElem? (i := 1684) (by decide +kernel))) rfl
theorem wd_928 : (Jvm.Cond.code ({ cls := "WornSkin", name := "cost", desc := "(II)I" } : Jvm.MethodName) prog_1_method_22_code (5 : Nat) (Option.some Jvm.ClassFile.FieldType.int)) ∈ wT0 := wT0_in (List.mem_append_right _ (List.mem_of_getElem? (i := 928) (by decide +kernel))) rfl
theorem wd_925 : (Jvm.Cond.methodLink "WornSkinLaw" (104 : Nat) ({ cls := "WornSkin", name := "cost", desc := "(II)I" } : Jvm.MethodName)) ∈ wT0 := wT0_in (List.mem_append_right _ (List.mem_of_getElem? (i := 925) (by decide +kernel))) rfl
theorem wd_926 : (Jvm.Cond.instanceMethod ({ cls := "WornSkin", name := "cost", desc := "(II)I" } : Jvm.MethodName)) ∈ wT0 := wT0_in (List.mem_append_right _ (List.mem_of_getElem? (i := 926) (by decide +kernel))) rfl
theorem wd_927 : (Jvm.Cond.selects "WornSkin" ({ cls := "WornSkin", name := "cost", desc := "(II)I" } : Jvm.MethodName) ({ cls := "WornSkin", name := "cost", desc := "(II)I" } : Jvm.MethodName)) ∈ wT0 := wT0_in (List.mem_append_right _ (List.mem_of_getElem? (i := 927) (by decide +kernel))) rfl
theorem wd_1693 : (Jvm.Cond.code ({ cls := "WornSkinModel", name := "cost", desc := "(II)I" } : Jvm.MethodName) prog_13_method_83_code (5 : Nat) (Option.some Jvm.ClassFile.FieldType.int)) ∈ wT0 := wT0_in (List.mem_append_right _ (List.mem_of_getElem? (i := 1693) (by decide +kernel))) rfl
theorem wd_1690 : (Jvm.Cond.methodLink "WornSkinLaw" (107 : Nat) ({ cls := "WornSkinModel", name := "cost", desc := "(II)I" } : Jvm.MethodName)) ∈ wT0 := wT0_in (List.mem_append_right _ (List.mem_of_getElem? (i := 1690) (by decide +kernel))) rfl
theorem wd_1691 : (Jvm.Cond.instanceMethod ({ cls := "WornSkinModel", name := "cost", desc := "(II)I" } : Jvm.MethodName)) ∈ wT0 := wT0_in (List.mem_append_right _ (List.mem_of_getElem? (i := 1691) (by decide +kernel))) rfl
theorem wd_1692 : (Jvm.Cond.selects "WornSkinModel" ({ cls := "WornSkinModel", name := "cost", desc := "(II)I" } : Jvm.MethodName) ({ cls := "WornSkinModel", name := "cost", desc := "(II)I" } : Jvm.MethodName)) ∈ wT0 := wT0_in (List.mem_append_right _ (List.mem_of_getElem? (i := 1692) (by decide +kernel))) rfl
theorem wd_938 : (Jvm.Cond.code ({ cls := "WornSkin", name := "lay", desc := "(I)I" } : Jvm.MethodName) prog_1_method_24_code (2 : Nat) (Option.some Jvm.ClassFile.FieldType.int)) ∈ wT0 := wT0_in (List.mem_append_right _ (List.mem_of_getElem? (i := 938) (by decide +kernel))) rfl
theorem wd_935 : (Jvm.Cond.methodLink "WornSkinLaw" (108 : Nat) ({ cls := "WornSkin", name := "lay", desc := "(I)I" } : Jvm.MethodName)) ∈ wT0 := wT0_in (List.mem_append_right _ (List.mem_of_getElem? (i := 935) (by decide +kernel))) rfl
theorem wd_936 : (Jvm.Cond.instanceMethod ({ cls := "WornSkin", name := "lay", desc := "(I)I" } : Jvm.MethodName)) ∈ wT0 := wT0_in (List.mem_append_right _ (List.mem_of_getElem? (i := 936) (by decide +kernel))) rfl
theorem wd_937 : (Jvm.Cond.selects "WornSkin" ({ cls := "WornSkin", name := "lay", desc := "(I)I" } : Jvm.MethodName) ({ cls := "WornSkin", name := "lay", desc := "(I)I" } : Jvm.MethodName)) ∈ wT0 := wT0_in (List.mem_append_right _ (List.mem_of_getElem? (i := 937) (by decide +kernel))) rfl
theorem wd_1702 : (Jvm.Cond.code ({ cls := "WornSkinModel", name := "lay", desc := "(I)I" } : Jvm.MethodName) prog_13_method_86_code (2 : Nat) (Option.some Jvm.ClassFile.FieldType.int)) ∈ wT0 := wT0_in (List.mem_append_right _ (List.mem_of_getElem? (i := 1702) (by decide +kernel))) rfl
theorem wd_1699 : (Jvm.Cond.methodLink "WornSkinLaw" (111 : Nat) ({ cls := "WornSkinModel", name := "lay", desc := "(I)I" } : Jvm.MethodName)) ∈ wT0 := wT0_in (List.mem_append_right _ (List.mem_of_getElem? (i := 1699) (by decide +kernel))) rfl
theorem wd_1700 : (Jvm.Cond.instanceMethod ({ cls := "WornSkinModel", name := "lay", desc := "(I)I" } : Jvm.MethodName)) ∈ wT0 := wT0_in (List.mem_append_right _ (List.mem_of_getElem? (i := 1700) (by decide +kernel))) rfl
theorem wd_1701 : (Jvm.Cond.selects "WornSkinModel" ({ cls := "WornSkinModel", name := "lay", desc := "(I)I" } : Jvm.MethodName) ({ cls := "WornSkinModel", name := "lay", desc := "(I)I" } : Jvm.MethodName)) ∈ wT0 := wT0_in (List.mem_append_right _ (List.mem_of_getElem? (i := 1701) (by decide +kernel))) rfl
theorem wd_974 : (Jvm.Cond.code ({ cls := "WornSkin", name := "bears", desc := "(II)I" } : Jvm.MethodName) prog_1_method_25_code (7 : Nat) (Option.some Jvm.ClassFile.FieldType.int)) ∈ wT0 := wT0_in (List.mem_append_right _ (List.mem_of_getElem? (i := 974) (by decide +kernel))) rfl
theorem wd_971 : (Jvm.Cond.methodLink "WornSkinLaw" (112 : Nat) ({ cls := "WornSkin", name := "bears", desc := "(II)I" } : Jvm.MethodName)) ∈ wT0 := wT0_in (List.mem_append_right _ (List.mem_of_getElem? (i := 971) (by decide +kernel))) rfl
theorem wd_972 : (Jvm.Cond.instanceMethod ({ cls := "WornSkin", name := "bears", desc := "(II)I" } : Jvm.MethodName)) ∈ wT0 := wT0_in (List.mem_append_right _ (List.mem_of_getElem? (i := 972) (by decide +kernel))) rfl
theorem wd_973 : (Jvm.Cond.selects "WornSkin" ({ cls := "WornSkin", name := "bears", desc := "(II)I" } : Jvm.MethodName) ({ cls := "WornSkin", name := "bears", desc := "(II)I" } : Jvm.MethodName)) ∈ wT0 := wT0_in (List.mem_append_right _ (List.mem_of_getElem? (i := 973) (by decide +kernel))) rfl
theorem wd_1714 : (Jvm.Cond.code ({ cls := "WornSkinModel", name := "bears", desc := "(II)I" } : Jvm.MethodName) prog_13_method_87_code (5 : Nat) (Option.some Jvm.ClassFile.FieldType.int)) ∈ wT0 := wT0_in (List.mem_append_right _ (List.mem_of_getElem? (i := 1714) (by decide +kernel))) rfl
theorem wd_1711 : (Jvm.Cond.methodLink "WornSkinLaw" (115 : Nat) ({ cls := "WornSkinModel", name := "bears", desc := "(II)I" } : Jvm.MethodName)) ∈ wT0 := wT0_in (List.mem_append_right _ (List.mem_of_getElem? (i := 1711) (by decide +kernel))) rfl
theorem wd_1712 : (Jvm.Cond.instanceMethod ({ cls := "WornSkinModel", name := "bears", desc := "(II)I" } : Jvm.MethodName)) ∈ wT0 := wT0_in (List.mem_append_right _ (List.mem_of_getElem? (i := 1712) (by decide +kernel))) rfl
theorem wd_1713 : (Jvm.Cond.selects "WornSkinModel" ({ cls := "WornSkinModel", name := "bears", desc := "(II)I" } : Jvm.MethodName) ({ cls := "WornSkinModel", name := "bears", desc := "(II)I" } : Jvm.MethodName)) ∈ wT0 := wT0_in (List.mem_append_right _ (List.mem_of_getElem? (i := 1713) (by decide +kernel))) rfl
theorem wd_978 : (Jvm.Cond.code ({ cls := "WornSkin", name := "over", desc := "(I)I" } : Jvm.MethodName) prog_1_method_26_code (2 : Nat) (Option.some Jvm.ClassFile.FieldType.int)) ∈ wT0 := wT0_in (List.mem_append_right _ (List.mem_of_getElem? (i := 978) (by decide +kernel))) rfl
theorem wd_975 : (Jvm.Cond.methodLink "WornSkinLaw" (116 : Nat) ({ cls := "WornSkin", name := "over", desc := "(I)I" } : Jvm.MethodName)) ∈ wT0 := wT0_in (List.mem_append_right _ (List.mem_of_getElem? (i := 975) (by decide +kernel))) rfl
theorem wd_976 : (Jvm.Cond.instanceMethod ({ cls := "WornSkin", name := "over", desc := "(I)I" } : Jvm.MethodName)) ∈ wT0 := wT0_in (List.mem_append_right _ (List.mem_of_getElem? (i := 976) (by decide +kernel))) rfl
theorem wd_977 : (Jvm.Cond.selects "WornSkin" ({ cls := "WornSkin", name := "over", desc := "(I)I" } : Jvm.MethodName) ({ cls := "WornSkin", name := "over", desc := "(I)I" } : Jvm.MethodName)) ∈ wT0 := wT0_in (List.mem_append_right _ (List.mem_of_getElem? (i := 977) (by decide +kernel))) rfl
theorem wd_1718 : (Jvm.Cond.code ({ cls := "WornSkinModel", name := "over", desc := "(I)I" } : Jvm.MethodName) prog_13_method_88_code (6 : Nat) (Option.some Jvm.ClassFile.FieldType.int)) ∈ wT0 := wT0_in (List.mem_append_right _ (List.mem_of_getElem? (i := 1718) (by decide +kernel))) rfl
theorem wd_1715 : (Jvm.Cond.methodLink "WornSkinLaw" (119 : Nat) ({ cls := "WornSkinModel", name := "over", desc := "(I)I" } : Jvm.MethodName)) ∈ wT0 := wT0_in (List.mem_append_right _ (List.mem_of_getElem? (i := 1715) (by decide +kernel))) rfl
theorem wd_1716 : (Jvm.Cond.instanceMethod ({ cls := "WornSkinModel", name := "over", desc := "(I)I" } : Jvm.MethodName)) ∈ wT0 := wT0_in (List.mem_append_right _ (List.mem_of_getElem? (i := 1716) (by decide +kernel))) rfl
theorem wd_1717 : (Jvm.Cond.selects "WornSkinModel" ({ cls := "WornSkinModel", name := "over", desc := "(I)I" } : Jvm.MethodName) ({ cls := "WornSkinModel", name := "over", desc := "(I)I" } : Jvm.MethodName)) ∈ wT0 := wT0_in (List.mem_append_right _ (List.mem_of_getElem? (i := 1717) (by decide +kernel))) rfl
theorem wd_986 : (Jvm.Cond.code ({ cls := "WornSkin", name := "deepest", desc := "(I)I" } : Jvm.MethodName) prog_1_method_27_code (4 : Nat) (Option.some Jvm.ClassFile.FieldType.int)) ∈ wT0 := wT0_in (List.mem_append_right _ (List.mem_of_getElem? (i := 986) (by decide +kernel))) rfl
theorem wd_983 : (Jvm.Cond.methodLink "WornSkinLaw" (120 : Nat) ({ cls := "WornSkin", name := "deepest", desc := "(I)I" } : Jvm.MethodName)) ∈ wT0 := wT0_in (List.mem_append_right _ (List.mem_of_getElem? (i := 983) (by decide +kernel))) rfl
theorem wd_984 : (Jvm.Cond.instanceMethod ({ cls := "WornSkin", name := "deepest", desc := "(I)I" } : Jvm.MethodName)) ∈ wT0 := wT0_in (List.mem_append_right _ (List.mem_of_getElem? (i := 984) (by decide +kernel))) rfl
theorem wd_985 : (Jvm.Cond.selects "WornSkin" ({ cls := "WornSkin", name := "deepest", desc := "(I)I" } : Jvm.MethodName) ({ cls := "WornSkin", name := "deepest", desc := "(I)I" } : Jvm.MethodName)) ∈ wT0 := wT0_in (List.mem_append_right _ (List.mem_of_getElem? (i := 985) (by decide +kernel))) rfl
theorem wd_1722 : (Jvm.Cond.code ({ cls := "WornSkinModel", name := "deepest", desc := "(I)I" } : Jvm.MethodName) prog_13_method_89_code (4 : Nat) (Option.some Jvm.ClassFile.FieldType.int)) ∈ wT0 := wT0_in (List.mem_append_right _ (List.mem_of_getElem? (i := 1722) (by decide +kernel))) rfl
theorem wd_1719 : (Jvm.Cond.methodLink "WornSkinLaw" (123 : Nat) ({ cls := "WornSkinModel", name := "deepest", desc := "(I)I" } : Jvm.MethodName)) ∈ wT0 := wT0_in (List.mem_append_right _ (List.mem_of_getElem? (i := 1719) (by decide +kernel))) rfl
theorem wd_1720 : (Jvm.Cond.instanceMethod ({ cls := "WornSkinModel", name := "deepest", desc := "(I)I" } : Jvm.MethodName)) ∈ wT0 := wT0_in (List.mem_append_right _ (List.mem_of_getElem? (i := 1720) (by decide +kernel))) rfl
theorem wd_1721 : (Jvm.Cond.selects "WornSkinModel" ({ cls := "WornSkinModel", name := "deepest", desc := "(I)I" } : Jvm.MethodName) ({ cls := "WornSkinModel", name := "deepest", desc := "(I)I" } : Jvm.MethodName)) ∈ wT0 := wT0_in (List.mem_append_right _ (List.mem_of_getElem? (i := 1721) (by decide +kernel))) rfl
theorem wd_990 : (Jvm.Cond.code ({ cls := "WornSkin", name := "bare", desc := "(I)I" } : Jvm.MethodName) prog_1_method_28_code (4 : Nat) (Option.some Jvm.ClassFile.FieldType.int)) ∈ wT0 := wT0_in (List.mem_append_right _ (List.mem_of_getElem? (i := 990) (by decide +kernel))) rfl
theorem wd_987 : (Jvm.Cond.methodLink "WornSkinLaw" (124 : Nat) ({ cls := "WornSkin", name := "bare", desc := "(I)I" } : Jvm.MethodName)) ∈ wT0 := wT0_in (List.mem_append_right _ (List.mem_of_getElem? (i := 987) (by decide +kernel))) rfl
theorem wd_988 : (Jvm.Cond.instanceMethod ({ cls := "WornSkin", name := "bare", desc := "(I)I" } : Jvm.MethodName)) ∈ wT0 := wT0_in (List.mem_append_right _ (List.mem_of_getElem? (i := 988) (by decide +kernel))) rfl
theorem wd_989 : (Jvm.Cond.selects "WornSkin" ({ cls := "WornSkin", name := "bare", desc := "(I)I" } : Jvm.MethodName) ({ cls := "WornSkin", name := "bare", desc := "(I)I" } : Jvm.MethodName)) ∈ wT0 := wT0_in (List.mem_append_right _ (List.mem_of_getElem? (i := 989) (by decide +kernel))) rfl
theorem wd_1726 : (Jvm.Cond.code ({ cls := "WornSkinModel", name := "bare", desc := "(I)I" } : Jvm.MethodName) prog_13_method_90_code (4 : Nat) (Option.some Jvm.ClassFile.FieldType.int)) ∈ wT0 := wT0_in (List.mem_append_right _ (List.mem_of_getElem? (i := 1726) (by decide +kernel))) rfl
theorem wd_1723 : (Jvm.Cond.methodLink "WornSkinLaw" (127 : Nat) ({ cls := "WornSkinModel", name := "bare", desc := "(I)I" } : Jvm.MethodName)) ∈ wT0 := wT0_in (List.mem_append_right _ (List.mem_of_getElem? (i := 1723) (by decide +kernel))) rfl
theorem wd_1724 : (Jvm.Cond.instanceMethod ({ cls := "WornSkinModel", name := "bare", desc := "(I)I" } : Jvm.MethodName)) ∈ wT0 := wT0_in (List.mem_append_right _ (List.mem_of_getElem? (i := 1724) (by decide +kernel))) rfl
theorem wd_1725 : (Jvm.Cond.selects "WornSkinModel" ({ cls := "WornSkinModel", name := "bare", desc := "(I)I" } : Jvm.MethodName) ({ cls := "WornSkinModel", name := "bare", desc := "(I)I" } : Jvm.MethodName)) ∈ wT0 := wT0_in (List.mem_append_right _ (List.mem_of_getElem? (i := 1725) (by decide +kernel))) rfl
theorem wd_994 : (Jvm.Cond.code ({ cls := "WornSkin", name := "same", desc := "()I" } : Jvm.MethodName) prog_1_method_29_code (1 : Nat) (Option.some Jvm.ClassFile.FieldType.int)) ∈ wT0 := wT0_in (List.mem_append_right _ (List.mem_of_getElem? (i := 994) (by decide +kernel))) rfl
theorem wd_991 : (Jvm.Cond.methodLink "WornSkinLaw" (128 : Nat) ({ cls := "WornSkin", name := "same", desc := "()I" } : Jvm.MethodName)) ∈ wT0 := wT0_in (List.mem_append_right _ (List.mem_of_getElem? (i := 991) (by decide +kernel))) rfl
theorem wd_992 : (Jvm.Cond.instanceMethod ({ cls := "WornSkin", name := "same", desc := "()I" } : Jvm.MethodName)) ∈ wT0 := wT0_in (List.mem_append_right _ (List.mem_of_getElem? (i := 992) (by decide +kernel))) rfl
theorem wd_993 : (Jvm.Cond.selects "WornSkin" ({ cls := "WornSkin", name := "same", desc := "()I" } : Jvm.MethodName) ({ cls := "WornSkin", name := "same", desc := "()I" } : Jvm.MethodName)) ∈ wT0 := wT0_in (List.mem_append_right _ (List.mem_of_getElem? (i := 993) (by decide +kernel))) rfl
theorem wd_1730 : (Jvm.Cond.code ({ cls := "WornSkinModel", name := "same", desc := "()I" } : Jvm.MethodName) prog_13_method_91_code (4 : Nat) (Option.some Jvm.ClassFile.FieldType.int)) ∈ wT0 := wT0_in (List.mem_append_right _ (List.mem_of_getElem? (i := 1730) (by decide +kernel))) rfl
theorem wd_1727 : (Jvm.Cond.methodLink "WornSkinLaw" (131 : Nat) ({ cls := "WornSkinModel", name := "same", desc := "()I" } : Jvm.MethodName)) ∈ wT0 := wT0_in (List.mem_append_right _ (List.mem_of_getElem? (i := 1727) (by decide +kernel))) rfl
theorem wd_1728 : (Jvm.Cond.instanceMethod ({ cls := "WornSkinModel", name := "same", desc := "()I" } : Jvm.MethodName)) ∈ wT0 := wT0_in (List.mem_append_right _ (List.mem_of_getElem? (i := 1728) (by decide +kernel))) rfl
theorem wd_1729 : (Jvm.Cond.selects "WornSkinModel" ({ cls := "WornSkinModel", name := "same", desc := "()I" } : Jvm.MethodName) ({ cls := "WornSkinModel", name := "same", desc := "()I" } : Jvm.MethodName)) ∈ wT0 := wT0_in (List.mem_append_right _ (List.mem_of_getElem? (i := 1729) (by decide +kernel))) rfl
theorem wd_1002 : (Jvm.Cond.code ({ cls := "WornSkin", name := "giveup", desc := "()I" } : Jvm.MethodName) prog_1_method_30_code (6 : Nat) (Option.some Jvm.ClassFile.FieldType.int)) ∈ wT0 := wT0_in (List.mem_append_right _ (List.mem_of_getElem? (i := 1002) (by decide +kernel))) rfl
theorem wd_999 : (Jvm.Cond.methodLink "WornSkinLaw" (132 : Nat) ({ cls := "WornSkin", name := "giveup", desc := "()I" } : Jvm.MethodName)) ∈ wT0 := wT0_in (List.mem_append_right _ (List.mem_of_getElem? (i := 999) (by decide +kernel))) rfl
theorem wd_1000 : (Jvm.Cond.instanceMethod ({ cls := "WornSkin", name := "giveup", desc := "()I" } : Jvm.MethodName)) ∈ wT0 := wT0_in (List.mem_append_right _ (List.mem_of_getElem? (i := 1000) (by decide +kernel))) rfl
theorem wd_1001 : (Jvm.Cond.selects "WornSkin" ({ cls := "WornSkin", name := "giveup", desc := "()I" } : Jvm.MethodName) ({ cls := "WornSkin", name := "giveup", desc := "()I" } : Jvm.MethodName)) ∈ wT0 := wT0_in (List.mem_append_right _ (List.mem_of_getElem? (i := 1001) (by decide +kernel))) rfl
theorem wd_1734 : (Jvm.Cond.code ({ cls := "WornSkinModel", name := "giveup", desc := "()I" } : Jvm.MethodName) prog_13_method_92_code (6 : Nat) (Option.some Jvm.ClassFile.FieldType.int)) ∈ wT0 := wT0_in (List.mem_append_right _ (List.mem_of_getElem? (i := 1734) (by decide +kernel))) rfl
theorem wd_1731 : (Jvm.Cond.methodLink "WornSkinLaw" (135 : Nat) ({ cls := "WornSkinModel", name := "giveup", desc := "()I" } : Jvm.MethodName)) ∈ wT0 := wT0_in (List.mem_append_right _ (List.mem_of_getElem? (i := 1731) (by decide +kernel))) rfl
theorem wd_1732 : (Jvm.Cond.instanceMethod ({ cls := "WornSkinModel", name := "giveup", desc := "()I" } : Jvm.MethodName)) ∈ wT0 := wT0_in (List.mem_append_right _ (List.mem_of_getElem? (i := 1732) (by decide +kernel))) rfl
theorem wd_1733 : (Jvm.Cond.selects "WornSkinModel" ({ cls := "WornSkinModel", name := "giveup", desc := "()I" } : Jvm.MethodName) ({ cls := "WornSkinModel", name := "giveup", desc := "()I" } : Jvm.MethodName)) ∈ wT0 := wT0_in (List.mem_append_right _ (List.mem_of_getElem? (i := 1733) (by decide +kernel))) rfl
theorem wd_1006 : (Jvm.Cond.code ({ cls := "WornSkin", name := "psalter", desc := "(I)I" } : Jvm.MethodName) prog_1_method_31_code (4 : Nat) (Option.some Jvm.ClassFile.FieldType.int)) ∈ wT0 := wT0_in (List.mem_append_right _ (List.mem_of_getElem? (i := 1006) (by decide +kernel))) rfl
theorem wd_1003 : (Jvm.Cond.methodLink "WornSkinLaw" (136 : Nat) ({ cls := "WornSkin", name := "psalter", desc := "(I)I" } : Jvm.MethodName)) ∈ wT0 := wT0_in (List.mem_append_right _ (List.mem_of_getElem? (i := 1003) (by decide +kernel))) rfl
theorem wd_1004 : (Jvm.Cond.instanceMethod ({ cls := "WornSkin", name := "psalter", desc := "(I)I" } : Jvm.MethodName)) ∈ wT0 := wT0_in (List.mem_append_right _ (List.mem_of_getElem? (i := 1004) (by decide +kernel))) rfl
theorem wd_1005 : (Jvm.Cond.selects "WornSkin" ({ cls := "WornSkin", name := "psalter", desc := "(I)I" } : Jvm.MethodName) ({ cls := "WornSkin", name := "psalter", desc := "(I)I" } : Jvm.MethodName)) ∈ wT0 := wT0_in (List.mem_append_right _ (List.mem_of_getElem? (i := 1005) (by decide +kernel))) rfl
theorem wd_1677 : (Jvm.Cond.code ({ cls := "WornSkinModel", name := "psalter", desc := "(I)I" } : Jvm.MethodName) prog_13_method_79_code (4 : Nat) (Option.some Jvm.ClassFile.FieldType.int)) ∈ wT0 := wT0_in (List.mem_append_right _ (List.mem_of_getElem? (i := 1677) (by decide +kernel))) rfl
theorem wd_1674 : (Jvm.Cond.methodLink "WornSkinLaw" (139 : Nat) ({ cls := "WornSkinModel", name := "psalter", desc := "(I)I" } : Jvm.MethodName)) ∈ wT0 := wT0_in (List.mem_append_right _ (List.mem_of_getElem? (i := 1674) (by decide +kernel))) rfl
theorem wd_1675 : (Jvm.Cond.instanceMethod ({ cls := "WornSkinModel", name := "psalter", desc := "(I)I" } : Jvm.MethodName)) ∈ wT0 := wT0_in (List.mem_append_right _ (List.mem_of_getElem? (i := 1675) (by decide +kernel))) rfl
theorem wd_1676 : (Jvm.Cond.selects "WornSkinModel" ({ cls := "WornSkinModel", name := "psalter", desc := "(I)I" } : Jvm.MethodName) ({ cls := "WornSkinModel", name := "psalter", desc := "(I)I" } : Jvm.MethodName)) ∈ wT0 := wT0_in (List.mem_append_right _ (List.mem_of_getElem? (i := 1676) (by decide +kernel))) rfl
theorem wd_1010 : (Jvm.Cond.code ({ cls := "WornSkin", name := "see", desc := "(IIIZ)Z" } : Jvm.MethodName) prog_1_method_32_code (5 : Nat) (Option.some Jvm.ClassFile.FieldType.boolean)) ∈ wT0 := wT0_in (List.mem_append_right _ (List.mem_of_getElem? (i := 1010) (by decide +kernel))) rfl
theorem wd_1007 : (Jvm.Cond.methodLink "WornSkinLaw" (140 : Nat) ({ cls := "WornSkin", name := "see", desc := "(IIIZ)Z" } : Jvm.MethodName)) ∈ wT0 := wT0_in (List.mem_append_right _ (List.mem_of_getElem? (i := 1007) (by decide +kernel))) rfl
theorem wd_1008 : (Jvm.Cond.instanceMethod ({ cls := "WornSkin", name := "see", desc := "(IIIZ)Z" } : Jvm.MethodName)) ∈ wT0 := wT0_in (List.mem_append_right _ (List.mem_of_getElem? (i := 1008) (by decide +kernel))) rfl
theorem wd_1009 : (Jvm.Cond.selects "WornSkin" ({ cls := "WornSkin", name := "see", desc := "(IIIZ)Z" } : Jvm.MethodName) ({ cls := "WornSkin", name := "see", desc := "(IIIZ)Z" } : Jvm.MethodName)) ∈ wT0 := wT0_in (List.mem_append_right _ (List.mem_of_getElem? (i := 1009) (by decide +kernel))) rfl
theorem wd_1738 : (Jvm.Cond.code ({ cls := "WornSkinModel", name := "see", desc := "(IIIZ)Z" } : Jvm.MethodName) prog_13_method_93_code (5 : Nat) (Option.some Jvm.ClassFile.FieldType.boolean)) ∈ wT0 := wT0_in (List.mem_append_right _ (List.mem_of_getElem? (i := 1738) (by decide +kernel))) rfl
theorem wd_1735 : (Jvm.Cond.methodLink "WornSkinLaw" (144 : Nat) ({ cls := "WornSkinModel", name := "see", desc := "(IIIZ)Z" } : Jvm.MethodName)) ∈ wT0 := wT0_in (List.mem_append_right _ (List.mem_of_getElem? (i := 1735) (by decide +kernel))) rfl
theorem wd_1736 : (Jvm.Cond.instanceMethod ({ cls := "WornSkinModel", name := "see", desc := "(IIIZ)Z" } : Jvm.MethodName)) ∈ wT0 := wT0_in (List.mem_append_right _ (List.mem_of_getElem? (i := 1736) (by decide +kernel))) rfl
theorem wd_1737 : (Jvm.Cond.selects "WornSkinModel" ({ cls := "WornSkinModel", name := "see", desc := "(IIIZ)Z" } : Jvm.MethodName) ({ cls := "WornSkinModel", name := "see", desc := "(IIIZ)Z" } : Jvm.MethodName)) ∈ wT0 := wT0_in (List.mem_append_right _ (List.mem_of_getElem? (i := 1737) (by decide +kernel))) rfl
theorem wd_1018 : (Jvm.Cond.code ({ cls := "WornSkin", name := "who", desc := "()I" } : Jvm.MethodName) prog_1_method_33_code (1 : Nat) (Option.some Jvm.ClassFile.FieldType.int)) ∈ wT0 := wT0_in (List.mem_append_right _ (List.mem_of_getElem? (i := 1018) (by decide +kernel))) rfl
theorem wd_1015 : (Jvm.Cond.methodLink "WornSkinLaw" (145 : Nat) ({ cls := "WornSkin", name := "who", desc := "()I" } : Jvm.MethodName)) ∈ wT0 := wT0_in (List.mem_append_right _ (List.mem_of_getElem? (i := 1015) (by decide +kernel))) rfl
theorem wd_1016 : (Jvm.Cond.instanceMethod ({ cls := "WornSkin", name := "who", desc := "()I" } : Jvm.MethodName)) ∈ wT0 := wT0_in (List.mem_append_right _ (List.mem_of_getElem? (i := 1016) (by decide +kernel))) rfl
theorem wd_1017 : (Jvm.Cond.selects "WornSkin" ({ cls := "WornSkin", name := "who", desc := "()I" } : Jvm.MethodName) ({ cls := "WornSkin", name := "who", desc := "()I" } : Jvm.MethodName)) ∈ wT0 := wT0_in (List.mem_append_right _ (List.mem_of_getElem? (i := 1017) (by decide +kernel))) rfl
theorem wd_1742 : (Jvm.Cond.code ({ cls := "WornSkinModel", name := "who", desc := "()I" } : Jvm.MethodName) prog_13_method_94_code (5 : Nat) (Option.some Jvm.ClassFile.FieldType.int)) ∈ wT0 := wT0_in (List.mem_append_right _ (List.mem_of_getElem? (i := 1742) (by decide +kernel))) rfl
theorem wd_1739 : (Jvm.Cond.methodLink "WornSkinLaw" (148 : Nat) ({ cls := "WornSkinModel", name := "who", desc := "()I" } : Jvm.MethodName)) ∈ wT0 := wT0_in (List.mem_append_right _ (List.mem_of_getElem? (i := 1739) (by decide +kernel))) rfl
theorem wd_1740 : (Jvm.Cond.instanceMethod ({ cls := "WornSkinModel", name := "who", desc := "()I" } : Jvm.MethodName)) ∈ wT0 := wT0_in (List.mem_append_right _ (List.mem_of_getElem? (i := 1740) (by decide +kernel))) rfl
theorem wd_1741 : (Jvm.Cond.selects "WornSkinModel" ({ cls := "WornSkinModel", name := "who", desc := "()I" } : Jvm.MethodName) ({ cls := "WornSkinModel", name := "who", desc := "()I" } : Jvm.MethodName)) ∈ wT0 := wT0_in (List.mem_append_right _ (List.mem_of_getElem? (i := 1741) (by decide +kernel))) rfl
theorem wd_1031 : (Jvm.Cond.code ({ cls := "WornSkin", name := "ask", desc := "(I)I" } : Jvm.MethodName) prog_1_method_35_code (10 : Nat) (Option.some Jvm.ClassFile.FieldType.int)) ∈ wT0 := wT0_in (List.mem_append_right _ (List.mem_of_getElem? (i := 1031) (by decide +kernel))) rfl
theorem wd_1028 : (Jvm.Cond.methodLink "WornSkinLaw" (149 : Nat) ({ cls := "WornSkin", name := "ask", desc := "(I)I" } : Jvm.MethodName)) ∈ wT0 := wT0_in (List.mem_append_right _ (List.mem_of_getElem? (i := 1028) (by decide +kernel))) rfl
theorem wd_1029 : (Jvm.Cond.instanceMethod ({ cls := "WornSkin", name := "ask", desc := "(I)I" } : Jvm.MethodName)) ∈ wT0 := wT0_in (List.mem_append_right _ (List.mem_of_getElem? (i := 1029) (by decide +kernel))) rfl
theorem wd_1030 : (Jvm.Cond.selects "WornSkin" ({ cls := "WornSkin", name := "ask", desc := "(I)I" } : Jvm.MethodName) ({ cls := "WornSkin", name := "ask", desc := "(I)I" } : Jvm.MethodName)) ∈ wT0 := wT0_in (List.mem_append_right _ (List.mem_of_getElem? (i := 1030) (by decide +kernel))) rfl
theorem wd_1746 : (Jvm.Cond.code ({ cls := "WornSkinModel", name := "ask", desc := "(I)I" } : Jvm.MethodName) prog_13_method_95_code (8 : Nat) (Option.some Jvm.ClassFile.FieldType.int)) ∈ wT0 := wT0_in (List.mem_append_right _ (List.mem_of_getElem? (i := 1746) (by decide +kernel))) rfl
theorem wd_1743 : (Jvm.Cond.methodLink "WornSkinLaw" (152 : Nat) ({ cls := "WornSkinModel", name := "ask", desc := "(I)I" } : Jvm.MethodName)) ∈ wT0 := wT0_in (List.mem_append_right _ (List.mem_of_getElem? (i := 1743) (by decide +kernel))) rfl
theorem wd_1744 : (Jvm.Cond.instanceMethod ({ cls := "WornSkinModel", name := "ask", desc := "(I)I" } : Jvm.MethodName)) ∈ wT0 := wT0_in (List.mem_append_right _ (List.mem_of_getElem? (i := 1744) (by decide +kernel))) rfl
theorem wd_1745 : (Jvm.Cond.selects "WornSkinModel" ({ cls := "WornSkinModel", name := "ask", desc := "(I)I" } : Jvm.MethodName) ({ cls := "WornSkinModel", name := "ask", desc := "(I)I" } : Jvm.MethodName)) ∈ wT0 := wT0_in (List.mem_append_right _ (List.mem_of_getElem? (i := 1745) (by decide +kernel))) rfl
theorem wd_1040 : (Jvm.Cond.code ({ cls := "WornSkin", name := "chance", desc := "(III)I" } : Jvm.MethodName) prog_1_method_36_code (9 : Nat) (Option.some Jvm.ClassFile.FieldType.int)) ∈ wT0 := wT0_in (List.mem_append_right _ (List.mem_of_getElem? (i := 1040) (by decide +kernel))) rfl
theorem wd_1037 : (Jvm.Cond.methodLink "WornSkinLaw" (153 : Nat) ({ cls := "WornSkin", name := "chance", desc := "(III)I" } : Jvm.MethodName)) ∈ wT0 := wT0_in (List.mem_append_right _ (List.mem_of_getElem? (i := 1037) (by decide +kernel))) rfl
theorem wd_1038 : (Jvm.Cond.instanceMethod ({ cls := "WornSkin", name := "chance", desc := "(III)I" } : Jvm.MethodName)) ∈ wT0 := wT0_in (List.mem_append_right _ (List.mem_of_getElem? (i := 1038) (by decide +kernel))) rfl
theorem wd_1039 : (Jvm.Cond.selects "WornSkin" ({ cls := "WornSkin", name := "chance", desc := "(III)I" } : Jvm.MethodName) ({ cls := "WornSkin", name := "chance", desc := "(III)I" } : Jvm.MethodName)) ∈ wT0 := wT0_in (List.mem_append_right _ (List.mem_of_getElem? (i := 1039) (by decide +kernel))) rfl
theorem wd_1752 : (Jvm.Cond.code ({ cls := "WornSkinModel", name := "chance", desc := "(III)I" } : Jvm.MethodName) prog_13_method_96_code (11 : Nat) (Option.some Jvm.ClassFile.FieldType.int)) ∈ wT0 := wT0_in (List.mem_append_right _ (List.mem_of_getElem? (i := 1752) (by decide +kernel))) rfl
theorem wd_1749 : (Jvm.Cond.methodLink "WornSkinLaw" (156 : Nat) ({ cls := "WornSkinModel", name := "chance", desc := "(III)I" } : Jvm.MethodName)) ∈ wT0 := wT0_in (List.mem_append_right _ (List.mem_of_getElem? (i := 1749) (by decide +kernel))) rfl
theorem wd_1750 : (Jvm.Cond.instanceMethod ({ cls := "WornSkinModel", name := "chance", desc := "(III)I" } : Jvm.MethodName)) ∈ wT0 := wT0_in (List.mem_append_right _ (List.mem_of_getElem? (i := 1750) (by decide +kernel))) rfl
theorem wd_1751 : (Jvm.Cond.selects "WornSkinModel" ({ cls := "WornSkinModel", name := "chance", desc := "(III)I" } : Jvm.MethodName) ({ cls := "WornSkinModel", name := "chance", desc := "(III)I" } : Jvm.MethodName)) ∈ wT0 := wT0_in (List.mem_append_right _ (List.mem_of_getElem? (i := 1751) (by decide +kernel))) rfl
theorem wd_1090 : (Jvm.Cond.methodLink "WornSkinLaw" (157 : Nat) ({ cls := "WornSkinLaw", name := "rests", desc := "(LWornSkin;IIII[J)I" } : Jvm.MethodName)) ∈ wT0 := wT0_in (List.mem_append_right _ (List.mem_of_getElem? (i := 1090) (by decide +kernel))) rfl
theorem wd_1758 : (Jvm.Cond.code ({ cls := "WornSkinModel", name := "rests", desc := "(IIII)I" } : Jvm.MethodName) prog_13_method_98_code (9 : Nat) (Option.some Jvm.ClassFile.FieldType.int)) ∈ wT0 := wT0_in (List.mem_append_right _ (List.mem_of_getElem? (i := 1758) (by decide +kernel))) rfl
theorem wd_1755 : (Jvm.Cond.methodLink "WornSkinLaw" (162 : Nat) ({ cls := "WornSkinModel", name := "rests", desc := "(IIII)I" } : Jvm.MethodName)) ∈ wT0 := wT0_in (List.mem_append_right _ (List.mem_of_getElem? (i := 1755) (by decide +kernel))) rfl
theorem wd_1756 : (Jvm.Cond.instanceMethod ({ cls := "WornSkinModel", name := "rests", desc := "(IIII)I" } : Jvm.MethodName)) ∈ wT0 := wT0_in (List.mem_append_right _ (List.mem_of_getElem? (i := 1756) (by decide +kernel))) rfl
theorem wd_1757 : (Jvm.Cond.selects "WornSkinModel" ({ cls := "WornSkinModel", name := "rests", desc := "(IIII)I" } : Jvm.MethodName) ({ cls := "WornSkinModel", name := "rests", desc := "(IIII)I" } : Jvm.MethodName)) ∈ wT0 := wT0_in (List.mem_append_right _ (List.mem_of_getElem? (i := 1757) (by decide +kernel))) rfl
theorem wd_1356 : (Jvm.Cond.code ({ cls := "WornSkinModel", name := "thrown", desc := "()I" } : Jvm.MethodName) prog_13_method_2_code (1 : Nat) (Option.some Jvm.ClassFile.FieldType.int)) ∈ wT0 := wT0_in (List.mem_append_right _ (List.mem_of_getElem? (i := 1356) (by decide +kernel))) rfl
theorem wd_1353 : (Jvm.Cond.methodLink "WornSkinLaw" (163 : Nat) ({ cls := "WornSkinModel", name := "thrown", desc := "()I" } : Jvm.MethodName)) ∈ wT0 := wT0_in (List.mem_append_right _ (List.mem_of_getElem? (i := 1353) (by decide +kernel))) rfl
theorem wd_1354 : (Jvm.Cond.instanceMethod ({ cls := "WornSkinModel", name := "thrown", desc := "()I" } : Jvm.MethodName)) ∈ wT0 := wT0_in (List.mem_append_right _ (List.mem_of_getElem? (i := 1354) (by decide +kernel))) rfl
theorem wd_1355 : (Jvm.Cond.selects "WornSkinModel" ({ cls := "WornSkinModel", name := "thrown", desc := "()I" } : Jvm.MethodName) ({ cls := "WornSkinModel", name := "thrown", desc := "()I" } : Jvm.MethodName)) ∈ wT0 := wT0_in (List.mem_append_right _ (List.mem_of_getElem? (i := 1355) (by decide +kernel))) rfl
theorem wd_1045 : (Jvm.Cond.code ({ cls := "WornSkin", name := "years", desc := "(III)I" } : Jvm.MethodName) prog_1_method_41_code (6 : Nat) (Option.some Jvm.ClassFile.FieldType.int)) ∈ wT0 := wT0_in (List.mem_append_right _ (List.mem_of_getElem? (i := 1045) (by decide +kernel))) rfl
theorem wd_1042 : (Jvm.Cond.methodLink "WornSkinLaw" (166 : Nat) ({ cls := "WornSkin", name := "years", desc := "(III)I" } : Jvm.MethodName)) ∈ wT0 := wT0_in (List.mem_append_right _ (List.mem_of_getElem? (i := 1042) (by decide +kernel))) rfl
theorem wd_1043 : (Jvm.Cond.instanceMethod ({ cls := "WornSkin", name := "years", desc := "(III)I" } : Jvm.MethodName)) ∈ wT0 := wT0_in (List.mem_append_right _ (List.mem_of_getElem? (i := 1043) (by decide +kernel))) rfl
theorem wd_1044 : (Jvm.Cond.selects "WornSkin" ({ cls := "WornSkin", name := "years", desc := "(III)I" } : Jvm.MethodName) ({ cls := "WornSkin", name := "years", desc := "(III)I" } : Jvm.MethodName)) ∈ wT0 := wT0_in (List.mem_append_right _ (List.mem_of_getElem? (i := 1044) (by decide +kernel))) rfl
theorem wd_1765 : (Jvm.Cond.code ({ cls := "WornSkinModel", name := "years", desc := "(III)I" } : Jvm.MethodName) prog_13_method_102_code (7 : Nat) (Option.some Jvm.ClassFile.FieldType.int)) ∈ wT0 := wT0_in (List.mem_append_right _ (List.mem_of_getElem? (i := 1765) (by decide +kernel))) rfl
theorem wd_1762 : (Jvm.Cond.methodLink "WornSkinLaw" (169 : Nat) ({ cls := "WornSkinModel", name := "years", desc := "(III)I" } : Jvm.MethodName)) ∈ wT0 := wT0_in (List.mem_append_right _ (List.mem_of_getElem? (i := 1762) (by decide +kernel))) rfl
theorem wd_1763 : (Jvm.Cond.instanceMethod ({ cls := "WornSkinModel", name := "years", desc := "(III)I" } : Jvm.MethodName)) ∈ wT0 := wT0_in (List.mem_append_right _ (List.mem_of_getElem? (i := 1763) (by decide +kernel))) rfl
theorem wd_1764 : (Jvm.Cond.selects "WornSkinModel" ({ cls := "WornSkinModel", name := "years", desc := "(III)I" } : Jvm.MethodName) ({ cls := "WornSkinModel", name := "years", desc := "(III)I" } : Jvm.MethodName)) ∈ wT0 := wT0_in (List.mem_append_right _ (List.mem_of_getElem? (i := 1764) (by decide +kernel))) rfl
theorem wd_1069 : (Jvm.Cond.code ({ cls := "WornSkin", name := "mark", desc := "(IZ)Z" } : Jvm.MethodName) prog_1_method_42_code (4 : Nat) (Option.some Jvm.ClassFile.FieldType.boolean)) ∈ wT0 := wT0_in (List.mem_append_right _ (List.mem_of_getElem? (i := 1069) (by decide +kernel))) rfl
theorem wd_1066 : (Jvm.Cond.methodLink "WornSkinLaw" (170 : Nat) ({ cls := "WornSkin", name := "mark", desc := "(IZ)Z" } : Jvm.MethodName)) ∈ wT0 := wT0_in (List.mem_append_right _ (List.mem_of_getElem? (i := 1066) (by decide +kernel))) rfl
theorem wd_1067 : (Jvm.Cond.instanceMethod ({ cls := "WornSkin", name := "mark", desc := "(IZ)Z" } : Jvm.MethodName)) ∈ wT0 := wT0_in (List.mem_append_right _ (List.mem_of_getElem? (i := 1067) (by decide +kernel))) rfl
theorem wd_1068 : (Jvm.Cond.selects "WornSkin" ({ cls := "WornSkin", name := "mark", desc := "(IZ)Z" } : Jvm.MethodName) ({ cls := "WornSkin", name := "mark", desc := "(IZ)Z" } : Jvm.MethodName)) ∈ wT0 := wT0_in (List.mem_append_right _ (List.mem_of_getElem? (i := 1068) (by decide +kernel))) rfl
theorem wd_1785 : (Jvm.Cond.code ({ cls := "WornSkinModel", name := "mark", desc := "(IZ)Z" } : Jvm.MethodName) prog_13_method_103_code (5 : Nat) (Option.some Jvm.ClassFile.FieldType.boolean)) ∈ wT0 := wT0_in (List.mem_append_right _ (List.mem_of_getElem? (i := 1785) (by decide +kernel))) rfl
theorem wd_1782 : (Jvm.Cond.methodLink "WornSkinLaw" (174 : Nat) ({ cls := "WornSkinModel", name := "mark", desc := "(IZ)Z" } : Jvm.MethodName)) ∈ wT0 := wT0_in (List.mem_append_right _ (List.mem_of_getElem? (i := 1782) (by decide +kernel))) rfl
theorem wd_1783 : (Jvm.Cond.instanceMethod ({ cls := "WornSkinModel", name := "mark", desc := "(IZ)Z" } : Jvm.MethodName)) ∈ wT0 := wT0_in (List.mem_append_right _ (List.mem_of_getElem? (i := 1783) (by decide +kernel))) rfl
theorem wd_1784 : (Jvm.Cond.selects "WornSkinModel" ({ cls := "WornSkinModel", name := "mark", desc := "(IZ)Z" } : Jvm.MethodName) ({ cls := "WornSkinModel", name := "mark", desc := "(IZ)Z" } : Jvm.MethodName)) ∈ wT0 := wT0_in (List.mem_append_right _ (List.mem_of_getElem? (i := 1784) (by decide +kernel))) rfl
theorem wd_1085 : (Jvm.Cond.code ({ cls := "WornSkin", name := "count", desc := "(I)I" } : Jvm.MethodName) prog_1_method_43_code (2 : Nat) (Option.some Jvm.ClassFile.FieldType.int)) ∈ wT0 := wT0_in (List.mem_append_right _ (List.mem_of_getElem? (i := 1085) (by decide +kernel))) rfl
theorem wd_1082 : (Jvm.Cond.methodLink "WornSkinLaw" (175 : Nat) ({ cls := "WornSkin", name := "count", desc := "(I)I" } : Jvm.MethodName)) ∈ wT0 := wT0_in (List.mem_append_right _ (List.mem_of_getElem? (i := 1082) (by decide +kernel))) rfl
theorem wd_1083 : (Jvm.Cond.instanceMethod ({ cls := "WornSkin", name := "count", desc := "(I)I" } : Jvm.MethodName)) ∈ wT0 := wT0_in (List.mem_append_right _ (List.mem_of_getElem? (i := 1083) (by decide +kernel))) rfl
theorem wd_1084 : (Jvm.Cond.selects "WornSkin" ({ cls := "WornSkin", name := "count", desc := "(I)I" } : Jvm.MethodName) ({ cls := "WornSkin", name := "count", desc := "(I)I" } : Jvm.MethodName)) ∈ wT0 := wT0_in (List.mem_append_right _ (List.mem_of_getElem? (i := 1084) (by decide +kernel))) rfl
theorem wd_1793 : (Jvm.Cond.code ({ cls := "WornSkinModel", name := "count", desc := "(I)I" } : Jvm.MethodName) prog_13_method_105_code (2 : Nat) (Option.some Jvm.ClassFile.FieldType.int)) ∈ wT0 := wT0_in (List.mem_append_right _ (List.mem_of_getElem? (i := 1793) (by decide +kernel))) rfl
theorem wd_1790 : (Jvm.Cond.methodLink "WornSkinLaw" (178 : Nat) ({ cls := "WornSkinModel", name := "count", desc := "(I)I" } : Jvm.MethodName)) ∈ wT0 := wT0_in (List.mem_append_right _ (List.mem_of_getElem? (i := 1790) (by decide +kernel))) rfl
theorem wd_1791 : (Jvm.Cond.instanceMethod ({ cls := "WornSkinModel", name := "count", desc := "(I)I" } : Jvm.MethodName)) ∈ wT0 := wT0_in (List.mem_append_right _ (List.mem_of_getElem? (i := 1791) (by decide +kernel))) rfl
theorem wd_1792 : (Jvm.Cond.selects "WornSkinModel" ({ cls := "WornSkinModel", name := "count", desc := "(I)I" } : Jvm.MethodName) ({ cls := "WornSkinModel", name := "count", desc := "(I)I" } : Jvm.MethodName)) ∈ wT0 := wT0_in (List.mem_append_right _ (List.mem_of_getElem? (i := 1792) (by decide +kernel))) rfl
theorem wd_1381 : (Jvm.Cond.code ({ cls := "WornSkinModel", name := "signAt", desc := "(I)I" } : Jvm.MethodName) prog_13_method_6_code (2 : Nat) (Option.some Jvm.ClassFile.FieldType.int)) ∈ wT0 := wT0_in (List.mem_append_right _ (List.mem_of_getElem? (i := 1381) (by decide +kernel))) rfl
theorem wd_1378 : (Jvm.Cond.methodLink "WornSkinModel" (172 : Nat) ({ cls := "WornSkinModel", name := "signAt", desc := "(I)I" } : Jvm.MethodName)) ∈ wT0 := wT0_in (List.mem_append_right _ (List.mem_of_getElem? (i := 1378) (by decide +kernel))) rfl
theorem wd_1380 : (Jvm.Cond.instanceMethod ({ cls := "WornSkinModel", name := "signAt", desc := "(I)I" } : Jvm.MethodName)) ∈ wT0 := wT0_in (List.mem_append_right _ (List.mem_of_getElem? (i := 1380) (by decide +kernel))) rfl
theorem wp_28 : Cond.selects "WornSkinModel" ({ cls := "WornSkinModel", name := "signAt", desc := "(I)I" } : Jvm.MethodName) ({ cls := "WornSkinModel", name := "signAt", desc := "(I)I" } : Jvm.MethodName) ∈ wT0 := wT0_in (List.mem_append_left _ (List.mem_of_getElem? (i := 28) (by decide +kernel))) rfl
theorem wd_1478 : (Jvm.Cond.code ({ cls := "WornSkinModel", name := "fact", desc := "()I" } : Jvm.MethodName) prog_13_method_12_code (1 : Nat) (Option.some Jvm.ClassFile.FieldType.int)) ∈ wT0 := wT0_in (List.mem_append_right _ (List.mem_of_getElem? (i := 1478) (by decide +kernel))) rfl
theorem wd_1475 : (Jvm.Cond.methodLink "WornSkinModel" (194 : Nat) ({ cls := "WornSkinModel", name := "fact", desc := "()I" } : Jvm.MethodName)) ∈ wT0 := wT0_in (List.mem_append_right _ (List.mem_of_getElem? (i := 1475) (by decide +kernel))) rfl
theorem wd_1477 : (Jvm.Cond.instanceMethod ({ cls := "WornSkinModel", name := "fact", desc := "()I" } : Jvm.MethodName)) ∈ wT0 := wT0_in (List.mem_append_right _ (List.mem_of_getElem? (i := 1477) (by decide +kernel))) rfl
theorem wp_46 : Cond.selects "WornSkinModel" ({ cls := "WornSkinModel", name := "fact", desc := "()I" } : Jvm.MethodName) ({ cls := "WornSkinModel", name := "fact", desc := "()I" } : Jvm.MethodName) ∈ wT0 := wT0_in (List.mem_append_left _ (List.mem_of_getElem? (i := 46) (by decide +kernel))) rfl
theorem wd_1388 : (Jvm.Cond.code ({ cls := "WornSkinModel", name := "isWord", desc := "(J)Z" } : Jvm.MethodName) prog_13_method_8_code (3 : Nat) (Option.some Jvm.ClassFile.FieldType.boolean)) ∈ wT0 := wT0_in (List.mem_append_right _ (List.mem_of_getElem? (i := 1388) (by decide +kernel))) rfl
theorem wd_1385 : (Jvm.Cond.methodLink "WornSkinModel" (200 : Nat) ({ cls := "WornSkinModel", name := "isWord", desc := "(J)Z" } : Jvm.MethodName)) ∈ wT0 := wT0_in (List.mem_append_right _ (List.mem_of_getElem? (i := 1385) (by decide +kernel))) rfl
theorem wd_1387 : (Jvm.Cond.instanceMethod ({ cls := "WornSkinModel", name := "isWord", desc := "(J)Z" } : Jvm.MethodName)) ∈ wT0 := wT0_in (List.mem_append_right _ (List.mem_of_getElem? (i := 1387) (by decide +kernel))) rfl
theorem wp_29 : Cond.selects "WornSkinModel" ({ cls := "WornSkinModel", name := "isWord", desc := "(J)Z" } : Jvm.MethodName) ({ cls := "WornSkinModel", name := "isWord", desc := "(J)Z" } : Jvm.MethodName) ∈ wT0 := wT0_in (List.mem_append_left _ (List.mem_of_getElem? (i := 29) (by decide +kernel))) rfl
theorem wd_1450 : (Jvm.Cond.code ({ cls := "WornSkinModel", name := "isSign", desc := "(I)Z" } : Jvm.MethodName) prog_13_method_9_code (2 : Nat) (Option.some Jvm.ClassFile.FieldType.boolean)) ∈ wT0 := wT0_in (List.mem_append_right _ (List.mem_of_getElem? (i := 1450) (by decide +kernel))) rfl
theorem wd_1447 : (Jvm.Cond.methodLink "WornSkinModel" (204 : Nat) ({ cls := "WornSkinModel", name := "isSign", desc := "(I)Z" } : Jvm.MethodName)) ∈ wT0 := wT0_in (List.mem_append_right _ (List.mem_of_getElem? (i := 1447) (by decide +kernel))) rfl
theorem wd_1449 : (Jvm.Cond.instanceMethod ({ cls := "WornSkinModel", name := "isSign", desc := "(I)Z" } : Jvm.MethodName)) ∈ wT0 := wT0_in (List.mem_append_right _ (List.mem_of_getElem? (i := 1449) (by decide +kernel))) rfl
theorem wp_39 : Cond.selects "WornSkinModel" ({ cls := "WornSkinModel", name := "isSign", desc := "(I)Z" } : Jvm.MethodName) ({ cls := "WornSkinModel", name := "isSign", desc := "(I)Z" } : Jvm.MethodName) ∈ wT0 := wT0_in (List.mem_append_left _ (List.mem_of_getElem? (i := 39) (by decide +kernel))) rfl
theorem wd_1396 : (Jvm.Cond.code ({ cls := "WornSkinModel", name := "fails", desc := "(I)Z" } : Jvm.MethodName) prog_13_method_10_code (2 : Nat) (Option.some Jvm.ClassFile.FieldType.boolean)) ∈ wT0 := wT0_in (List.mem_append_right _ (List.mem_of_getElem? (i := 1396) (by decide +kernel))) rfl
theorem wd_1393 : (Jvm.Cond.methodLink "WornSkinModel" (208 : Nat) ({ cls := "WornSkinModel", name := "fails", desc := "(I)Z" } : Jvm.MethodName)) ∈ wT0 := wT0_in (List.mem_append_right _ (List.mem_of_getElem? (i := 1393) (by decide +kernel))) rfl
theorem wd_1395 : (Jvm.Cond.instanceMethod ({ cls := "WornSkinModel", name := "fails", desc := "(I)Z" } : Jvm.MethodName)) ∈ wT0 := wT0_in (List.mem_append_right _ (List.mem_of_getElem? (i := 1395) (by decide +kernel))) rfl
theorem wp_31 : Cond.selects "WornSkinModel" ({ cls := "WornSkinModel", name := "fails", desc := "(I)Z" } : Jvm.MethodName) ({ cls := "WornSkinModel", name := "fails", desc := "(I)Z" } : Jvm.MethodName) ∈ wT0 := wT0_in (List.mem_append_left _ (List.mem_of_getElem? (i := 31) (by decide +kernel))) rfl
theorem wd_1486 : (Jvm.Cond.code ({ cls := "WornSkinModel", name := "puts", desc := "(I)V" } : Jvm.MethodName) prog_13_method_11_code (2 : Nat) (Option.none : Option Jvm.ClassFile.FieldType)) ∈ wT0 := wT0_in (List.mem_append_right _ (List.mem_of_getElem? (i := 1486) (by decide +kernel))) rfl
theorem wd_1483 : (Jvm.Cond.methodLink "WornSkinModel" (211 : Nat) ({ cls := "WornSkinModel", name := "puts", desc := "(I)V" } : Jvm.MethodName)) ∈ wT0 := wT0_in (List.mem_append_right _ (List.mem_of_getElem? (i := 1483) (by decide +kernel))) rfl
theorem wd_1485 : (Jvm.Cond.instanceMethod ({ cls := "WornSkinModel", name := "puts", desc := "(I)V" } : Jvm.MethodName)) ∈ wT0 := wT0_in (List.mem_append_right _ (List.mem_of_getElem? (i := 1485) (by decide +kernel))) rfl
theorem wp_47 : Cond.selects "WornSkinModel" ({ cls := "WornSkinModel", name := "puts", desc := "(I)V" } : Jvm.MethodName) ({ cls := "WornSkinModel", name := "puts", desc := "(I)V" } : Jvm.MethodName) ∈ wT0 := wT0_in (List.mem_append_left _ (List.mem_of_getElem? (i := 47) (by decide +kernel))) rfl
theorem wd_1377 : (Jvm.Cond.code ({ cls := "WornSkinModel", name := "nextToken", desc := "()V" } : Jvm.MethodName) prog_13_method_7_code (2 : Nat) (Option.none : Option Jvm.ClassFile.FieldType)) ∈ wT0 := wT0_in (List.mem_append_right _ (List.mem_of_getElem? (i := 1377) (by decide +kernel))) rfl
theorem wd_1374 : (Jvm.Cond.methodLink "WornSkinModel" (215 : Nat) ({ cls := "WornSkinModel", name := "nextToken", desc := "()V" } : Jvm.MethodName)) ∈ wT0 := wT0_in (List.mem_append_right _ (List.mem_of_getElem? (i := 1374) (by decide +kernel))) rfl
theorem wd_1376 : (Jvm.Cond.instanceMethod ({ cls := "WornSkinModel", name := "nextToken", desc := "()V" } : Jvm.MethodName)) ∈ wT0 := wT0_in (List.mem_append_right _ (List.mem_of_getElem? (i := 1376) (by decide +kernel))) rfl
theorem wp_27 : Cond.selects "WornSkinModel" ({ cls := "WornSkinModel", name := "nextToken", desc := "()V" } : Jvm.MethodName) ({ cls := "WornSkinModel", name := "nextToken", desc := "()V" } : Jvm.MethodName) ∈ wT0 := wT0_in (List.mem_append_left _ (List.mem_of_getElem? (i := 27) (by decide +kernel))) rfl
theorem wd_1552 : (Jvm.Cond.code ({ cls := "WornSkinModel", name := "sums", desc := "(I)V" } : Jvm.MethodName) prog_13_method_15_code (2 : Nat) (Option.none : Option Jvm.ClassFile.FieldType)) ∈ wT0 := wT0_in (List.mem_append_right _ (List.mem_of_getElem? (i := 1552) (by decide +kernel))) rfl
theorem wd_1549 : (Jvm.Cond.methodLink "WornSkinModel" (222 : Nat) ({ cls := "WornSkinModel", name := "sums", desc := "(I)V" } : Jvm.MethodName)) ∈ wT0 := wT0_in (List.mem_append_right _ (List.mem_of_getElem? (i := 1549) (by decide +kernel))) rfl
theorem wd_1551 : (Jvm.Cond.instanceMethod ({ cls := "WornSkinModel", name := "sums", desc := "(I)V" } : Jvm.MethodName)) ∈ wT0 := wT0_in (List.mem_append_right _ (List.mem_of_getElem? (i := 1551) (by decide +kernel))) rfl
theorem wp_60 : Cond.selects "WornSkinModel" ({ cls := "WornSkinModel", name := "sums", desc := "(I)V" } : Jvm.MethodName) ({ cls := "WornSkinModel", name := "sums", desc := "(I)V" } : Jvm.MethodName) ∈ wT0 := wT0_in (List.mem_append_left _ (List.mem_of_getElem? (i := 60) (by decide +kernel))) rfl
theorem wd_1548 : (Jvm.Cond.code ({ cls := "WornSkinModel", name := "opens", desc := "(I)V" } : Jvm.MethodName) prog_13_method_14_code (2 : Nat) (Option.none : Option Jvm.ClassFile.FieldType)) ∈ wT0 := wT0_in (List.mem_append_right _ (List.mem_of_getElem? (i := 1548) (by decide +kernel))) rfl
theorem wd_1545 : (Jvm.Cond.methodLink "WornSkinModel" (225 : Nat) ({ cls := "WornSkinModel", name := "opens", desc := "(I)V" } : Jvm.MethodName)) ∈ wT0 := wT0_in (List.mem_append_right _ (List.mem_of_getElem? (i := 1545) (by decide +kernel))) rfl
theorem wd_1547 : (Jvm.Cond.instanceMethod ({ cls := "WornSkinModel", name := "opens", desc := "(I)V" } : Jvm.MethodName)) ∈ wT0 := wT0_in (List.mem_append_right _ (List.mem_of_getElem? (i := 1547) (by decide +kernel))) rfl
theorem wp_59 : Cond.selects "WornSkinModel" ({ cls := "WornSkinModel", name := "opens", desc := "(I)V" } : Jvm.MethodName) ({ cls := "WornSkinModel", name := "opens", desc := "(I)V" } : Jvm.MethodName) ∈ wT0 := wT0_in (List.mem_append_left _ (List.mem_of_getElem? (i := 59) (by decide +kernel))) rfl
theorem wd_1556 : (Jvm.Cond.code ({ cls := "WornSkinModel", name := "tests", desc := "(I)V" } : Jvm.MethodName) prog_13_method_16_code (3 : Nat) (Option.none : Option Jvm.ClassFile.FieldType)) ∈ wT0 := wT0_in (List.mem_append_right _ (List.mem_of_getElem? (i := 1556) (by decide +kernel))) rfl
theorem wd_1553 : (Jvm.Cond.methodLink "WornSkinModel" (228 : Nat) ({ cls := "WornSkinModel", name := "tests", desc := "(I)V" } : Jvm.MethodName)) ∈ wT0 := wT0_in (List.mem_append_right _ (List.mem_of_getElem? (i := 1553) (by decide +kernel))) rfl
theorem wd_1555 : (Jvm.Cond.instanceMethod ({ cls := "WornSkinModel", name := "tests", desc := "(I)V" } : Jvm.MethodName)) ∈ wT0 := wT0_in (List.mem_append_right _ (List.mem_of_getElem? (i := 1555) (by decide +kernel))) rfl
theorem wp_61 : Cond.selects "WornSkinModel" ({ cls := "WornSkinModel", name := "tests", desc := "(I)V" } : Jvm.MethodName) ({ cls := "WornSkinModel", name := "tests", desc := "(I)V" } : Jvm.MethodName) ∈ wT0 := wT0_in (List.mem_append_left _ (List.mem_of_getElem? (i := 61) (by decide +kernel))) rfl
theorem wd_1442 : (Jvm.Cond.code ({ cls := "WornSkinModel", name := "within", desc := "(III)Z" } : Jvm.MethodName) prog_13_method_3_code (3 : Nat) (Option.some Jvm.ClassFile.FieldType.boolean)) ∈ wT0 := wT0_in (List.mem_append_right _ (List.mem_of_getElem? (i := 1442) (by decide +kernel))) rfl
theorem wd_1440 : (Jvm.Cond.methodLink "WornSkinModel" (265 : Nat) ({ cls := "WornSkinModel", name := "within", desc := "(III)Z" } : Jvm.MethodName)) ∈ wT0 := wT0_in (List.mem_append_right _ (List.mem_of_getElem? (i := 1440) (by decide +kernel))) rfl
theorem wd_1441 : (Jvm.Cond.static ({ cls := "WornSkinModel", name := "within", desc := "(III)Z" } : Jvm.MethodName)) ∈ wT0 := wT0_in (List.mem_append_right _ (List.mem_of_getElem? (i := 1441) (by decide +kernel))) rfl
theorem wd_1439 : (Jvm.Cond.code ({ cls := "WornSkinModel", name := "needsNumber", desc := "(II)Z" } : Jvm.MethodName) prog_13_method_21_code (3 : Nat) (Option.some Jvm.ClassFile.FieldType.boolean)) ∈ wT0 := wT0_in (List.mem_append_right _ (List.mem_of_getElem? (i := 1439) (by decide +kernel))) rfl
theorem wd_1436 : (Jvm.Cond.methodLink "WornSkinModel" (272 : Nat) ({ cls := "WornSkinModel", name := "needsNumber", desc := "(II)Z" } : Jvm.MethodName)) ∈ wT0 := wT0_in (List.mem_append_right _ (List.mem_of_getElem? (i := 1436) (by decide +kernel))) rfl
theorem wd_1438 : (Jvm.Cond.instanceMethod ({ cls := "WornSkinModel", name := "needsNumber", desc := "(II)Z" } : Jvm.MethodName)) ∈ wT0 := wT0_in (List.mem_append_right _ (List.mem_of_getElem? (i := 1438) (by decide +kernel))) rfl
theorem wp_37 : Cond.selects "WornSkinModel" ({ cls := "WornSkinModel", name := "needsNumber", desc := "(II)Z" } : Jvm.MethodName) ({ cls := "WornSkinModel", name := "needsNumber", desc := "(II)Z" } : Jvm.MethodName) ∈ wT0 := wT0_in (List.mem_append_left _ (List.mem_of_getElem? (i := 37) (by decide +kernel))) rfl
theorem wd_1404 : (Jvm.Cond.code ({ cls := "WornSkinModel", name := "isKept", desc := "()Z" } : Jvm.MethodName) prog_13_method_18_code (1 : Nat) (Option.some Jvm.ClassFile.FieldType.boolean)) ∈ wT0 := wT0_in (List.mem_append_right _ (List.mem_of_getElem? (i := 1404) (by decide +kernel))) rfl
theorem wd_1401 : (Jvm.Cond.methodLink "WornSkinModel" (276 : Nat) ({ cls := "WornSkinModel", name := "isKept", desc := "()Z" } : Jvm.MethodName)) ∈ wT0 := wT0_in (List.mem_append_right _ (List.mem_of_getElem? (i := 1401) (by decide +kernel))) rfl
theorem wd_1403 : (Jvm.Cond.instanceMethod ({ cls := "WornSkinModel", name := "isKept", desc := "()Z" } : Jvm.MethodName)) ∈ wT0 := wT0_in (List.mem_append_right _ (List.mem_of_getElem? (i := 1403) (by decide +kernel))) rfl
theorem wp_33 : Cond.selects "WornSkinModel" ({ cls := "WornSkinModel", name := "isKept", desc := "()Z" } : Jvm.MethodName) ({ cls := "WornSkinModel", name := "isKept", desc := "()Z" } : Jvm.MethodName) ∈ wT0 := wT0_in (List.mem_append_left _ (List.mem_of_getElem? (i := 33) (by decide +kernel))) rfl
theorem wd_1427 : (Jvm.Cond.code ({ cls := "WornSkinModel", name := "skinNamed", desc := "(I)I" } : Jvm.MethodName) prog_13_method_19_code (3 : Nat) (Option.some Jvm.ClassFile.FieldType.int)) ∈ wT0 := wT0_in (List.mem_append_right _ (List.mem_of_getElem? (i := 1427) (by decide +kernel))) rfl
theorem wd_1424 : (Jvm.Cond.methodLink "WornSkinModel" (280 : Nat) ({ cls := "WornSkinModel", name := "skinNamed", desc := "(I)I" } : Jvm.MethodName)) ∈ wT0 := wT0_in (List.mem_append_right _ (List.mem_of_getElem? (i := 1424) (by decide +kernel))) rfl
theorem wd_1426 : (Jvm.Cond.instanceMethod ({ cls := "WornSkinModel", name := "skinNamed", desc := "(I)I" } : Jvm.MethodName)) ∈ wT0 := wT0_in (List.mem_append_right _ (List.mem_of_getElem? (i := 1426) (by decide +kernel))) rfl
theorem wp_34 : Cond.selects "WornSkinModel" ({ cls := "WornSkinModel", name := "skinNamed", desc := "(I)I" } : Jvm.MethodName) ({ cls := "WornSkinModel", name := "skinNamed", desc := "(I)I" } : Jvm.MethodName) ∈ wT0 := wT0_in (List.mem_append_left _ (List.mem_of_getElem? (i := 34) (by decide +kernel))) rfl
theorem wd_1431 : (Jvm.Cond.code ({ cls := "WornSkinModel", name := "textNamed", desc := "(I)I" } : Jvm.MethodName) prog_13_method_20_code (3 : Nat) (Option.some Jvm.ClassFile.FieldType.int)) ∈ wT0 := wT0_in (List.mem_append_right _ (List.mem_of_getElem? (i := 1431) (by decide +kernel))) rfl
theorem wd_1428 : (Jvm.Cond.methodLink "WornSkinModel" (283 : Nat) ({ cls := "WornSkinModel", name := "textNamed", desc := "(I)I" } : Jvm.MethodName)) ∈ wT0 := wT0_in (List.mem_append_right _ (List.mem_of_getElem? (i := 1428) (by decide +kernel))) rfl
theorem wd_1430 : (Jvm.Cond.instanceMethod ({ cls := "WornSkinModel", name := "textNamed", desc := "(I)I" } : Jvm.MethodName)) ∈ wT0 := wT0_in (List.mem_append_right _ (List.mem_of_getElem? (i := 1430) (by decide +kernel))) rfl
theorem wp_35 : Cond.selects "WornSkinModel" ({ cls := "WornSkinModel", name := "textNamed", desc := "(I)I" } : Jvm.MethodName) ({ cls := "WornSkinModel", name := "textNamed", desc := "(I)I" } : Jvm.MethodName) ∈ wT0 := wT0_in (List.mem_append_left _ (List.mem_of_getElem? (i := 35) (by decide +kernel))) rfl
theorem wd_1400 : (Jvm.Cond.code ({ cls := "WornSkinModel", name := "needsNew", desc := "()Z" } : Jvm.MethodName) prog_13_method_24_code (1 : Nat) (Option.some Jvm.ClassFile.FieldType.boolean)) ∈ wT0 := wT0_in (List.mem_append_right _ (List.mem_of_getElem? (i := 1400) (by decide +kernel))) rfl
theorem wd_1397 : (Jvm.Cond.methodLink "WornSkinModel" (289 : Nat) ({ cls := "WornSkinModel", name := "needsNew", desc := "()Z" } : Jvm.MethodName)) ∈ wT0 := wT0_in (List.mem_append_right _ (List.mem_of_getElem? (i := 1397) (by decide +kernel))) rfl
theorem wd_1399 : (Jvm.Cond.instanceMethod ({ cls := "WornSkinModel", name := "needsNew", desc := "()Z" } : Jvm.MethodName)) ∈ wT0 := wT0_in (List.mem_append_right _ (List.mem_of_getElem? (i := 1399) (by decide +kernel))) rfl
theorem wp_32 : Cond.selects "WornSkinModel" ({ cls := "WornSkinModel", name := "needsNew", desc := "()Z" } : Jvm.MethodName) ({ cls := "WornSkinModel", name := "needsNew", desc := "()Z" } : Jvm.MethodName) ∈ wT0 := wT0_in (List.mem_append_left _ (List.mem_of_getElem? (i := 32) (by decide +kernel))) rfl
theorem wd_1435 : (Jvm.Cond.code ({ cls := "WornSkinModel", name := "needsBoth", desc := "(JII)Z" } : Jvm.MethodName) prog_13_method_22_code (5 : Nat) (Option.some Jvm.ClassFile.FieldType.boolean)) ∈ wT0 := wT0_in (List.mem_append_right _ (List.mem_of_getElem? (i := 1435) (by decide +kernel))) rfl
theorem wd_1432 : (Jvm.Cond.methodLink "WornSkinModel" (292 : Nat) ({ cls := "WornSkinModel", name := "needsBoth", desc := "(JII)Z" } : Jvm.MethodName)) ∈ wT0 := wT0_in (List.mem_append_right _ (List.mem_of_getElem? (i := 1432) (by decide +kernel))) rfl
theorem wd_1434 : (Jvm.Cond.instanceMethod ({ cls := "WornSkinModel", name := "needsBoth", desc := "(JII)Z" } : Jvm.MethodName)) ∈ wT0 := wT0_in (List.mem_append_right _ (List.mem_of_getElem? (i := 1434) (by decide +kernel))) rfl
theorem wp_36 : Cond.selects "WornSkinModel" ({ cls := "WornSkinModel", name := "needsBoth", desc := "(JII)Z" } : Jvm.MethodName) ({ cls := "WornSkinModel", name := "needsBoth", desc := "(JII)Z" } : Jvm.MethodName) ∈ wT0 := wT0_in (List.mem_append_left _ (List.mem_of_getElem? (i := 36) (by decide +kernel))) rfl
theorem wd_1446 : (Jvm.Cond.code ({ cls := "WornSkinModel", name := "closes", desc := "()Z" } : Jvm.MethodName) prog_13_method_23_code (1 : Nat) (Option.some Jvm.ClassFile.FieldType.boolean)) ∈ wT0 := wT0_in (List.mem_append_right _ (List.mem_of_getElem? (i := 1446) (by decide +kernel))) rfl
theorem wd_1443 : (Jvm.Cond.methodLink "WornSkinModel" (296 : Nat) ({ cls := "WornSkinModel", name := "closes", desc := "()Z" } : Jvm.MethodName)) ∈ wT0 := wT0_in (List.mem_append_right _ (List.mem_of_getElem? (i := 1443) (by decide +kernel))) rfl
theorem wd_1445 : (Jvm.Cond.instanceMethod ({ cls := "WornSkinModel", name := "closes", desc := "()Z" } : Jvm.MethodName)) ∈ wT0 := wT0_in (List.mem_append_right _ (List.mem_of_getElem? (i := 1445) (by decide +kernel))) rfl
theorem wp_38 : Cond.selects "WornSkinModel" ({ cls := "WornSkinModel", name := "closes", desc := "()Z" } : Jvm.MethodName) ({ cls := "WornSkinModel", name := "closes", desc := "()Z" } : Jvm.MethodName) ∈ wT0 := wT0_in (List.mem_append_left _ (List.mem_of_getElem? (i := 38) (by decide +kernel))) rfl
theorem wd_1458 : (Jvm.Cond.code ({ cls := "WornSkinModel", name := "needsSkin", desc := "(I)Z" } : Jvm.MethodName) prog_13_method_25_code (2 : Nat) (Option.some Jvm.ClassFile.FieldType.boolean)) ∈ wT0 := wT0_in (List.mem_append_right _ (List.mem_of_getElem? (i := 1458) (by decide +kernel))) rfl
theorem wd_1455 : (Jvm.Cond.methodLink "WornSkinModel" (299 : Nat) ({ cls := "WornSkinModel", name := "needsSkin", desc := "(I)Z" } : Jvm.MethodName)) ∈ wT0 := wT0_in (List.mem_append_right _ (List.mem_of_getElem? (i := 1455) (by decide +kernel))) rfl
theorem wd_1457 : (Jvm.Cond.instanceMethod ({ cls := "WornSkinModel", name := "needsSkin", desc := "(I)Z" } : Jvm.MethodName)) ∈ wT0 := wT0_in (List.mem_append_right _ (List.mem_of_getElem? (i := 1457) (by decide +kernel))) rfl
theorem wp_41 : Cond.selects "WornSkinModel" ({ cls := "WornSkinModel", name := "needsSkin", desc := "(I)Z" } : Jvm.MethodName) ({ cls := "WornSkinModel", name := "needsSkin", desc := "(I)Z" } : Jvm.MethodName) ∈ wT0 := wT0_in (List.mem_append_left _ (List.mem_of_getElem? (i := 41) (by decide +kernel))) rfl
theorem wd_1474 : (Jvm.Cond.code ({ cls := "WornSkinModel", name := "reads", desc := "()Z" } : Jvm.MethodName) prog_13_method_13_code (6 : Nat) (Option.some Jvm.ClassFile.FieldType.boolean)) ∈ wT0 := wT0_in (List.mem_append_right _ (List.mem_of_getElem? (i := 1474) (by decide +kernel))) rfl
theorem wd_1471 : (Jvm.Cond.methodLink "WornSkinModel" (302 : Nat) ({ cls := "WornSkinModel", name := "reads", desc := "()Z" } : Jvm.MethodName)) ∈ wT0 := wT0_in (List.mem_append_right _ (List.mem_of_getElem? (i := 1471) (by decide +kernel))) rfl
theorem wd_1473 : (Jvm.Cond.instanceMethod ({ cls := "WornSkinModel", name := "reads", desc := "()Z" } : Jvm.MethodName)) ∈ wT0 := wT0_in (List.mem_append_right _ (List.mem_of_getElem? (i := 1473) (by decide +kernel))) rfl
theorem wp_45 : Cond.selects "WornSkinModel" ({ cls := "WornSkinModel", name := "reads", desc := "()Z" } : Jvm.MethodName) ({ cls := "WornSkinModel", name := "reads", desc := "()Z" } : Jvm.MethodName) ∈ wT0 := wT0_in (List.mem_append_left _ (List.mem_of_getElem? (i := 45) (by decide +kernel))) rfl
theorem wd_1373 : (Jvm.Cond.code ({ cls := "WornSkinModel", name := "begins", desc := "()V" } : Jvm.MethodName) prog_13_method_32_code (1 : Nat) (Option.none : Option Jvm.ClassFile.FieldType)) ∈ wT0 := wT0_in (List.mem_append_right _ (List.mem_of_getElem? (i := 1373) (by decide +kernel))) rfl
theorem wd_1370 : (Jvm.Cond.methodLink "WornSkinModel" (305 : Nat) ({ cls := "WornSkinModel", name := "begins", desc := "()V" } : Jvm.MethodName)) ∈ wT0 := wT0_in (List.mem_append_right _ (List.mem_of_getElem? (i := 1370) (by decide +kernel))) rfl
theorem wd_1372 : (Jvm.Cond.instanceMethod ({ cls := "WornSkinModel", name := "begins", desc := "()V" } : Jvm.MethodName)) ∈ wT0 := wT0_in (List.mem_append_right _ (List.mem_of_getElem? (i := 1372) (by decide +kernel))) rfl
theorem wp_26 : Cond.selects "WornSkinModel" ({ cls := "WornSkinModel", name := "begins", desc := "()V" } : Jvm.MethodName) ({ cls := "WornSkinModel", name := "begins", desc := "()V" } : Jvm.MethodName) ∈ wT0 := wT0_in (List.mem_append_left _ (List.mem_of_getElem? (i := 26) (by decide +kernel))) rfl
theorem wd_1392 : (Jvm.Cond.code ({ cls := "WornSkinModel", name := "readsSkin", desc := "()Z" } : Jvm.MethodName) prog_13_method_27_code (2 : Nat) (Option.some Jvm.ClassFile.FieldType.boolean)) ∈ wT0 := wT0_in (List.mem_append_right _ (List.mem_of_getElem? (i := 1392) (by decide +kernel))) rfl
theorem wd_1389 : (Jvm.Cond.methodLink "WornSkinModel" (308 : Nat) ({ cls := "WornSkinModel", name := "readsSkin", desc := "()Z" } : Jvm.MethodName)) ∈ wT0 := wT0_in (List.mem_append_right _ (List.mem_of_getElem? (i := 1389) (by decide +kernel))) rfl
theorem wd_1391 : (Jvm.Cond.instanceMethod ({ cls := "WornSkinModel", name := "readsSkin", desc := "()Z" } : Jvm.MethodName)) ∈ wT0 := wT0_in (List.mem_append_right _ (List.mem_of_getElem? (i := 1391) (by decide +kernel))) rfl
theorem wp_30 : Cond.selects "WornSkinModel" ({ cls := "WornSkinModel", name := "readsSkin", desc := "()Z" } : Jvm.MethodName) ({ cls := "WornSkinModel", name := "readsSkin", desc := "()Z" } : Jvm.MethodName) ∈ wT0 := wT0_in (List.mem_append_left _ (List.mem_of_getElem? (i := 30) (by decide +kernel))) rfl
theorem wd_1454 : (Jvm.Cond.code ({ cls := "WornSkinModel", name := "readsHole", desc := "()Z" } : Jvm.MethodName) prog_13_method_28_code (2 : Nat) (Option.some Jvm.ClassFile.FieldType.boolean)) ∈ wT0 := wT0_in (List.mem_append_right _ (List.mem_of_getElem? (i := 1454) (by decide +kernel))) rfl
theorem wd_1451 : (Jvm.Cond.methodLink "WornSkinModel" (311 : Nat) ({ cls := "WornSkinModel", name := "readsHole", desc := "()Z" } : Jvm.MethodName)) ∈ wT0 := wT0_in (List.mem_append_right _ (List.mem_of_getElem? (i := 1451) (by decide +kernel))) rfl
theorem wd_1453 : (Jvm.Cond.instanceMethod ({ cls := "WornSkinModel", name := "readsHole", desc := "()Z" } : Jvm.MethodName)) ∈ wT0 := wT0_in (List.mem_append_right _ (List.mem_of_getElem? (i := 1453) (by decide +kernel))) rfl
theorem wp_40 : Cond.selects "WornSkinModel" ({ cls := "WornSkinModel", name := "readsHole", desc := "()Z" } : Jvm.MethodName) ({ cls := "WornSkinModel", name := "readsHole", desc := "()Z" } : Jvm.MethodName) ∈ wT0 := wT0_in (List.mem_append_left _ (List.mem_of_getElem? (i := 40) (by decide +kernel))) rfl
theorem wd_1462 : (Jvm.Cond.code ({ cls := "WornSkinModel", name := "readsText", desc := "()Z" } : Jvm.MethodName) prog_13_method_29_code (2 : Nat) (Option.some Jvm.ClassFile.FieldType.boolean)) ∈ wT0 := wT0_in (List.mem_append_right _ (List.mem_of_getElem? (i := 1462) (by decide +kernel))) rfl
theorem wd_1459 : (Jvm.Cond.methodLink "WornSkinModel" (314 : Nat) ({ cls := "WornSkinModel", name := "readsText", desc := "()Z" } : Jvm.MethodName)) ∈ wT0 := wT0_in (List.mem_append_right _ (List.mem_of_getElem? (i := 1459) (by decide +kernel))) rfl
theorem wd_1461 : (Jvm.Cond.instanceMethod ({ cls := "WornSkinModel", name := "readsText", desc := "()Z" } : Jvm.MethodName)) ∈ wT0 := wT0_in (List.mem_append_right _ (List.mem_of_getElem? (i := 1461) (by decide +kernel))) rfl
theorem wp_42 : Cond.selects "WornSkinModel" ({ cls := "WornSkinModel", name := "readsText", desc := "()Z" } : Jvm.MethodName) ({ cls := "WornSkinModel", name := "readsText", desc := "()Z" } : Jvm.MethodName) ∈ wT0 := wT0_in (List.mem_append_left _ (List.mem_of_getElem? (i := 42) (by decide +kernel))) rfl
theorem wd_1466 : (Jvm.Cond.code ({ cls := "WornSkinModel", name := "readsDamp", desc := "()Z" } : Jvm.MethodName) prog_13_method_30_code (1 : Nat) (Option.some Jvm.ClassFile.FieldType.boolean)) ∈ wT0 := wT0_in (List.mem_append_right _ (List.mem_of_getElem? (i := 1466) (by decide +kernel))) rfl
theorem wd_1463 : (Jvm.Cond.methodLink "WornSkinModel" (317 : Nat) ({ cls := "WornSkinModel", name := "readsDamp", desc := "()Z" } : Jvm.MethodName)) ∈ wT0 := wT0_in (List.mem_append_right _ (List.mem_of_getElem? (i := 1463) (by decide +kernel))) rfl
theorem wd_1465 : (Jvm.Cond.instanceMethod ({ cls := "WornSkinModel", name := "readsDamp", desc := "()Z" } : Jvm.MethodName)) ∈ wT0 := wT0_in (List.mem_append_right _ (List.mem_of_getElem? (i := 1465) (by decide +kernel))) rfl
theorem wp_43 : Cond.selects "WornSkinModel" ({ cls := "WornSkinModel", name := "readsDamp", desc := "()Z" } : Jvm.MethodName) ({ cls := "WornSkinModel", name := "readsDamp", desc := "()Z" } : Jvm.MethodName) ∈ wT0 := wT0_in (List.mem_append_left _ (List.mem_of_getElem? (i := 43) (by decide +kernel))) rfl
theorem wd_1470 : (Jvm.Cond.code ({ cls := "WornSkinModel", name := "readsShows", desc := "()Z" } : Jvm.MethodName) prog_13_method_31_code (1 : Nat) (Option.some Jvm.ClassFile.FieldType.boolean)) ∈ wT0 := wT0_in (List.mem_append_right _ (List.mem_of_getElem? (i := 1470) (by decide +kernel))) rfl
theorem wd_1467 : (Jvm.Cond.methodLink "WornSkinModel" (320 : Nat) ({ cls := "WornSkinModel", name := "readsShows", desc := "()Z" } : Jvm.MethodName)) ∈ wT0 := wT0_in (List.mem_append_right _ (List.mem_of_getElem? (i := 1467) (by decide +kernel))) rfl
theorem wd_1469 : (Jvm.Cond.instanceMethod ({ cls := "WornSkinModel", name := "readsShows", desc := "()Z" } : Jvm.MethodName)) ∈ wT0 := wT0_in (List.mem_append_right _ (List.mem_of_getElem? (i := 1469) (by decide +kernel))) rfl
theorem wp_44 : Cond.selects "WornSkinModel" ({ cls := "WornSkinModel", name := "readsShows", desc := "()Z" } : Jvm.MethodName) ({ cls := "WornSkinModel", name := "readsShows", desc := "()Z" } : Jvm.MethodName) ∈ wT0 := wT0_in (List.mem_append_left _ (List.mem_of_getElem? (i := 44) (by decide +kernel))) rfl
theorem wd_1493 : (Jvm.Cond.code ({ cls := "WornSkinModel", name := "shifts", desc := "([II)V" } : Jvm.MethodName) prog_13_method_34_code (3 : Nat) (Option.none : Option Jvm.ClassFile.FieldType)) ∈ wT0 := wT0_in (List.mem_append_right _ (List.mem_of_getElem? (i := 1493) (by decide +kernel))) rfl
theorem wd_1491 : (Jvm.Cond.methodLink "WornSkinModel" (323 : Nat) ({ cls := "WornSkinModel", name := "shifts", desc := "([II)V" } : Jvm.MethodName)) ∈ wT0 := wT0_in (List.mem_append_right _ (List.mem_of_getElem? (i := 1491) (by decide +kernel))) rfl
theorem wd_1492 : (Jvm.Cond.static ({ cls := "WornSkinModel", name := "shifts", desc := "([II)V" } : Jvm.MethodName)) ∈ wT0 := wT0_in (List.mem_append_right _ (List.mem_of_getElem? (i := 1492) (by decide +kernel))) rfl
theorem wd_1496 : (Jvm.Cond.code ({ cls := "WornSkinModel", name := "shiftsNames", desc := "([JI)V" } : Jvm.MethodName) prog_13_method_35_code (3 : Nat) (Option.none : Option Jvm.ClassFile.FieldType)) ∈ wT0 := wT0_in (List.mem_append_right _ (List.mem_of_getElem? (i := 1496) (by decide +kernel))) rfl
theorem wd_1494 : (Jvm.Cond.methodLink "WornSkinModel" (327 : Nat) ({ cls := "WornSkinModel", name := "shiftsNames", desc := "([JI)V" } : Jvm.MethodName)) ∈ wT0 := wT0_in (List.mem_append_right _ (List.mem_of_getElem? (i := 1494) (by decide +kernel))) rfl
theorem wd_1495 : (Jvm.Cond.static ({ cls := "WornSkinModel", name := "shiftsNames", desc := "([JI)V" } : Jvm.MethodName)) ∈ wT0 := wT0_in (List.mem_append_right _ (List.mem_of_getElem? (i := 1495) (by decide +kernel))) rfl
theorem wd_1512 : (Jvm.Cond.code ({ cls := "WornSkinModel", name := "needsText", desc := "()Z" } : Jvm.MethodName) prog_13_method_26_code (1 : Nat) (Option.some Jvm.ClassFile.FieldType.boolean)) ∈ wT0 := wT0_in (List.mem_append_right _ (List.mem_of_getElem? (i := 1512) (by decide +kernel))) rfl
theorem wd_1509 : (Jvm.Cond.methodLink "WornSkinModel" (331 : Nat) ({ cls := "WornSkinModel", name := "needsText", desc := "()Z" } : Jvm.MethodName)) ∈ wT0 := wT0_in (List.mem_append_right _ (List.mem_of_getElem? (i := 1509) (by decide +kernel))) rfl
theorem wd_1511 : (Jvm.Cond.instanceMethod ({ cls := "WornSkinModel", name := "needsText", desc := "()Z" } : Jvm.MethodName)) ∈ wT0 := wT0_in (List.mem_append_right _ (List.mem_of_getElem? (i := 1511) (by decide +kernel))) rfl
theorem wp_51 : Cond.selects "WornSkinModel" ({ cls := "WornSkinModel", name := "needsText", desc := "()Z" } : Jvm.MethodName) ({ cls := "WornSkinModel", name := "needsText", desc := "()Z" } : Jvm.MethodName) ∈ wT0 := wT0_in (List.mem_append_left _ (List.mem_of_getElem? (i := 51) (by decide +kernel))) rfl
theorem wd_1369 : (Jvm.Cond.code ({ cls := "WornSkinModel", name := "readsAll", desc := "()Z" } : Jvm.MethodName) prog_13_method_33_code (2 : Nat) (Option.some Jvm.ClassFile.FieldType.boolean)) ∈ wT0 := wT0_in (List.mem_append_right _ (List.mem_of_getElem? (i := 1369) (by decide +kernel))) rfl
theorem wd_1366 : (Jvm.Cond.methodLink "WornSkinModel" (334 : Nat) ({ cls := "WornSkinModel", name := "readsAll", desc := "()Z" } : Jvm.MethodName)) ∈ wT0 := wT0_in (List.mem_append_right _ (List.mem_of_getElem? (i := 1366) (by decide +kernel))) rfl
theorem wd_1368 : (Jvm.Cond.instanceMethod ({ cls := "WornSkinModel", name := "readsAll", desc := "()Z" } : Jvm.MethodName)) ∈ wT0 := wT0_in (List.mem_append_right _ (List.mem_of_getElem? (i := 1368) (by decide +kernel))) rfl
theorem wp_25 : Cond.selects "WornSkinModel" ({ cls := "WornSkinModel", name := "readsAll", desc := "()Z" } : Jvm.MethodName) ({ cls := "WornSkinModel", name := "readsAll", desc := "()Z" } : Jvm.MethodName) ∈ wT0 := wT0_in (List.mem_append_left _ (List.mem_of_getElem? (i := 25) (by decide +kernel))) rfl
theorem wd_1490 : (Jvm.Cond.code ({ cls := "WornSkinModel", name := "lays", desc := "()V" } : Jvm.MethodName) prog_13_method_36_code (1 : Nat) (Option.none : Option Jvm.ClassFile.FieldType)) ∈ wT0 := wT0_in (List.mem_append_right _ (List.mem_of_getElem? (i := 1490) (by decide +kernel))) rfl
theorem wd_1487 : (Jvm.Cond.methodLink "WornSkinModel" (337 : Nat) ({ cls := "WornSkinModel", name := "lays", desc := "()V" } : Jvm.MethodName)) ∈ wT0 := wT0_in (List.mem_append_right _ (List.mem_of_getElem? (i := 1487) (by decide +kernel))) rfl
theorem wd_1489 : (Jvm.Cond.instanceMethod ({ cls := "WornSkinModel", name := "lays", desc := "()V" } : Jvm.MethodName)) ∈ wT0 := wT0_in (List.mem_append_right _ (List.mem_of_getElem? (i := 1489) (by decide +kernel))) rfl
theorem wp_48 : Cond.selects "WornSkinModel" ({ cls := "WornSkinModel", name := "lays", desc := "()V" } : Jvm.MethodName) ({ cls := "WornSkinModel", name := "lays", desc := "()V" } : Jvm.MethodName) ∈ wT0 := wT0_in (List.mem_append_left _ (List.mem_of_getElem? (i := 48) (by decide +kernel))) rfl
theorem wd_1500 : (Jvm.Cond.code ({ cls := "WornSkinModel", name := "fresh0", desc := "()V" } : Jvm.MethodName) prog_13_method_41_code (2 : Nat) (Option.none : Option Jvm.ClassFile.FieldType)) ∈ wT0 := wT0_in (List.mem_append_right _ (List.mem_of_getElem? (i := 1500) (by decide +kernel))) rfl
theorem wd_1497 : (Jvm.Cond.methodLink "WornSkinModel" (340 : Nat) ({ cls := "WornSkinModel", name := "fresh0", desc := "()V" } : Jvm.MethodName)) ∈ wT0 := wT0_in (List.mem_append_right _ (List.mem_of_getElem? (i := 1497) (by decide +kernel))) rfl
theorem wd_1499 : (Jvm.Cond.instanceMethod ({ cls := "WornSkinModel", name := "fresh0", desc := "()V" } : Jvm.MethodName)) ∈ wT0 := wT0_in (List.mem_append_right _ (List.mem_of_getElem? (i := 1499) (by decide +kernel))) rfl
theorem wp_49 : Cond.selects "WornSkinModel" ({ cls := "WornSkinModel", name := "fresh0", desc := "()V" } : Jvm.MethodName) ({ cls := "WornSkinModel", name := "fresh0", desc := "()V" } : Jvm.MethodName) ∈ wT0 := wT0_in (List.mem_append_left _ (List.mem_of_getElem? (i := 49) (by decide +kernel))) rfl
theorem wd_1508 : (Jvm.Cond.code ({ cls := "WornSkinModel", name := "readsLine", desc := "()Z" } : Jvm.MethodName) prog_13_method_38_code (3 : Nat) (Option.some Jvm.ClassFile.FieldType.boolean)) ∈ wT0 := wT0_in (List.mem_append_right _ (List.mem_of_getElem? (i := 1508) (by decide +kernel))) rfl
theorem wd_1505 : (Jvm.Cond.methodLink "WornSkinModel" (346 : Nat) ({ cls := "WornSkinModel", name := "readsLine", desc := "()Z" } : Jvm.MethodName)) ∈ wT0 := wT0_in (List.mem_append_right _ (List.mem_of_getElem? (i := 1505) (by decide +kernel))) rfl
theorem wd_1507 : (Jvm.Cond.instanceMethod ({ cls := "WornSkinModel", name := "readsLine", desc := "()Z" } : Jvm.MethodName)) ∈ wT0 := wT0_in (List.mem_append_right _ (List.mem_of_getElem? (i := 1507) (by decide +kernel))) rfl
theorem wp_50 : Cond.selects "WornSkinModel" ({ cls := "WornSkinModel", name := "readsLine", desc := "()Z" } : Jvm.MethodName) ({ cls := "WornSkinModel", name := "readsLine", desc := "()Z" } : Jvm.MethodName) ∈ wT0 := wT0_in (List.mem_append_left _ (List.mem_of_getElem? (i := 50) (by decide +kernel))) rfl
theorem wd_1516 : (Jvm.Cond.code ({ cls := "WornSkinModel", name := "laysLines", desc := "(II)V" } : Jvm.MethodName) prog_13_method_39_code (4 : Nat) (Option.none : Option Jvm.ClassFile.FieldType)) ∈ wT0 := wT0_in (List.mem_append_right _ (List.mem_of_getElem? (i := 1516) (by decide +kernel))) rfl
theorem wd_1513 : (Jvm.Cond.methodLink "WornSkinModel" (349 : Nat) ({ cls := "WornSkinModel", name := "laysLines", desc := "(II)V" } : Jvm.MethodName)) ∈ wT0 := wT0_in (List.mem_append_right _ (List.mem_of_getElem? (i := 1513) (by decide +kernel))) rfl
theorem wd_1515 : (Jvm.Cond.instanceMethod ({ cls := "WornSkinModel", name := "laysLines", desc := "(II)V" } : Jvm.MethodName)) ∈ wT0 := wT0_in (List.mem_append_right _ (List.mem_of_getElem? (i := 1515) (by decide +kernel))) rfl
theorem wp_52 : Cond.selects "WornSkinModel" ({ cls := "WornSkinModel", name := "laysLines", desc := "(II)V" } : Jvm.MethodName) ({ cls := "WornSkinModel", name := "laysLines", desc := "(II)V" } : Jvm.MethodName) ∈ wT0 := wT0_in (List.mem_append_left _ (List.mem_of_getElem? (i := 52) (by decide +kernel))) rfl
theorem wd_1524 : (Jvm.Cond.code ({ cls := "WornSkinModel", name := "isSkin", desc := "(I)Z" } : Jvm.MethodName) prog_13_method_44_code (2 : Nat) (Option.some Jvm.ClassFile.FieldType.boolean)) ∈ wT0 := wT0_in (List.mem_append_right _ (List.mem_of_getElem? (i := 1524) (by decide +kernel))) rfl
theorem wd_1521 : (Jvm.Cond.methodLink "WornSkinModel" (353 : Nat) ({ cls := "WornSkinModel", name := "isSkin", desc := "(I)Z" } : Jvm.MethodName)) ∈ wT0 := wT0_in (List.mem_append_right _ (List.mem_of_getElem? (i := 1521) (by decide +kernel))) rfl
theorem wd_1523 : (Jvm.Cond.instanceMethod ({ cls := "WornSkinModel", name := "isSkin", desc := "(I)Z" } : Jvm.MethodName)) ∈ wT0 := wT0_in (List.mem_append_right _ (List.mem_of_getElem? (i := 1523) (by decide +kernel))) rfl
theorem wp_53 : Cond.selects "WornSkinModel" ({ cls := "WornSkinModel", name := "isSkin", desc := "(I)Z" } : Jvm.MethodName) ({ cls := "WornSkinModel", name := "isSkin", desc := "(I)Z" } : Jvm.MethodName) ∈ wT0 := wT0_in (List.mem_append_left _ (List.mem_of_getElem? (i := 53) (by decide +kernel))) rfl
theorem wd_1544 : (Jvm.Cond.code ({ cls := "WornSkinModel", name := "worked", desc := "(I)I" } : Jvm.MethodName) prog_13_method_17_code (6 : Nat) (Option.some Jvm.ClassFile.FieldType.int)) ∈ wT0 := wT0_in (List.mem_append_right _ (List.mem_of_getElem? (i := 1544) (by decide +kernel))) rfl
theorem wd_1541 : (Jvm.Cond.methodLink "WornSkinModel" (356 : Nat) ({ cls := "WornSkinModel", name := "worked", desc := "(I)I" } : Jvm.MethodName)) ∈ wT0 := wT0_in (List.mem_append_right _ (List.mem_of_getElem? (i := 1541) (by decide +kernel))) rfl
theorem wd_1543 : (Jvm.Cond.instanceMethod ({ cls := "WornSkinModel", name := "worked", desc := "(I)I" } : Jvm.MethodName)) ∈ wT0 := wT0_in (List.mem_append_right _ (List.mem_of_getElem? (i := 1543) (by decide +kernel))) rfl
theorem wp_58 : Cond.selects "WornSkinModel" ({ cls := "WornSkinModel", name := "worked", desc := "(I)I" } : Jvm.MethodName) ({ cls := "WornSkinModel", name := "worked", desc := "(I)I" } : Jvm.MethodName) ∈ wT0 := wT0_in (List.mem_append_left _ (List.mem_of_getElem? (i := 58) (by decide +kernel))) rfl
theorem wd_1540 : (Jvm.Cond.code ({ cls := "WornSkinModel", name := "showsBy", desc := "(IIII)Z" } : Jvm.MethodName) prog_13_method_49_code (7 : Nat) (Option.some Jvm.ClassFile.FieldType.boolean)) ∈ wT0 := wT0_in (List.mem_append_right _ (List.mem_of_getElem? (i := 1540) (by decide +kernel))) rfl
theorem wd_1537 : (Jvm.Cond.methodLink "WornSkinModel" (359 : Nat) ({ cls := "WornSkinModel", name := "showsBy", desc := "(IIII)Z" } : Jvm.MethodName)) ∈ wT0 := wT0_in (List.mem_append_right _ (List.mem_of_getElem? (i := 1537) (by decide +kernel))) rfl
theorem wd_1539 : (Jvm.Cond.instanceMethod ({ cls := "WornSkinModel", name := "showsBy", desc := "(IIII)Z" } : Jvm.MethodName)) ∈ wT0 := wT0_in (List.mem_append_right _ (List.mem_of_getElem? (i := 1539) (by decide +kernel))) rfl
theorem wp_57 : Cond.selects "WornSkinModel" ({ cls := "WornSkinModel", name := "showsBy", desc := "(IIII)Z" } : Jvm.MethodName) ({ cls := "WornSkinModel", name := "showsBy", desc := "(IIII)Z" } : Jvm.MethodName) ∈ wT0 := wT0_in (List.mem_append_left _ (List.mem_of_getElem? (i := 57) (by decide +kernel))) rfl
theorem wd_1536 : (Jvm.Cond.code ({ cls := "WornSkinModel", name := "readBy", desc := "(III)I" } : Jvm.MethodName) prog_13_method_50_code (7 : Nat) (Option.some Jvm.ClassFile.FieldType.int)) ∈ wT0 := wT0_in (List.mem_append_right _ (List.mem_of_getElem? (i := 1536) (by decide +kernel))) rfl
theorem wd_1533 : (Jvm.Cond.methodLink "WornSkinModel" (363 : Nat) ({ cls := "WornSkinModel", name := "readBy", desc := "(III)I" } : Jvm.MethodName)) ∈ wT0 := wT0_in (List.mem_append_right _ (List.mem_of_getElem? (i := 1533) (by decide +kernel))) rfl
theorem wd_1535 : (Jvm.Cond.instanceMethod ({ cls := "WornSkinModel", name := "readBy", desc := "(III)I" } : Jvm.MethodName)) ∈ wT0 := wT0_in (List.mem_append_right _ (List.mem_of_getElem? (i := 1535) (by decide +kernel))) rfl
theorem wp_56 : Cond.selects "WornSkinModel" ({ cls := "WornSkinModel", name := "readBy", desc := "(III)I" } : Jvm.MethodName) ({ cls := "WornSkinModel", name := "readBy", desc := "(III)I" } : Jvm.MethodName) ∈ wT0 := wT0_in (List.mem_append_left _ (List.mem_of_getElem? (i := 56) (by decide +kernel))) rfl
theorem wd_1532 : (Jvm.Cond.code ({ cls := "WornSkinModel", name := "dampOf", desc := "(I)I" } : Jvm.MethodName) prog_13_method_48_code (2 : Nat) (Option.some Jvm.ClassFile.FieldType.int)) ∈ wT0 := wT0_in (List.mem_append_right _ (List.mem_of_getElem? (i := 1532) (by decide +kernel))) rfl
theorem wd_1529 : (Jvm.Cond.methodLink "WornSkinModel" (367 : Nat) ({ cls := "WornSkinModel", name := "dampOf", desc := "(I)I" } : Jvm.MethodName)) ∈ wT0 := wT0_in (List.mem_append_right _ (List.mem_of_getElem? (i := 1529) (by decide +kernel))) rfl
theorem wd_1531 : (Jvm.Cond.instanceMethod ({ cls := "WornSkinModel", name := "dampOf", desc := "(I)I" } : Jvm.MethodName)) ∈ wT0 := wT0_in (List.mem_append_right _ (List.mem_of_getElem? (i := 1531) (by decide +kernel))) rfl
theorem wp_55 : Cond.selects "WornSkinModel" ({ cls := "WornSkinModel", name := "dampOf", desc := "(I)I" } : Jvm.MethodName) ({ cls := "WornSkinModel", name := "dampOf", desc := "(I)I" } : Jvm.MethodName) ∈ wT0 := wT0_in (List.mem_append_left _ (List.mem_of_getElem? (i := 55) (by decide +kernel))) rfl
theorem wd_1572 : (Jvm.Cond.code ({ cls := "WornSkinModel", name := "wholeBy", desc := "(I)I" } : Jvm.MethodName) prog_13_method_51_code (8 : Nat) (Option.some Jvm.ClassFile.FieldType.int)) ∈ wT0 := wT0_in (List.mem_append_right _ (List.mem_of_getElem? (i := 1572) (by decide +kernel))) rfl
theorem wd_1569 : (Jvm.Cond.methodLink "WornSkinModel" (370 : Nat) ({ cls := "WornSkinModel", name := "wholeBy", desc := "(I)I" } : Jvm.MethodName)) ∈ wT0 := wT0_in (List.mem_append_right _ (List.mem_of_getElem? (i := 1569) (by decide +kernel))) rfl
theorem wd_1571 : (Jvm.Cond.instanceMethod ({ cls := "WornSkinModel", name := "wholeBy", desc := "(I)I" } : Jvm.MethodName)) ∈ wT0 := wT0_in (List.mem_append_right _ (List.mem_of_getElem? (i := 1571) (by decide +kernel))) rfl
theorem wp_64 : Cond.selects "WornSkinModel" ({ cls := "WornSkinModel", name := "wholeBy", desc := "(I)I" } : Jvm.MethodName) ({ cls := "WornSkinModel", name := "wholeBy", desc := "(I)I" } : Jvm.MethodName) ∈ wT0 := wT0_in (List.mem_append_left _ (List.mem_of_getElem? (i := 64) (by decide +kernel))) rfl
theorem wd_1633 : (Jvm.Cond.code ({ cls := "WornSkinModel", name := "scrapedBy", desc := "(II)I" } : Jvm.MethodName) prog_13_method_55_code (8 : Nat) (Option.some Jvm.ClassFile.FieldType.int)) ∈ wT0 := wT0_in (List.mem_append_right _ (List.mem_of_getElem? (i := 1633) (by decide +kernel))) rfl
theorem wd_1630 : (Jvm.Cond.methodLink "WornSkinModel" (374 : Nat) ({ cls := "WornSkinModel", name := "scrapedBy", desc := "(II)I" } : Jvm.MethodName)) ∈ wT0 := wT0_in (List.mem_append_right _ (List.mem_of_getElem? (i := 1630) (by decide +kernel))) rfl
theorem wd_1632 : (Jvm.Cond.instanceMethod ({ cls := "WornSkinModel", name := "scrapedBy", desc := "(II)I" } : Jvm.MethodName)) ∈ wT0 := wT0_in (List.mem_append_right _ (List.mem_of_getElem? (i := 1632) (by decide +kernel))) rfl
theorem wp_71 : Cond.selects "WornSkinModel" ({ cls := "WornSkinModel", name := "scrapedBy", desc := "(II)I" } : Jvm.MethodName) ({ cls := "WornSkinModel", name := "scrapedBy", desc := "(II)I" } : Jvm.MethodName) ∈ wT0 := wT0_in (List.mem_append_left _ (List.mem_of_getElem? (i := 71) (by decide +kernel))) rfl
theorem wd_1609 : (Jvm.Cond.code ({ cls := "WornSkinModel", name := "canWrite", desc := "(III)Z" } : Jvm.MethodName) prog_13_method_53_code (5 : Nat) (Option.some Jvm.ClassFile.FieldType.boolean)) ∈ wT0 := wT0_in (List.mem_append_right _ (List.mem_of_getElem? (i := 1609) (by decide +kernel))) rfl
theorem wd_1606 : (Jvm.Cond.methodLink "WornSkinModel" (378 : Nat) ({ cls := "WornSkinModel", name := "canWrite", desc := "(III)Z" } : Jvm.MethodName)) ∈ wT0 := wT0_in (List.mem_append_right _ (List.mem_of_getElem? (i := 1606) (by decide +kernel))) rfl
theorem wd_1608 : (Jvm.Cond.instanceMethod ({ cls := "WornSkinModel", name := "canWrite", desc := "(III)Z" } : Jvm.MethodName)) ∈ wT0 := wT0_in (List.mem_append_right _ (List.mem_of_getElem? (i := 1608) (by decide +kernel))) rfl
theorem wp_67 : Cond.selects "WornSkinModel" ({ cls := "WornSkinModel", name := "canWrite", desc := "(III)Z" } : Jvm.MethodName) ({ cls := "WornSkinModel", name := "canWrite", desc := "(III)Z" } : Jvm.MethodName) ∈ wT0 := wT0_in (List.mem_append_left _ (List.mem_of_getElem? (i := 67) (by decide +kernel))) rfl
theorem wd_1528 : (Jvm.Cond.code ({ cls := "WornSkinModel", name := "readIn", desc := "(II)I" } : Jvm.MethodName) prog_13_method_58_code (6 : Nat) (Option.some Jvm.ClassFile.FieldType.int)) ∈ wT0 := wT0_in (List.mem_append_right _ (List.mem_of_getElem? (i := 1528) (by decide +kernel))) rfl
theorem wd_1525 : (Jvm.Cond.methodLink "WornSkinModel" (381 : Nat) ({ cls := "WornSkinModel", name := "readIn", desc := "(II)I" } : Jvm.MethodName)) ∈ wT0 := wT0_in (List.mem_append_right _ (List.mem_of_getElem? (i := 1525) (by decide +kernel))) rfl
theorem wd_1527 : (Jvm.Cond.instanceMethod ({ cls := "WornSkinModel", name := "readIn", desc := "(II)I" } : Jvm.MethodName)) ∈ wT0 := wT0_in (List.mem_append_right _ (List.mem_of_getElem? (i := 1527) (by decide +kernel))) rfl
theorem wp_54 : Cond.selects "WornSkinModel" ({ cls := "WornSkinModel", name := "readIn", desc := "(II)I" } : Jvm.MethodName) ({ cls := "WornSkinModel", name := "readIn", desc := "(II)I" } : Jvm.MethodName) ∈ wT0 := wT0_in (List.mem_append_left _ (List.mem_of_getElem? (i := 54) (by decide +kernel))) rfl
theorem wd_1579 : (Jvm.Cond.code ({ cls := "WornSkinModel", name := "bits", desc := "(I)I" } : Jvm.MethodName) prog_13_method_4_code (3 : Nat) (Option.some Jvm.ClassFile.FieldType.int)) ∈ wT0 := wT0_in (List.mem_append_right _ (List.mem_of_getElem? (i := 1579) (by decide +kernel))) rfl
theorem wd_1577 : (Jvm.Cond.methodLink "WornSkinModel" (384 : Nat) ({ cls := "WornSkinModel", name := "bits", desc := "(I)I" } : Jvm.MethodName)) ∈ wT0 := wT0_in (List.mem_append_right _ (List.mem_of_getElem? (i := 1577) (by decide +kernel))) rfl
theorem wd_1578 : (Jvm.Cond.static ({ cls := "WornSkinModel", name := "bits", desc := "(I)I" } : Jvm.MethodName)) ∈ wT0 := wT0_in (List.mem_append_right _ (List.mem_of_getElem? (i := 1578) (by decide +kernel))) rfl
theorem wd_1564 : (Jvm.Cond.code ({ cls := "WornSkinModel", name := "isText", desc := "(I)Z" } : Jvm.MethodName) prog_13_method_45_code (2 : Nat) (Option.some Jvm.ClassFile.FieldType.boolean)) ∈ wT0 := wT0_in (List.mem_append_right _ (List.mem_of_getElem? (i := 1564) (by decide +kernel))) rfl
theorem wd_1561 : (Jvm.Cond.methodLink "WornSkinModel" (387 : Nat) ({ cls := "WornSkinModel", name := "isText", desc := "(I)Z" } : Jvm.MethodName)) ∈ wT0 := wT0_in (List.mem_append_right _ (List.mem_of_getElem? (i := 1561) (by decide +kernel))) rfl
theorem wd_1563 : (Jvm.Cond.instanceMethod ({ cls := "WornSkinModel", name := "isText", desc := "(I)Z" } : Jvm.MethodName)) ∈ wT0 := wT0_in (List.mem_append_right _ (List.mem_of_getElem? (i := 1563) (by decide +kernel))) rfl
theorem wp_62 : Cond.selects "WornSkinModel" ({ cls := "WornSkinModel", name := "isText", desc := "(I)Z" } : Jvm.MethodName) ({ cls := "WornSkinModel", name := "isText", desc := "(I)Z" } : Jvm.MethodName) ∈ wT0 := wT0_in (List.mem_append_left _ (List.mem_of_getElem? (i := 62) (by decide +kernel))) rfl
theorem wd_1568 : (Jvm.Cond.code ({ cls := "WornSkinModel", name := "wholeNow", desc := "()I" } : Jvm.MethodName) prog_13_method_52_code (1 : Nat) (Option.some Jvm.ClassFile.FieldType.int)) ∈ wT0 := wT0_in (List.mem_append_right _ (List.mem_of_getElem? (i := 1568) (by decide +kernel))) rfl
theorem wd_1565 : (Jvm.Cond.methodLink "WornSkinModel" (390 : Nat) ({ cls := "WornSkinModel", name := "wholeNow", desc := "()I" } : Jvm.MethodName)) ∈ wT0 := wT0_in (List.mem_append_right _ (List.mem_of_getElem? (i := 1565) (by decide +kernel))) rfl
theorem wd_1567 : (Jvm.Cond.instanceMethod ({ cls := "WornSkinModel", name := "wholeNow", desc := "()I" } : Jvm.MethodName)) ∈ wT0 := wT0_in (List.mem_append_right _ (List.mem_of_getElem? (i := 1567) (by decide +kernel))) rfl
theorem wp_63 : Cond.selects "WornSkinModel" ({ cls := "WornSkinModel", name := "wholeNow", desc := "()I" } : Jvm.MethodName) ({ cls := "WornSkinModel", name := "wholeNow", desc := "()I" } : Jvm.MethodName) ∈ wT0 := wT0_in (List.mem_append_left _ (List.mem_of_getElem? (i := 63) (by decide +kernel))) rfl
theorem wd_1576 : (Jvm.Cond.code ({ cls := "WornSkinModel", name := "madeOf", desc := "(I)I" } : Jvm.MethodName) prog_13_method_59_code (4 : Nat) (Option.some Jvm.ClassFile.FieldType.int)) ∈ wT0 := wT0_in (List.mem_append_right _ (List.mem_of_getElem? (i := 1576) (by decide +kernel))) rfl
theorem wd_1573 : (Jvm.Cond.methodLink "WornSkinModel" (393 : Nat) ({ cls := "WornSkinModel", name := "madeOf", desc := "(I)I" } : Jvm.MethodName)) ∈ wT0 := wT0_in (List.mem_append_right _ (List.mem_of_getElem? (i := 1573) (by decide +kernel))) rfl
theorem wd_1575 : (Jvm.Cond.instanceMethod ({ cls := "WornSkinModel", name := "madeOf", desc := "(I)I" } : Jvm.MethodName)) ∈ wT0 := wT0_in (List.mem_append_right _ (List.mem_of_getElem? (i := 1575) (by decide +kernel))) rfl
theorem wp_65 : Cond.selects "WornSkinModel" ({ cls := "WornSkinModel", name := "madeOf", desc := "(I)I" } : Jvm.MethodName) ({ cls := "WornSkinModel", name := "madeOf", desc := "(I)I" } : Jvm.MethodName) ∈ wT0 := wT0_in (List.mem_append_left _ (List.mem_of_getElem? (i := 65) (by decide +kernel))) rfl
theorem wd_1587 : (Jvm.Cond.code ({ cls := "WornSkinModel", name := "isLine", desc := "(II)Z" } : Jvm.MethodName) prog_13_method_46_code (3 : Nat) (Option.some Jvm.ClassFile.FieldType.boolean)) ∈ wT0 := wT0_in (List.mem_append_right _ (List.mem_of_getElem? (i := 1587) (by decide +kernel))) rfl
theorem wd_1584 : (Jvm.Cond.methodLink "WornSkinModel" (396 : Nat) ({ cls := "WornSkinModel", name := "isLine", desc := "(II)Z" } : Jvm.MethodName)) ∈ wT0 := wT0_in (List.mem_append_right _ (List.mem_of_getElem? (i := 1584) (by decide +kernel))) rfl
theorem wd_1586 : (Jvm.Cond.instanceMethod ({ cls := "WornSkinModel", name := "isLine", desc := "(II)Z" } : Jvm.MethodName)) ∈ wT0 := wT0_in (List.mem_append_right _ (List.mem_of_getElem? (i := 1586) (by decide +kernel))) rfl
theorem wp_66 : Cond.selects "WornSkinModel" ({ cls := "WornSkinModel", name := "isLine", desc := "(II)Z" } : Jvm.MethodName) ({ cls := "WornSkinModel", name := "isLine", desc := "(II)Z" } : Jvm.MethodName) ∈ wT0 := wT0_in (List.mem_append_left _ (List.mem_of_getElem? (i := 66) (by decide +kernel))) rfl
theorem wd_1590 : (Jvm.Cond.code ({ cls := "WornSkinModel", name := "deepOf", desc := "(I)I" } : Jvm.MethodName) prog_13_method_47_code (3 : Nat) (Option.some Jvm.ClassFile.FieldType.int)) ∈ wT0 := wT0_in (List.mem_append_right _ (List.mem_of_getElem? (i := 1590) (by decide +kernel))) rfl
theorem wd_1588 : (Jvm.Cond.methodLink "WornSkinModel" (399 : Nat) ({ cls := "WornSkinModel", name := "deepOf", desc := "(I)I" } : Jvm.MethodName)) ∈ wT0 := wT0_in (List.mem_append_right _ (List.mem_of_getElem? (i := 1588) (by decide +kernel))) rfl
theorem wd_1589 : (Jvm.Cond.static ({ cls := "WornSkinModel", name := "deepOf", desc := "(I)I" } : Jvm.MethodName)) ∈ wT0 := wT0_in (List.mem_append_right _ (List.mem_of_getElem? (i := 1589) (by decide +kernel))) rfl
theorem wd_1597 : (Jvm.Cond.code ({ cls := "WornSkinModel", name := "layerOf", desc := "(II)I" } : Jvm.MethodName) prog_13_method_63_code (4 : Nat) (Option.some Jvm.ClassFile.FieldType.int)) ∈ wT0 := wT0_in (List.mem_append_right _ (List.mem_of_getElem? (i := 1597) (by decide +kernel))) rfl
theorem wd_1595 : (Jvm.Cond.methodLink "WornSkinModel" (402 : Nat) ({ cls := "WornSkinModel", name := "layerOf", desc := "(II)I" } : Jvm.MethodName)) ∈ wT0 := wT0_in (List.mem_append_right _ (List.mem_of_getElem? (i := 1595) (by decide +kernel))) rfl
theorem wd_1596 : (Jvm.Cond.static ({ cls := "WornSkinModel", name := "layerOf", desc := "(II)I" } : Jvm.MethodName)) ∈ wT0 := wT0_in (List.mem_append_right _ (List.mem_of_getElem? (i := 1596) (by decide +kernel))) rfl
theorem wd_1617 : (Jvm.Cond.code ({ cls := "WornSkinModel", name := "copies", desc := "([II[II)V" } : Jvm.MethodName) prog_13_method_37_code (5 : Nat) (Option.none : Option Jvm.ClassFile.FieldType)) ∈ wT0 := wT0_in (List.mem_append_right _ (List.mem_of_getElem? (i := 1617) (by decide +kernel))) rfl
theorem wd_1615 : (Jvm.Cond.methodLink "WornSkinModel" (405 : Nat) ({ cls := "WornSkinModel", name := "copies", desc := "([II[II)V" } : Jvm.MethodName)) ∈ wT0 := wT0_in (List.mem_append_right _ (List.mem_of_getElem? (i := 1615) (by decide +kernel))) rfl
theorem wd_1616 : (Jvm.Cond.static ({ cls := "WornSkinModel", name := "copies", desc := "([II[II)V" } : Jvm.MethodName)) ∈ wT0 := wT0_in (List.mem_append_right _ (List.mem_of_getElem? (i := 1616) (by decide +kernel))) rfl
theorem wd_1614 : (Jvm.Cond.code ({ cls := "WornSkinModel", name := "keeps", desc := "()V" } : Jvm.MethodName) prog_13_method_66_code (2 : Nat) (Option.none : Option Jvm.ClassFile.FieldType)) ∈ wT0 := wT0_in (List.mem_append_right _ (List.mem_of_getElem? (i := 1614) (by decide +kernel))) rfl
theorem wd_1611 : (Jvm.Cond.methodLink "WornSkinModel" (409 : Nat) ({ cls := "WornSkinModel", name := "keeps", desc := "()V" } : Jvm.MethodName)) ∈ wT0 := wT0_in (List.mem_append_right _ (List.mem_of_getElem? (i := 1611) (by decide +kernel))) rfl
theorem wd_1613 : (Jvm.Cond.instanceMethod ({ cls := "WornSkinModel", name := "keeps", desc := "()V" } : Jvm.MethodName)) ∈ wT0 := wT0_in (List.mem_append_right _ (List.mem_of_getElem? (i := 1613) (by decide +kernel))) rfl
theorem wp_68 : Cond.selects "WornSkinModel" ({ cls := "WornSkinModel", name := "keeps", desc := "()V" } : Jvm.MethodName) ({ cls := "WornSkinModel", name := "keeps", desc := "()V" } : Jvm.MethodName) ∈ wT0 := wT0_in (List.mem_append_left _ (List.mem_of_getElem? (i := 68) (by decide +kernel))) rfl
theorem wd_1621 : (Jvm.Cond.code ({ cls := "WornSkinModel", name := "writes", desc := "(III)V" } : Jvm.MethodName) prog_13_method_54_code (5 : Nat) (Option.none : Option Jvm.ClassFile.FieldType)) ∈ wT0 := wT0_in (List.mem_append_right _ (List.mem_of_getElem? (i := 1621) (by decide +kernel))) rfl
theorem wd_1618 : (Jvm.Cond.methodLink "WornSkinModel" (412 : Nat) ({ cls := "WornSkinModel", name := "writes", desc := "(III)V" } : Jvm.MethodName)) ∈ wT0 := wT0_in (List.mem_append_right _ (List.mem_of_getElem? (i := 1618) (by decide +kernel))) rfl
theorem wd_1620 : (Jvm.Cond.instanceMethod ({ cls := "WornSkinModel", name := "writes", desc := "(III)V" } : Jvm.MethodName)) ∈ wT0 := wT0_in (List.mem_append_right _ (List.mem_of_getElem? (i := 1620) (by decide +kernel))) rfl
theorem wp_69 : Cond.selects "WornSkinModel" ({ cls := "WornSkinModel", name := "writes", desc := "(III)V" } : Jvm.MethodName) ({ cls := "WornSkinModel", name := "writes", desc := "(III)V" } : Jvm.MethodName) ∈ wT0 := wT0_in (List.mem_append_left _ (List.mem_of_getElem? (i := 69) (by decide +kernel))) rfl
theorem wd_1637 : (Jvm.Cond.code ({ cls := "WornSkinModel", name := "scrapes", desc := "(II)V" } : Jvm.MethodName) prog_13_method_56_code (4 : Nat) (Option.none : Option Jvm.ClassFile.FieldType)) ∈ wT0 := wT0_in (List.mem_append_right _ (List.mem_of_getElem? (i := 1637) (by decide +kernel))) rfl
theorem wd_1634 : (Jvm.Cond.methodLink "WornSkinModel" (416 : Nat) ({ cls := "WornSkinModel", name := "scrapes", desc := "(II)V" } : Jvm.MethodName)) ∈ wT0 := wT0_in (List.mem_append_right _ (List.mem_of_getElem? (i := 1634) (by decide +kernel))) rfl
theorem wd_1636 : (Jvm.Cond.instanceMethod ({ cls := "WornSkinModel", name := "scrapes", desc := "(II)V" } : Jvm.MethodName)) ∈ wT0 := wT0_in (List.mem_append_right _ (List.mem_of_getElem? (i := 1636) (by decide +kernel))) rfl
theorem wp_72 : Cond.selects "WornSkinModel" ({ cls := "WornSkinModel", name := "scrapes", desc := "(II)V" } : Jvm.MethodName) ({ cls := "WornSkinModel", name := "scrapes", desc := "(II)V" } : Jvm.MethodName) ∈ wT0 := wT0_in (List.mem_append_left _ (List.mem_of_getElem? (i := 72) (by decide +kernel))) rfl
theorem wd_1629 : (Jvm.Cond.code ({ cls := "WornSkinModel", name := "scrapesNow", desc := "(II)I" } : Jvm.MethodName) prog_13_method_68_code (3 : Nat) (Option.some Jvm.ClassFile.FieldType.int)) ∈ wT0 := wT0_in (List.mem_append_right _ (List.mem_of_getElem? (i := 1629) (by decide +kernel))) rfl
theorem wd_1626 : (Jvm.Cond.methodLink "WornSkinModel" (419 : Nat) ({ cls := "WornSkinModel", name := "scrapesNow", desc := "(II)I" } : Jvm.MethodName)) ∈ wT0 := wT0_in (List.mem_append_right _ (List.mem_of_getElem? (i := 1626) (by decide +kernel))) rfl
theorem wd_1628 : (Jvm.Cond.instanceMethod ({ cls := "WornSkinModel", name := "scrapesNow", desc := "(II)I" } : Jvm.MethodName)) ∈ wT0 := wT0_in (List.mem_append_right _ (List.mem_of_getElem? (i := 1628) (by decide +kernel))) rfl
theorem wp_70 : Cond.selects "WornSkinModel" ({ cls := "WornSkinModel", name := "scrapesNow", desc := "(II)I" } : Jvm.MethodName) ({ cls := "WornSkinModel", name := "scrapesNow", desc := "(II)I" } : Jvm.MethodName) ∈ wT0 := wT0_in (List.mem_append_left _ (List.mem_of_getElem? (i := 70) (by decide +kernel))) rfl
theorem wd_1657 : (Jvm.Cond.code ({ cls := "WornSkinModel", name := "gones", desc := "()I" } : Jvm.MethodName) prog_13_method_74_code (3 : Nat) (Option.some Jvm.ClassFile.FieldType.int)) ∈ wT0 := wT0_in (List.mem_append_right _ (List.mem_of_getElem? (i := 1657) (by decide +kernel))) rfl
theorem wd_1654 : (Jvm.Cond.methodLink "WornSkinModel" (422 : Nat) ({ cls := "WornSkinModel", name := "gones", desc := "()I" } : Jvm.MethodName)) ∈ wT0 := wT0_in (List.mem_append_right _ (List.mem_of_getElem? (i := 1654) (by decide +kernel))) rfl
theorem wd_1656 : (Jvm.Cond.instanceMethod ({ cls := "WornSkinModel", name := "gones", desc := "()I" } : Jvm.MethodName)) ∈ wT0 := wT0_in (List.mem_append_right _ (List.mem_of_getElem? (i := 1656) (by decide +kernel))) rfl
theorem wp_73 : Cond.selects "WornSkinModel" ({ cls := "WornSkinModel", name := "gones", desc := "()I" } : Jvm.MethodName) ({ cls := "WornSkinModel", name := "gones", desc := "()I" } : Jvm.MethodName) ∈ wT0 := wT0_in (List.mem_append_left _ (List.mem_of_getElem? (i := 73) (by decide +kernel))) rfl
theorem wd_1661 : (Jvm.Cond.code ({ cls := "WornSkinModel", name := "goes", desc := "(I)Z" } : Jvm.MethodName) prog_13_method_73_code (4 : Nat) (Option.some Jvm.ClassFile.FieldType.boolean)) ∈ wT0 := wT0_in (List.mem_append_right _ (List.mem_of_getElem? (i := 1661) (by decide +kernel))) rfl
theorem wd_1658 : (Jvm.Cond.methodLink "WornSkinModel" (425 : Nat) ({ cls := "WornSkinModel", name := "goes", desc := "(I)Z" } : Jvm.MethodName)) ∈ wT0 := wT0_in (List.mem_append_right _ (List.mem_of_getElem? (i := 1658) (by decide +kernel))) rfl
theorem wd_1660 : (Jvm.Cond.instanceMethod ({ cls := "WornSkinModel", name := "goes", desc := "(I)Z" } : Jvm.MethodName)) ∈ wT0 := wT0_in (List.mem_append_right _ (List.mem_of_getElem? (i := 1660) (by decide +kernel))) rfl
theorem wp_74 : Cond.selects "WornSkinModel" ({ cls := "WornSkinModel", name := "goes", desc := "(I)Z" } : Jvm.MethodName) ({ cls := "WornSkinModel", name := "goes", desc := "(I)Z" } : Jvm.MethodName) ∈ wT0 := wT0_in (List.mem_append_left _ (List.mem_of_getElem? (i := 74) (by decide +kernel))) rfl
theorem wd_1689 : (Jvm.Cond.code ({ cls := "WornSkinModel", name := "placeOf", desc := "(II)I" } : Jvm.MethodName) prog_13_method_57_code (4 : Nat) (Option.some Jvm.ClassFile.FieldType.int)) ∈ wT0 := wT0_in (List.mem_append_right _ (List.mem_of_getElem? (i := 1689) (by decide +kernel))) rfl
theorem wd_1686 : (Jvm.Cond.methodLink "WornSkinModel" (428 : Nat) ({ cls := "WornSkinModel", name := "placeOf", desc := "(II)I" } : Jvm.MethodName)) ∈ wT0 := wT0_in (List.mem_append_right _ (List.mem_of_getElem? (i := 1686) (by decide +kernel))) rfl
theorem wd_1688 : (Jvm.Cond.instanceMethod ({ cls := "WornSkinModel", name := "placeOf", desc := "(II)I" } : Jvm.MethodName)) ∈ wT0 := wT0_in (List.mem_append_right _ (List.mem_of_getElem? (i := 1688) (by decide +kernel))) rfl
theorem wp_75 : Cond.selects "WornSkinModel" ({ cls := "WornSkinModel", name := "placeOf", desc := "(II)I" } : Jvm.MethodName) ({ cls := "WornSkinModel", name := "placeOf", desc := "(II)I" } : Jvm.MethodName) ∈ wT0 := wT0_in (List.mem_append_left _ (List.mem_of_getElem? (i := 75) (by decide +kernel))) rfl
theorem wd_1697 : (Jvm.Cond.code ({ cls := "WornSkinModel", name := "costBy", desc := "(III)I" } : Jvm.MethodName) prog_13_method_82_code (6 : Nat) (Option.some Jvm.ClassFile.FieldType.int)) ∈ wT0 := wT0_in (List.mem_append_right _ (List.mem_of_getElem? (i := 1697) (by decide +kernel))) rfl
theorem wd_1694 : (Jvm.Cond.methodLink "WornSkinModel" (431 : Nat) ({ cls := "WornSkinModel", name := "costBy", desc := "(III)I" } : Jvm.MethodName)) ∈ wT0 := wT0_in (List.mem_append_right _ (List.mem_of_getElem? (i := 1694) (by decide +kernel))) rfl
theorem wd_1696 : (Jvm.Cond.instanceMethod ({ cls := "WornSkinModel", name := "costBy", desc := "(III)I" } : Jvm.MethodName)) ∈ wT0 := wT0_in (List.mem_append_right _ (List.mem_of_getElem? (i := 1696) (by decide +kernel))) rfl
theorem wp_76 : Cond.selects "WornSkinModel" ({ cls := "WornSkinModel", name := "costBy", desc := "(III)I" } : Jvm.MethodName) ({ cls := "WornSkinModel", name := "costBy", desc := "(III)I" } : Jvm.MethodName) ∈ wT0 := wT0_in (List.mem_append_left _ (List.mem_of_getElem? (i := 76) (by decide +kernel))) rfl
theorem wd_1698 : (Jvm.Cond.methodLink "WornSkinModel" (434 : Nat) ({ cls := "java/lang/Math", name := "min", desc := "(II)I" } : Jvm.MethodName)) ∈ wT0 := wT0_in (List.mem_append_right _ (List.mem_of_getElem? (i := 1698) (by decide +kernel))) rfl
theorem wd_1706 : (Jvm.Cond.code ({ cls := "WornSkinModel", name := "writesAll", desc := "(II)V" } : Jvm.MethodName) prog_13_method_84_code (5 : Nat) (Option.none : Option Jvm.ClassFile.FieldType)) ∈ wT0 := wT0_in (List.mem_append_right _ (List.mem_of_getElem? (i := 1706) (by decide +kernel))) rfl
theorem wd_1703 : (Jvm.Cond.methodLink "WornSkinModel" (442 : Nat) ({ cls := "WornSkinModel", name := "writesAll", desc := "(II)V" } : Jvm.MethodName)) ∈ wT0 := wT0_in (List.mem_append_right _ (List.mem_of_getElem? (i := 1703) (by decide +kernel))) rfl
theorem wd_1705 : (Jvm.Cond.instanceMethod ({ cls := "WornSkinModel", name := "writesAll", desc := "(II)V" } : Jvm.MethodName)) ∈ wT0 := wT0_in (List.mem_append_right _ (List.mem_of_getElem? (i := 1705) (by decide +kernel))) rfl
theorem wp_77 : Cond.selects "WornSkinModel" ({ cls := "WornSkinModel", name := "writesAll", desc := "(II)V" } : Jvm.MethodName) ({ cls := "WornSkinModel", name := "writesAll", desc := "(II)V" } : Jvm.MethodName) ∈ wT0 := wT0_in (List.mem_append_left _ (List.mem_of_getElem? (i := 77) (by decide +kernel))) rfl
theorem wd_1710 : (Jvm.Cond.code ({ cls := "WornSkinModel", name := "unwrites", desc := "(III)V" } : Jvm.MethodName) prog_13_method_85_code (5 : Nat) (Option.none : Option Jvm.ClassFile.FieldType)) ∈ wT0 := wT0_in (List.mem_append_right _ (List.mem_of_getElem? (i := 1710) (by decide +kernel))) rfl
theorem wd_1707 : (Jvm.Cond.methodLink "WornSkinModel" (445 : Nat) ({ cls := "WornSkinModel", name := "unwrites", desc := "(III)V" } : Jvm.MethodName)) ∈ wT0 := wT0_in (List.mem_append_right _ (List.mem_of_getElem? (i := 1707) (by decide +kernel))) rfl
theorem wd_1709 : (Jvm.Cond.instanceMethod ({ cls := "WornSkinModel", name := "unwrites", desc := "(III)V" } : Jvm.MethodName)) ∈ wT0 := wT0_in (List.mem_append_right _ (List.mem_of_getElem? (i := 1709) (by decide +kernel))) rfl
theorem wp_78 : Cond.selects "WornSkinModel" ({ cls := "WornSkinModel", name := "unwrites", desc := "(III)V" } : Jvm.MethodName) ({ cls := "WornSkinModel", name := "unwrites", desc := "(III)V" } : Jvm.MethodName) ∈ wT0 := wT0_in (List.mem_append_left _ (List.mem_of_getElem? (i := 78) (by decide +kernel))) rfl
theorem wd_1747 : (Jvm.Cond.methodLink "WornSkinModel" (448 : Nat) ({ cls := "WornSkinModel", name := "who", desc := "()I" } : Jvm.MethodName)) ∈ wT0 := wT0_in (List.mem_append_right _ (List.mem_of_getElem? (i := 1747) (by decide +kernel))) rfl
theorem wd_1748 : (Jvm.Cond.methodLink "WornSkinModel" (451 : Nat) ({ cls := "java/lang/Math", name := "max", desc := "(II)I" } : Jvm.MethodName)) ∈ wT0 := wT0_in (List.mem_append_right _ (List.mem_of_getElem? (i := 1748) (by decide +kernel))) rfl
theorem wd_1761 : (Jvm.Cond.code ({ cls := "WornSkinModel", name := "getsBy", desc := "(IIIII)I" } : Jvm.MethodName) prog_13_method_97_code (5 : Nat) (Option.some Jvm.ClassFile.FieldType.int)) ∈ wT0 := wT0_in (List.mem_append_right _ (List.mem_of_getElem? (i := 1761) (by decide +kernel))) rfl
theorem wd_1759 : (Jvm.Cond.methodLink "WornSkinModel" (458 : Nat) ({ cls := "WornSkinModel", name := "getsBy", desc := "(IIIII)I" } : Jvm.MethodName)) ∈ wT0 := wT0_in (List.mem_append_right _ (List.mem_of_getElem? (i := 1759) (by decide +kernel))) rfl
theorem wd_1760 : (Jvm.Cond.static ({ cls := "WornSkinModel", name := "getsBy", desc := "(IIIII)I" } : Jvm.MethodName)) ∈ wT0 := wT0_in (List.mem_append_right _ (List.mem_of_getElem? (i := 1760) (by decide +kernel))) rfl
theorem wd_1773 : (Jvm.Cond.code ({ cls := "WornSkinModel", name := "draws", desc := "(I)I" } : Jvm.MethodName) prog_13_method_99_code (2 : Nat) (Option.some Jvm.ClassFile.FieldType.int)) ∈ wT0 := wT0_in (List.mem_append_right _ (List.mem_of_getElem? (i := 1773) (by decide +kernel))) rfl
theorem wd_1770 : (Jvm.Cond.methodLink "WornSkinModel" (473 : Nat) ({ cls := "WornSkinModel", name := "draws", desc := "(I)I" } : Jvm.MethodName)) ∈ wT0 := wT0_in (List.mem_append_right _ (List.mem_of_getElem? (i := 1770) (by decide +kernel))) rfl
theorem wd_1772 : (Jvm.Cond.instanceMethod ({ cls := "WornSkinModel", name := "draws", desc := "(I)I" } : Jvm.MethodName)) ∈ wT0 := wT0_in (List.mem_append_right _ (List.mem_of_getElem? (i := 1772) (by decide +kernel))) rfl
theorem wp_80 : Cond.selects "WornSkinModel" ({ cls := "WornSkinModel", name := "draws", desc := "(I)I" } : Jvm.MethodName) ({ cls := "WornSkinModel", name := "draws", desc := "(I)I" } : Jvm.MethodName) ∈ wT0 := wT0_in (List.mem_append_left _ (List.mem_of_getElem? (i := 80) (by decide +kernel))) rfl
theorem wd_1769 : (Jvm.Cond.code ({ cls := "WornSkinModel", name := "livesWeek", desc := "()Z" } : Jvm.MethodName) prog_13_method_100_code (6 : Nat) (Option.some Jvm.ClassFile.FieldType.boolean)) ∈ wT0 := wT0_in (List.mem_append_right _ (List.mem_of_getElem? (i := 1769) (by decide +kernel))) rfl
theorem wd_1766 : (Jvm.Cond.methodLink "WornSkinModel" (476 : Nat) ({ cls := "WornSkinModel", name := "livesWeek", desc := "()Z" } : Jvm.MethodName)) ∈ wT0 := wT0_in (List.mem_append_right _ (List.mem_of_getElem? (i := 1766) (by decide +kernel))) rfl
theorem wd_1768 : (Jvm.Cond.instanceMethod ({ cls := "WornSkinModel", name := "livesWeek", desc := "()Z" } : Jvm.MethodName)) ∈ wT0 := wT0_in (List.mem_append_right _ (List.mem_of_getElem? (i := 1768) (by decide +kernel))) rfl
theorem wp_79 : Cond.selects "WornSkinModel" ({ cls := "WornSkinModel", name := "livesWeek", desc := "()Z" } : Jvm.MethodName) ({ cls := "WornSkinModel", name := "livesWeek", desc := "()Z" } : Jvm.MethodName) ∈ wT0 := wT0_in (List.mem_append_left _ (List.mem_of_getElem? (i := 79) (by decide +kernel))) rfl
theorem wd_1781 : (Jvm.Cond.code ({ cls := "WornSkinModel", name := "allThick", desc := "()I" } : Jvm.MethodName) prog_13_method_101_code (1 : Nat) (Option.some Jvm.ClassFile.FieldType.int)) ∈ wT0 := wT0_in (List.mem_append_right _ (List.mem_of_getElem? (i := 1781) (by decide +kernel))) rfl
theorem wd_1778 : (Jvm.Cond.methodLink "WornSkinModel" (479 : Nat) ({ cls := "WornSkinModel", name := "allThick", desc := "()I" } : Jvm.MethodName)) ∈ wT0 := wT0_in (List.mem_append_right _ (List.mem_of_getElem? (i := 1778) (by decide +kernel))) rfl
theorem wd_1780 : (Jvm.Cond.instanceMethod ({ cls := "WornSkinModel", name := "allThick", desc := "()I" } : Jvm.MethodName)) ∈ wT0 := wT0_in (List.mem_append_right _ (List.mem_of_getElem? (i := 1780) (by decide +kernel))) rfl
theorem wp_81 : Cond.selects "WornSkinModel" ({ cls := "WornSkinModel", name := "allThick", desc := "()I" } : Jvm.MethodName) ({ cls := "WornSkinModel", name := "allThick", desc := "()I" } : Jvm.MethodName) ∈ wT0 := wT0_in (List.mem_append_left _ (List.mem_of_getElem? (i := 81) (by decide +kernel))) rfl
theorem wd_1789 : (Jvm.Cond.code ({ cls := "WornSkinModel", name := "laysSeen", desc := "(II)V" } : Jvm.MethodName) prog_13_method_40_code (4 : Nat) (Option.none : Option Jvm.ClassFile.FieldType)) ∈ wT0 := wT0_in (List.mem_append_right _ (List.mem_of_getElem? (i := 1789) (by decide +kernel))) rfl
theorem wd_1786 : (Jvm.Cond.methodLink "WornSkinModel" (482 : Nat) ({ cls := "WornSkinModel", name := "laysSeen", desc := "(II)V" } : Jvm.MethodName)) ∈ wT0 := wT0_in (List.mem_append_right _ (List.mem_of_getElem? (i := 1786) (by decide +kernel))) rfl
theorem wd_1788 : (Jvm.Cond.instanceMethod ({ cls := "WornSkinModel", name := "laysSeen", desc := "(II)V" } : Jvm.MethodName)) ∈ wT0 := wT0_in (List.mem_append_right _ (List.mem_of_getElem? (i := 1788) (by decide +kernel))) rfl
theorem wp_82 : Cond.selects "WornSkinModel" ({ cls := "WornSkinModel", name := "laysSeen", desc := "(II)V" } : Jvm.MethodName) ({ cls := "WornSkinModel", name := "laysSeen", desc := "(II)V" } : Jvm.MethodName) ∈ wT0 := wT0_in (List.mem_append_left _ (List.mem_of_getElem? (i := 82) (by decide +kernel))) rfl
theorem wd_1797 : (Jvm.Cond.code ({ cls := "WornSkinModel", name := "allLayers", desc := "()I" } : Jvm.MethodName) prog_13_method_104_code (3 : Nat) (Option.some Jvm.ClassFile.FieldType.int)) ∈ wT0 := wT0_in (List.mem_append_right _ (List.mem_of_getElem? (i := 1797) (by decide +kernel))) rfl
theorem wd_1794 : (Jvm.Cond.methodLink "WornSkinModel" (485 : Nat) ({ cls := "WornSkinModel", name := "allLayers", desc := "()I" } : Jvm.MethodName)) ∈ wT0 := wT0_in (List.mem_append_right _ (List.mem_of_getElem? (i := 1794) (by decide +kernel))) rfl
theorem wd_1796 : (Jvm.Cond.instanceMethod ({ cls := "WornSkinModel", name := "allLayers", desc := "()I" } : Jvm.MethodName)) ∈ wT0 := wT0_in (List.mem_append_right _ (List.mem_of_getElem? (i := 1796) (by decide +kernel))) rfl
theorem wp_83 : Cond.selects "WornSkinModel" ({ cls := "WornSkinModel", name := "allLayers", desc := "()I" } : Jvm.MethodName) ({ cls := "WornSkinModel", name := "allLayers", desc := "()I" } : Jvm.MethodName) ∈ wT0 := wT0_in (List.mem_append_left _ (List.mem_of_getElem? (i := 83) (by decide +kernel))) rfl
theorem wd_888 : (Jvm.Cond.constant "java/lang/Integer" (265 : Nat) (1431655765 : Int32)) ∈ wT0 := wT0_in (List.mem_append_right _ (List.mem_of_getElem? (i := 888) (by decide +kernel))) rfl
theorem wd_889 : (Jvm.Cond.constant "java/lang/Integer" (266 : Nat) (858993459 : Int32)) ∈ wT0 := wT0_in (List.mem_append_right _ (List.mem_of_getElem? (i := 889) (by decide +kernel))) rfl
theorem wd_890 : (Jvm.Cond.constant "java/lang/Integer" (267 : Nat) (252645135 : Int32)) ∈ wT0 := wT0_in (List.mem_append_right _ (List.mem_of_getElem? (i := 890) (by decide +kernel))) rfl
theorem wd_1041 : (Jvm.Cond.constant "WornSkin" (289 : Nat) (1000000 : Int32)) ∈ wT0 := wT0_in (List.mem_append_right _ (List.mem_of_getElem? (i := 1041) (by decide +kernel))) rfl
theorem wd_1610 : (Jvm.Cond.constant "WornSkinModel" (373 : Nat) (5764801 : Int32)) ∈ wT0 := wT0_in (List.mem_append_right _ (List.mem_of_getElem? (i := 1610) (by decide +kernel))) rfl
theorem wd_387 : (Jvm.Cond.constantLong "WornSkin$Tape" (50 : Nat) (32 : Int64)) ∈ wT0 := wT0_in (List.mem_append_right _ (List.mem_of_getElem? (i := 387) (by decide +kernel))) rfl
theorem wd_1058 : (Jvm.Cond.constantLong "WornSkin$Draws" (13 : Nat) (1103515245 : Int64)) ∈ wT0 := wT0_in (List.mem_append_right _ (List.mem_of_getElem? (i := 1058) (by decide +kernel))) rfl
theorem wd_1059 : (Jvm.Cond.constantLong "WornSkin$Draws" (15 : Nat) (12345 : Int64)) ∈ wT0 := wT0_in (List.mem_append_right _ (List.mem_of_getElem? (i := 1059) (by decide +kernel))) rfl
theorem wd_1060 : (Jvm.Cond.constantLong "WornSkin$Draws" (17 : Nat) (2147483647 : Int64)) ∈ wT0 := wT0_in (List.mem_append_right _ (List.mem_of_getElem? (i := 1060) (by decide +kernel))) rfl
theorem wd_1061 : (Jvm.Cond.constantLong "WornSkin$Draws" (19 : Nat) (65536 : Int64)) ∈ wT0 := wT0_in (List.mem_append_right _ (List.mem_of_getElem? (i := 1061) (by decide +kernel))) rfl
theorem wd_1361 : (Jvm.Cond.constantLong "WornSkinModel" (148 : Nat) (255 : Int64)) ∈ wT0 := wT0_in (List.mem_append_right _ (List.mem_of_getElem? (i := 1361) (by decide +kernel))) rfl
theorem wd_1382 : (Jvm.Cond.constantLong "WornSkinModel" (176 : Nat) (27 : Int64)) ∈ wT0 := wT0_in (List.mem_append_right _ (List.mem_of_getElem? (i := 1382) (by decide +kernel))) rfl
theorem wd_1383 : (Jvm.Cond.constantLong "WornSkinModel" (178 : Nat) (96 : Int64)) ∈ wT0 := wT0_in (List.mem_append_right _ (List.mem_of_getElem? (i := 1383) (by decide +kernel))) rfl
theorem wd_1384 : (Jvm.Cond.constantLong "WornSkinModel" (231 : Nat) (382253 : Int64)) ∈ wT0 := wT0_in (List.mem_append_right _ (List.mem_of_getElem? (i := 1384) (by decide +kernel))) rfl
theorem wd_1405 : (Jvm.Cond.constantLong "WornSkinModel" (233 : Nat) (6564799 : Int64)) ∈ wT0 := wT0_in (List.mem_append_right _ (List.mem_of_getElem? (i := 1405) (by decide +kernel))) rfl
theorem wd_1406 : (Jvm.Cond.constantLong "WornSkinModel" (235 : Nat) (10792937 : Int64)) ∈ wT0 := wT0_in (List.mem_append_right _ (List.mem_of_getElem? (i := 1406) (by decide +kernel))) rfl
theorem wd_1407 : (Jvm.Cond.constantLong "WornSkinModel" (237 : Nat) (168728 : Int64)) ∈ wT0 := wT0_in (List.mem_append_right _ (List.mem_of_getElem? (i := 1407) (by decide +kernel))) rfl
theorem wd_1408 : (Jvm.Cond.constantLong "WornSkinModel" (239 : Nat) (397973 : Int64)) ∈ wT0 := wT0_in (List.mem_append_right _ (List.mem_of_getElem? (i := 1408) (by decide +kernel))) rfl
theorem wd_1409 : (Jvm.Cond.constantLong "WornSkinModel" (241 : Nat) (79828 : Int64)) ∈ wT0 := wT0_in (List.mem_append_right _ (List.mem_of_getElem? (i := 1409) (by decide +kernel))) rfl
theorem wd_1410 : (Jvm.Cond.constantLong "WornSkinModel" (243 : Nat) (10266418 : Int64)) ∈ wT0 := wT0_in (List.mem_append_right _ (List.mem_of_getElem? (i := 1410) (by decide +kernel))) rfl
theorem wd_1411 : (Jvm.Cond.constantLong "WornSkinModel" (245 : Nat) (12584543 : Int64)) ∈ wT0 := wT0_in (List.mem_append_right _ (List.mem_of_getElem? (i := 1411) (by decide +kernel))) rfl
theorem wd_1412 : (Jvm.Cond.constantLong "WornSkinModel" (247 : Nat) (274579016 : Int64)) ∈ wT0 := wT0_in (List.mem_append_right _ (List.mem_of_getElem? (i := 1412) (by decide +kernel))) rfl
theorem wd_1413 : (Jvm.Cond.constantLong "WornSkinModel" (249 : Nat) (10793335 : Int64)) ∈ wT0 := wT0_in (List.mem_append_right _ (List.mem_of_getElem? (i := 1413) (by decide +kernel))) rfl
theorem wd_1414 : (Jvm.Cond.constantLong "WornSkinModel" (251 : Nat) (456500 : Int64)) ∈ wT0 := wT0_in (List.mem_append_right _ (List.mem_of_getElem? (i := 1414) (by decide +kernel))) rfl
theorem wd_1415 : (Jvm.Cond.constantLong "WornSkinModel" (253 : Nat) (138846 : Int64)) ∈ wT0 := wT0_in (List.mem_append_right _ (List.mem_of_getElem? (i := 1415) (by decide +kernel))) rfl
theorem wd_1416 : (Jvm.Cond.constantLong "WornSkinModel" (255 : Nat) (385337 : Int64)) ∈ wT0 := wT0_in (List.mem_append_right _ (List.mem_of_getElem? (i := 1416) (by decide +kernel))) rfl
theorem wd_1417 : (Jvm.Cond.constantLong "WornSkinModel" (257 : Nat) (1277953191 : Int64)) ∈ wT0 := wT0_in (List.mem_append_right _ (List.mem_of_getElem? (i := 1417) (by decide +kernel))) rfl
theorem wd_1418 : (Jvm.Cond.constantLong "WornSkinModel" (259 : Nat) (8878099 : Int64)) ∈ wT0 := wT0_in (List.mem_append_right _ (List.mem_of_getElem? (i := 1418) (by decide +kernel))) rfl
theorem wd_1419 : (Jvm.Cond.constantLong "WornSkinModel" (261 : Nat) (261003578 : Int64)) ∈ wT0 := wT0_in (List.mem_append_right _ (List.mem_of_getElem? (i := 1419) (by decide +kernel))) rfl
theorem wd_1420 : (Jvm.Cond.constantLong "WornSkinModel" (263 : Nat) (296522 : Int64)) ∈ wT0 := wT0_in (List.mem_append_right _ (List.mem_of_getElem? (i := 1420) (by decide +kernel))) rfl
theorem wd_1421 : (Jvm.Cond.constantLong "WornSkinModel" (198 : Nat) (10631 : Int64)) ∈ wT0 := wT0_in (List.mem_append_right _ (List.mem_of_getElem? (i := 1421) (by decide +kernel))) rfl
theorem wd_1422 : (Jvm.Cond.constantLong "WornSkinModel" (218 : Nat) (1111 : Int64)) ∈ wT0 := wT0_in (List.mem_append_right _ (List.mem_of_getElem? (i := 1422) (by decide +kernel))) rfl
theorem wd_1423 : (Jvm.Cond.constantLong "WornSkinModel" (220 : Nat) (423 : Int64)) ∈ wT0 := wT0_in (List.mem_append_right _ (List.mem_of_getElem? (i := 1423) (by decide +kernel))) rfl
theorem wd_1479 : (Jvm.Cond.constantLong "WornSkinModel" (186 : Nat) (16922 : Int64)) ∈ wT0 := wT0_in (List.mem_append_right _ (List.mem_of_getElem? (i := 1479) (by decide +kernel))) rfl
theorem wd_1480 : (Jvm.Cond.constantLong "WornSkinModel" (188 : Nat) (82528 : Int64)) ∈ wT0 := wT0_in (List.mem_append_right _ (List.mem_of_getElem? (i := 1480) (by decide +kernel))) rfl
theorem wd_1481 : (Jvm.Cond.constantLong "WornSkinModel" (190 : Nat) (46472 : Int64)) ∈ wT0 := wT0_in (List.mem_append_right _ (List.mem_of_getElem? (i := 1481) (by decide +kernel))) rfl
theorem wd_1482 : (Jvm.Cond.constantLong "WornSkinModel" (192 : Nat) (399749 : Int64)) ∈ wT0 := wT0_in (List.mem_append_right _ (List.mem_of_getElem? (i := 1482) (by decide +kernel))) rfl
theorem wd_1753 : (Jvm.Cond.constantLong "WornSkinModel" (454 : Nat) (10 : Int64)) ∈ wT0 := wT0_in (List.mem_append_right _ (List.mem_of_getElem? (i := 1753) (by decide +kernel))) rfl
theorem wd_1754 : (Jvm.Cond.constantLong "WornSkinModel" (456 : Nat) (1000000 : Int64)) ∈ wT0 := wT0_in (List.mem_append_right _ (List.mem_of_getElem? (i := 1754) (by decide +kernel))) rfl
theorem wd_1774 : (Jvm.Cond.constantLong "WornSkinModel" (465 : Nat) (1103515245 : Int64)) ∈ wT0 := wT0_in (List.mem_append_right _ (List.mem_of_getElem? (i := 1774) (by decide +kernel))) rfl
theorem wd_1775 : (Jvm.Cond.constantLong "WornSkinModel" (467 : Nat) (12345 : Int64)) ∈ wT0 := wT0_in (List.mem_append_right _ (List.mem_of_getElem? (i := 1775) (by decide +kernel))) rfl
theorem wd_1776 : (Jvm.Cond.constantLong "WornSkinModel" (469 : Nat) (2147483648 : Int64)) ∈ wT0 := wT0_in (List.mem_append_right _ (List.mem_of_getElem? (i := 1776) (by decide +kernel))) rfl
theorem wd_1777 : (Jvm.Cond.constantLong "WornSkinModel" (471 : Nat) (65536 : Int64)) ∈ wT0 := wT0_in (List.mem_append_right _ (List.mem_of_getElem? (i := 1777) (by decide +kernel))) rfl
theorem wd_1798 : (Jvm.Cond.constantLong "WornSkinLaw" (19 : Nat) (4294967295 : Int64)) ∈ wT0 := wT0_in (List.mem_append_right _ (List.mem_of_getElem? (i := 1798) (by decide +kernel))) rfl
theorem wd_422 : (Jvm.Cond.static ({ cls := "java/lang/Math", name := "max", desc := "(II)I" } : Jvm.MethodName)) ∈ wT0 := wT0_in (List.mem_append_right _ (List.mem_of_getElem? (i := 422) (by decide +kernel))) rfl
theorem wd_425 : (Jvm.Cond.static ({ cls := "java/lang/Math", name := "min", desc := "(II)I" } : Jvm.MethodName)) ∈ wT0 := wT0_in (List.mem_append_right _ (List.mem_of_getElem? (i := 425) (by decide +kernel))) rfl
theorem wd_658 : (Jvm.Cond.static ({ cls := "java/lang/System", name := "arraycopy", desc := "(Ljava/lang/Object;ILjava/lang/Object;II)V" } : Jvm.MethodName)) ∈ wT0 := wT0_in (List.mem_append_right _ (List.mem_of_getElem? (i := 658) (by decide +kernel))) rfl
theorem wd_423 : (Jvm.Cond.code ({ cls := "java/lang/Math", name := "max", desc := "(II)I" } : Jvm.MethodName) prog_20_method_65_code (2 : Nat) (Option.some Jvm.ClassFile.FieldType.int)) ∈ wT0 := wT0_in (List.mem_append_right _ (List.mem_of_getElem? (i := 423) (by decide +kernel))) rfl
theorem wd_426 : (Jvm.Cond.code ({ cls := "java/lang/Math", name := "min", desc := "(II)I" } : Jvm.MethodName) prog_20_method_69_code (2 : Nat) (Option.some Jvm.ClassFile.FieldType.int)) ∈ wT0 := wT0_in (List.mem_append_right _ (List.mem_of_getElem? (i := 426) (by decide +kernel))) rfl
theorem wd_15 : (Jvm.Cond.initialized "java/lang/Math") ∈ wT0 := wT0_in (List.mem_append_right _ (List.mem_of_getElem? (i := 15) (by decide +kernel))) rfl
theorem wd_19 : (Jvm.Cond.initialized "java/lang/System") ∈ wT0 := wT0_in (List.mem_append_right _ (List.mem_of_getElem? (i := 19) (by decide +kernel))) rfl
theorem wd_13 : (Jvm.Cond.initialized "java/lang/String") ∈ wT0 := wT0_in (List.mem_append_right _ (List.mem_of_getElem? (i := 13) (by decide +kernel))) rfl
theorem wd_14 : (Jvm.Cond.initialized "java/lang/StringLatin1") ∈ wT0 := wT0_in (List.mem_append_right _ (List.mem_of_getElem? (i := 14) (by decide +kernel))) rfl
theorem wcl_0 : ∀ w ∈ u_ws RX0 TX0 4, w ∈ wT0 := by
  have h1 : ∀ w ∈ u_ws RX0 TX0 4, w ∈ lw_tbl := by decide +kernel
  have h2 : ∀ w ∈ u_ws RX0 TX0 4, goodWord w = true := by decide +kernel
  exact fun w hw => wT0_in (h1 w hw) (h2 w hw)
theorem wcl_1 : ∀ w ∈ u_ws RX1 TX1 1, w ∈ wT0 := by
  have h1 : ∀ w ∈ u_ws RX1 TX1 1, w ∈ lw_tbl := by decide +kernel
  have h2 : ∀ w ∈ u_ws RX1 TX1 1, goodWord w = true := by decide +kernel
  exact fun w hw => wT0_in (h1 w hw) (h2 w hw)
theorem wcl_2 : ∀ w ∈ u_ws RX2 TX2 4, w ∈ wT0 := by
  have h1 : ∀ w ∈ u_ws RX2 TX2 4, w ∈ lw_tbl := by decide +kernel
  have h2 : ∀ w ∈ u_ws RX2 TX2 4, goodWord w = true := by decide +kernel
  exact fun w hw => wT0_in (h1 w hw) (h2 w hw)
theorem wcl_3 : ∀ w ∈ u_ws RX3 TX3 7, w ∈ wT0 := by
  have h1 : ∀ w ∈ u_ws RX3 TX3 7, w ∈ lw_tbl := by decide +kernel
  have h2 : ∀ w ∈ u_ws RX3 TX3 7, goodWord w = true := by decide +kernel
  exact fun w hw => wT0_in (h1 w hw) (h2 w hw)
theorem wcl_4 : ∀ w ∈ u_ws RX4 TX4 13, w ∈ wT0 := by
  have h1 : ∀ w ∈ u_ws RX4 TX4 13, w ∈ lw_tbl := by decide +kernel
  have h2 : ∀ w ∈ u_ws RX4 TX4 13, goodWord w = true := by decide +kernel
  exact fun w hw => wT0_in (h1 w hw) (h2 w hw)
theorem wcl_5 : ∀ w ∈ u_ws RX5 TX5 5, w ∈ wT0 := by
  have h1 : ∀ w ∈ u_ws RX5 TX5 5, w ∈ lw_tbl := by decide +kernel
  have h2 : ∀ w ∈ u_ws RX5 TX5 5, goodWord w = true := by decide +kernel
  exact fun w hw => wT0_in (h1 w hw) (h2 w hw)
theorem wcl_6 : ∀ w ∈ u_ws RX6 TX6 6, w ∈ wT0 := by
  have h1 : ∀ w ∈ u_ws RX6 TX6 6, w ∈ lw_tbl := by decide +kernel
  have h2 : ∀ w ∈ u_ws RX6 TX6 6, goodWord w = true := by decide +kernel
  exact fun w hw => wT0_in (h1 w hw) (h2 w hw)
theorem wcl_7 : ∀ w ∈ u_ws RX7 TX7 8, w ∈ wT0 := by
  have h1 : ∀ w ∈ u_ws RX7 TX7 8, w ∈ lw_tbl := by decide +kernel
  have h2 : ∀ w ∈ u_ws RX7 TX7 8, goodWord w = true := by decide +kernel
  exact fun w hw => wT0_in (h1 w hw) (h2 w hw)
theorem wcl_8 : ∀ w ∈ u_ws RX8 TX8 3, w ∈ wT0 := by
  have h1 : ∀ w ∈ u_ws RX8 TX8 3, w ∈ lw_tbl := by decide +kernel
  have h2 : ∀ w ∈ u_ws RX8 TX8 3, goodWord w = true := by decide +kernel
  exact fun w hw => wT0_in (h1 w hw) (h2 w hw)
theorem wcl_9 : ∀ w ∈ u_ws RX9 TX9 2, w ∈ wT0 := by
  have h1 : ∀ w ∈ u_ws RX9 TX9 2, w ∈ lw_tbl := by decide +kernel
  have h2 : ∀ w ∈ u_ws RX9 TX9 2, goodWord w = true := by decide +kernel
  exact fun w hw => wT0_in (h1 w hw) (h2 w hw)
theorem wcl_10 : ∀ w ∈ u_ws RX10 TX10 12, w ∈ wT0 := by
  have h1 : ∀ w ∈ u_ws RX10 TX10 12, w ∈ lw_tbl := by decide +kernel
  have h2 : ∀ w ∈ u_ws RX10 TX10 12, goodWord w = true := by decide +kernel
  exact fun w hw => wT0_in (h1 w hw) (h2 w hw)
theorem wcl_11 : ∀ w ∈ u_ws RX11 TX11 59, w ∈ wT0 := by
  have h1 : ∀ w ∈ u_ws RX11 TX11 59, w ∈ lw_tbl := by decide +kernel
  have h2 : ∀ w ∈ u_ws RX11 TX11 59, goodWord w = true := by decide +kernel
  exact fun w hw => wT0_in (h1 w hw) (h2 w hw)
theorem fl_X7_9 : wFl RX7 9 7 0 := ⟨RX7, TX7, 8, rfl, wcl_7, by decide, wd_39⟩
theorem fl_X7_13 : wFl RX7 13 7 1 := ⟨RX7, TX7, 8, rfl, wcl_7, by decide, wd_40⟩
theorem fp_X7_13 : wFp RX7 13 7 1 .int := ⟨RX7, TX7, 8, tyX7, rfl, wcl_7, tyX7_ok, nmX7, by decide, wd_40, rfl, by decide +kernel⟩
theorem fl_X10_87 : wFl RX10 87 7 1 := ⟨RX7, TX7, 8, rfl, wcl_7, by decide, wd_41⟩
theorem fp_X10_87 : wFp RX10 87 7 1 .int := ⟨RX7, TX7, 8, tyX7, rfl, wcl_7, tyX7_ok, nmX7, by decide, wd_41, rfl, by decide +kernel⟩
theorem fl_X7_26 : wFl RX7 26 7 2 := ⟨RX7, TX7, 8, rfl, wcl_7, by decide, wd_42⟩
theorem fp_X7_26 : wFp RX7 26 7 2 .int := ⟨RX7, TX7, 8, tyX7, rfl, wcl_7, tyX7_ok, nmX7, by decide, wd_42, rfl, by decide +kernel⟩
theorem fl_X7_29 : wFl RX7 29 7 3 := ⟨RX7, TX7, 8, rfl, wcl_7, by decide, wd_43⟩
theorem fp_X7_29 : wFp RX7 29 7 3 .int := ⟨RX7, TX7, 8, tyX7, rfl, wcl_7, tyX7_ok, nmX7, by decide, wd_43, rfl, by decide +kernel⟩
theorem fl_X7_17 : wFl RX7 17 7 4 := ⟨RX7, TX7, 8, rfl, wcl_7, by decide, wd_44⟩
theorem fp_X7_17 : wFp RX7 17 7 4 .int := ⟨RX7, TX7, 8, tyX7, rfl, wcl_7, tyX7_ok, nmX7, by decide, wd_44, rfl, by decide +kernel⟩
theorem fl_X4_147 : wFl RX4 147 7 5 := ⟨RX7, TX7, 8, rfl, wcl_7, by decide, wd_45⟩
theorem fp_X4_147 : wFp RX4 147 7 5 .int := ⟨RX7, TX7, 8, tyX7, rfl, wcl_7, tyX7_ok, nmX7, by decide, wd_45, rfl, by decide +kernel⟩
theorem fl_X2_83 : wFl RX2 83 7 5 := ⟨RX7, TX7, 8, rfl, wcl_7, by decide, wd_46⟩
theorem fp_X2_83 : wFp RX2 83 7 5 .int := ⟨RX7, TX7, 8, tyX7, rfl, wcl_7, tyX7_ok, nmX7, by decide, wd_46, rfl, by decide +kernel⟩
theorem fl_X7_52 : wFl RX7 52 7 5 := ⟨RX7, TX7, 8, rfl, wcl_7, by decide, wd_47⟩
theorem fp_X7_52 : wFp RX7 52 7 5 .int := ⟨RX7, TX7, 8, tyX7, rfl, wcl_7, tyX7_ok, nmX7, by decide, wd_47, rfl, by decide +kernel⟩
theorem fl_X7_46 : wFl RX7 46 7 6 := ⟨RX7, TX7, 8, rfl, wcl_7, by decide, wd_48⟩
theorem fp_X7_46 : wFp RX7 46 7 6 .long := ⟨RX7, TX7, 8, tyX7, rfl, wcl_7, tyX7_ok, nmX7, by decide, wd_48, rfl, by decide +kernel⟩
theorem fl_X4_171 : wFl RX4 171 7 6 := ⟨RX7, TX7, 8, rfl, wcl_7, by decide, wd_49⟩
theorem fp_X4_171 : wFp RX4 171 7 6 .long := ⟨RX7, TX7, 8, tyX7, rfl, wcl_7, tyX7_ok, nmX7, by decide, wd_49, rfl, by decide +kernel⟩
theorem fl_X4_115 : wFl RX4 115 7 7 := ⟨RX7, TX7, 8, rfl, wcl_7, by decide, wd_50⟩
theorem fp_X4_115 : wFp RX4 115 7 7 .int := ⟨RX7, TX7, 8, tyX7, rfl, wcl_7, tyX7_ok, nmX7, by decide, wd_50, rfl, by decide +kernel⟩
theorem fl_X7_20 : wFl RX7 20 7 7 := ⟨RX7, TX7, 8, rfl, wcl_7, by decide, wd_51⟩
theorem fp_X7_20 : wFp RX7 20 7 7 .int := ⟨RX7, TX7, 8, tyX7, rfl, wcl_7, tyX7_ok, nmX7, by decide, wd_51, rfl, by decide +kernel⟩
theorem fl_X9_41 : wFl RX9 41 7 7 := ⟨RX7, TX7, 8, rfl, wcl_7, by decide, wd_52⟩
theorem fp_X9_41 : wFp RX9 41 7 7 .int := ⟨RX7, TX7, 8, tyX7, rfl, wcl_7, tyX7_ok, nmX7, by decide, wd_52, rfl, by decide +kernel⟩
theorem fl_X2_9 : wFl RX2 9 2 0 := ⟨RX2, TX2, 4, rfl, wcl_2, by decide, wd_83⟩
theorem fl_X2_18 : wFl RX2 18 2 1 := ⟨RX2, TX2, 4, rfl, wcl_2, by decide, wd_84⟩
theorem fp_X2_18 : wFp RX2 18 2 1 .int := ⟨RX2, TX2, 4, tyX2, rfl, wcl_2, tyX2_ok, nmX2, by decide, wd_84, rfl, by decide +kernel⟩
theorem fl_X2_28 : wFl RX2 28 2 2 := ⟨RX2, TX2, 4, rfl, wcl_2, by decide, wd_85⟩
theorem fp_X2_28 : wFp RX2 28 2 2 .boolean := ⟨RX2, TX2, 4, tyX2, rfl, wcl_2, tyX2_ok, nmX2, by decide, wd_85, rfl, by decide +kernel⟩
theorem fl_X2_15 : wFl RX2 15 2 3 := ⟨RX2, TX2, 4, rfl, wcl_2, by decide, wd_86⟩
theorem fl_X4_47 : wFl RX4 47 4 0 := ⟨RX4, TX4, 13, rfl, wcl_4, by decide, wd_98⟩
theorem fp_X4_47 : wFp RX4 47 4 0 .int := ⟨RX4, TX4, 13, tyX4, rfl, wcl_4, tyX4_ok, nmX4, by decide, wd_98, rfl, by decide +kernel⟩
theorem fl_X6_36 : wFl RX6 36 4 0 := ⟨RX4, TX4, 13, rfl, wcl_4, by decide, wd_99⟩
theorem fp_X6_36 : wFp RX6 36 4 0 .int := ⟨RX4, TX4, 13, tyX4, rfl, wcl_4, tyX4_ok, nmX4, by decide, wd_99, rfl, by decide +kernel⟩
theorem fl_X10_268 : wFl RX10 268 4 0 := ⟨RX4, TX4, 13, rfl, wcl_4, by decide, wd_100⟩
theorem fp_X10_268 : wFp RX10 268 4 0 .int := ⟨RX4, TX4, 13, tyX4, rfl, wcl_4, tyX4_ok, nmX4, by decide, wd_100, rfl, by decide +kernel⟩
theorem fl_X4_9 : wFl RX4 9 4 1 := ⟨RX4, TX4, 13, rfl, wcl_4, by decide, wd_101⟩
theorem fl_X4_15 : wFl RX4 15 4 2 := ⟨RX4, TX4, 13, rfl, wcl_4, by decide, wd_102⟩
theorem fl_X10_121 : wFl RX10 121 4 2 := ⟨RX4, TX4, 13, rfl, wcl_4, by decide, wd_103⟩
theorem fl_X6_52 : wFl RX6 52 4 2 := ⟨RX4, TX4, 13, rfl, wcl_4, by decide, wd_104⟩
theorem fl_X4_19 : wFl RX4 19 4 3 := ⟨RX4, TX4, 13, rfl, wcl_4, by decide, wd_105⟩
theorem fl_X6_41 : wFl RX6 41 4 3 := ⟨RX4, TX4, 13, rfl, wcl_4, by decide, wd_106⟩
theorem fl_X4_22 : wFl RX4 22 4 4 := ⟨RX4, TX4, 13, rfl, wcl_4, by decide, wd_107⟩
theorem fl_X10_128 : wFl RX10 128 4 4 := ⟨RX4, TX4, 13, rfl, wcl_4, by decide, wd_108⟩
theorem fl_X6_55 : wFl RX6 55 4 4 := ⟨RX4, TX4, 13, rfl, wcl_4, by decide, wd_109⟩
theorem fl_X3_25 : wFl RX3 25 4 5 := ⟨RX4, TX4, 13, rfl, wcl_4, by decide, wd_110⟩
theorem fp_X3_25 : wFp RX3 25 4 5 .int := ⟨RX4, TX4, 13, tyX4, rfl, wcl_4, tyX4_ok, nmX4, by decide, wd_110, rfl, by decide +kernel⟩
theorem fl_X4_57 : wFl RX4 57 4 5 := ⟨RX4, TX4, 13, rfl, wcl_4, by decide, wd_111⟩
theorem fp_X4_57 : wFp RX4 57 4 5 .int := ⟨RX4, TX4, 13, tyX4, rfl, wcl_4, tyX4_ok, nmX4, by decide, wd_111, rfl, by decide +kernel⟩
theorem fl_X6_106 : wFl RX6 106 4 5 := ⟨RX4, TX4, 13, rfl, wcl_4, by decide, wd_112⟩
theorem fp_X6_106 : wFp RX6 106 4 5 .int := ⟨RX4, TX4, 13, tyX4, rfl, wcl_4, tyX4_ok, nmX4, by decide, wd_112, rfl, by decide +kernel⟩
theorem fl_X10_278 : wFl RX10 278 4 5 := ⟨RX4, TX4, 13, rfl, wcl_4, by decide, wd_113⟩
theorem fp_X10_278 : wFp RX10 278 4 5 .int := ⟨RX4, TX4, 13, tyX4, rfl, wcl_4, tyX4_ok, nmX4, by decide, wd_113, rfl, by decide +kernel⟩
theorem fl_X4_25 : wFl RX4 25 4 6 := ⟨RX4, TX4, 13, rfl, wcl_4, by decide, wd_114⟩
theorem fl_X4_28 : wFl RX4 28 4 7 := ⟨RX4, TX4, 13, rfl, wcl_4, by decide, wd_115⟩
theorem fl_X10_145 : wFl RX10 145 4 7 := ⟨RX4, TX4, 13, rfl, wcl_4, by decide, wd_116⟩
theorem fl_X6_83 : wFl RX6 83 4 7 := ⟨RX4, TX4, 13, rfl, wcl_4, by decide, wd_117⟩
theorem fl_X4_31 : wFl RX4 31 4 8 := ⟨RX4, TX4, 13, rfl, wcl_4, by decide, wd_118⟩
theorem fl_X10_148 : wFl RX10 148 4 8 := ⟨RX4, TX4, 13, rfl, wcl_4, by decide, wd_119⟩
theorem fl_X6_80 : wFl RX6 80 4 8 := ⟨RX4, TX4, 13, rfl, wcl_4, by decide, wd_120⟩
theorem fl_X4_34 : wFl RX4 34 4 9 := ⟨RX4, TX4, 13, rfl, wcl_4, by decide, wd_121⟩
theorem fl_X3_46 : wFl RX3 46 4 9 := ⟨RX4, TX4, 13, rfl, wcl_4, by decide, wd_122⟩
theorem fl_X10_151 : wFl RX10 151 4 9 := ⟨RX4, TX4, 13, rfl, wcl_4, by decide, wd_123⟩
theorem fl_X6_61 : wFl RX6 61 4 9 := ⟨RX4, TX4, 13, rfl, wcl_4, by decide, wd_124⟩
theorem fl_X4_60 : wFl RX4 60 4 10 := ⟨RX4, TX4, 13, rfl, wcl_4, by decide, wd_125⟩
theorem fp_X4_60 : wFp RX4 60 4 10 .int := ⟨RX4, TX4, 13, tyX4, rfl, wcl_4, tyX4_ok, nmX4, by decide, wd_125, rfl, by decide +kernel⟩
theorem fl_X10_224 : wFl RX10 224 4 10 := ⟨RX4, TX4, 13, rfl, wcl_4, by decide, wd_126⟩
theorem fp_X10_224 : wFp RX10 224 4 10 .int := ⟨RX4, TX4, 13, tyX4, rfl, wcl_4, tyX4_ok, nmX4, by decide, wd_126, rfl, by decide +kernel⟩
theorem fl_X4_37 : wFl RX4 37 4 11 := ⟨RX4, TX4, 13, rfl, wcl_4, by decide, wd_127⟩
theorem fl_X4_43 : wFl RX4 43 4 12 := ⟨RX4, TX4, 13, rfl, wcl_4, by decide, wd_128⟩
theorem fl_X6_24 : wFl RX6 24 6 0 := ⟨RX6, TX6, 6, rfl, wcl_6, by decide, wd_162⟩
theorem fl_X6_28 : wFl RX6 28 6 1 := ⟨RX6, TX6, 6, rfl, wcl_6, by decide, wd_163⟩
theorem fp_X6_28 : wFp RX6 28 6 1 .int := ⟨RX6, TX6, 6, tyX6, rfl, wcl_6, tyX6_ok, nmX6, by decide, wd_163, rfl, by decide +kernel⟩
theorem fl_X10_195 : wFl RX10 195 6 1 := ⟨RX6, TX6, 6, rfl, wcl_6, by decide, wd_164⟩
theorem fp_X10_195 : wFp RX10 195 6 1 .int := ⟨RX6, TX6, 6, tyX6, rfl, wcl_6, tyX6_ok, nmX6, by decide, wd_164, rfl, by decide +kernel⟩
theorem fl_X6_9 : wFl RX6 9 6 2 := ⟨RX6, TX6, 6, rfl, wcl_6, by decide, wd_165⟩
theorem fl_X5_32 : wFl RX5 32 6 2 := ⟨RX6, TX6, 6, rfl, wcl_6, by decide, wd_166⟩
theorem fl_X10_125 : wFl RX10 125 6 2 := ⟨RX6, TX6, 6, rfl, wcl_6, by decide, wd_167⟩
theorem fl_X6_15 : wFl RX6 15 6 3 := ⟨RX6, TX6, 6, rfl, wcl_6, by decide, wd_168⟩
theorem fl_X10_131 : wFl RX10 131 6 3 := ⟨RX6, TX6, 6, rfl, wcl_6, by decide, wd_169⟩
theorem fl_X6_18 : wFl RX6 18 6 4 := ⟨RX6, TX6, 6, rfl, wcl_6, by decide, wd_170⟩
theorem fl_X10_164 : wFl RX10 164 6 4 := ⟨RX6, TX6, 6, rfl, wcl_6, by decide, wd_171⟩
theorem fl_X6_21 : wFl RX6 21 6 5 := ⟨RX6, TX6, 6, rfl, wcl_6, by decide, wd_172⟩
theorem fl_X9_15 : wFl RX9 15 9 0 := ⟨RX9, TX9, 2, rfl, wcl_9, by decide, wd_192⟩
theorem fp_X9_15 : wFp RX9 15 9 0 .int := ⟨RX9, TX9, 2, tyX9, rfl, wcl_9, tyX9_ok, nmX9, by decide, wd_192, rfl, by decide +kernel⟩
theorem fl_X10_202 : wFl RX10 202 9 0 := ⟨RX9, TX9, 2, rfl, wcl_9, by decide, wd_193⟩
theorem fp_X10_202 : wFp RX10 202 9 0 .int := ⟨RX9, TX9, 2, tyX9, rfl, wcl_9, tyX9_ok, nmX9, by decide, wd_193, rfl, by decide +kernel⟩
theorem fl_X9_11 : wFl RX9 11 9 1 := ⟨RX9, TX9, 2, rfl, wcl_9, by decide, wd_194⟩
theorem fl_X10_208 : wFl RX10 208 9 1 := ⟨RX9, TX9, 2, rfl, wcl_9, by decide, wd_195⟩
theorem fl_X5_22 : wFl RX5 22 5 0 := ⟨RX5, TX5, 5, rfl, wcl_5, by decide, wd_207⟩
theorem fp_X5_22 : wFp RX5 22 5 0 .int := ⟨RX5, TX5, 5, tyX5, rfl, wcl_5, tyX5_ok, nmX5, by decide, wd_207, rfl, by decide +kernel⟩
theorem fl_X10_328 : wFl RX10 328 5 0 := ⟨RX5, TX5, 5, rfl, wcl_5, by decide, wd_208⟩
theorem fp_X10_328 : wFp RX10 328 5 0 .int := ⟨RX5, TX5, 5, tyX5, rfl, wcl_5, tyX5_ok, nmX5, by decide, wd_208, rfl, by decide +kernel⟩
theorem fl_X5_9 : wFl RX5 9 5 1 := ⟨RX5, TX5, 5, rfl, wcl_5, by decide, wd_209⟩
theorem fl_X5_13 : wFl RX5 13 5 2 := ⟨RX5, TX5, 5, rfl, wcl_5, by decide, wd_210⟩
theorem fl_X5_16 : wFl RX5 16 5 3 := ⟨RX5, TX5, 5, rfl, wcl_5, by decide, wd_211⟩
theorem fl_X5_19 : wFl RX5 19 5 4 := ⟨RX5, TX5, 5, rfl, wcl_5, by decide, wd_212⟩
theorem fl_X8_18 : wFl RX8 18 8 0 := ⟨RX8, TX8, 3, rfl, wcl_8, by decide, wd_233⟩
theorem fp_X8_18 : wFp RX8 18 8 0 .int := ⟨RX8, TX8, 3, tyX8, rfl, wcl_8, tyX8_ok, nmX8, by decide, wd_233, rfl, by decide +kernel⟩
theorem fl_X10_329 : wFl RX10 329 8 0 := ⟨RX8, TX8, 3, rfl, wcl_8, by decide, wd_234⟩
theorem fp_X10_329 : wFp RX10 329 8 0 .int := ⟨RX8, TX8, 3, tyX8, rfl, wcl_8, tyX8_ok, nmX8, by decide, wd_234, rfl, by decide +kernel⟩
theorem fl_X8_22 : wFl RX8 22 8 1 := ⟨RX8, TX8, 3, rfl, wcl_8, by decide, wd_235⟩
theorem fp_X8_22 : wFp RX8 22 8 1 .int := ⟨RX8, TX8, 3, tyX8, rfl, wcl_8, tyX8_ok, nmX8, by decide, wd_235, rfl, by decide +kernel⟩
theorem fl_X8_11 : wFl RX8 11 8 2 := ⟨RX8, TX8, 3, rfl, wcl_8, by decide, wd_236⟩
theorem fl_X3_21 : wFl RX3 21 3 0 := ⟨RX3, TX3, 7, rfl, wcl_3, by decide, wd_250⟩
theorem fl_X3_31 : wFl RX3 31 3 1 := ⟨RX3, TX3, 7, rfl, wcl_3, by decide, wd_251⟩
theorem fp_X3_31 : wFp RX3 31 3 1 .int := ⟨RX3, TX3, 7, tyX3, rfl, wcl_3, tyX3_ok, nmX3, by decide, wd_251, rfl, by decide +kernel⟩
theorem fl_X10_256 : wFl RX10 256 3 1 := ⟨RX3, TX3, 7, rfl, wcl_3, by decide, wd_252⟩
theorem fp_X10_256 : wFp RX10 256 3 1 .int := ⟨RX3, TX3, 7, tyX3, rfl, wcl_3, tyX3_ok, nmX3, by decide, wd_252, rfl, by decide +kernel⟩
theorem fl_X3_9 : wFl RX3 9 3 2 := ⟨RX3, TX3, 7, rfl, wcl_3, by decide, wd_253⟩
theorem fl_X10_259 : wFl RX10 259 3 2 := ⟨RX3, TX3, 7, rfl, wcl_3, by decide, wd_254⟩
theorem fl_X3_15 : wFl RX3 15 3 3 := ⟨RX3, TX3, 7, rfl, wcl_3, by decide, wd_255⟩
theorem fl_X3_53 : wFl RX3 53 3 4 := ⟨RX3, TX3, 7, rfl, wcl_3, by decide, wd_256⟩
theorem fp_X3_53 : wFp RX3 53 3 4 .int := ⟨RX3, TX3, 7, tyX3, rfl, wcl_3, tyX3_ok, nmX3, by decide, wd_256, rfl, by decide +kernel⟩
theorem fl_X3_18 : wFl RX3 18 3 5 := ⟨RX3, TX3, 7, rfl, wcl_3, by decide, wd_257⟩
theorem fl_X3_64 : wFl RX3 64 3 6 := ⟨RX3, TX3, 7, rfl, wcl_3, by decide, wd_258⟩
theorem fp_X3_64 : wFp RX3 64 3 6 .int := ⟨RX3, TX3, 7, tyX3, rfl, wcl_3, tyX3_ok, nmX3, by decide, wd_258, rfl, by decide +kernel⟩
theorem fl_X1_7 : wFl RX1 7 1 0 := ⟨RX1, TX1, 1, rfl, wcl_1, by decide, wd_280⟩
theorem fp_X1_7 : wFp RX1 7 1 0 .long := ⟨RX1, TX1, 1, tyX1, rfl, wcl_1, tyX1_ok, nmX1, by decide, wd_280, rfl, by decide +kernel⟩
theorem fl_X0_42 : wFl RX0 42 0 0 := ⟨RX0, TX0, 4, rfl, wcl_0, by decide, wd_297⟩
theorem fp_X0_42 : wFp RX0 42 0 0 .boolean := ⟨RX0, TX0, 4, tyX0, rfl, wcl_0, tyX0_ok, nmX0, by decide, wd_297, rfl, by decide +kernel⟩
theorem fl_X10_107 : wFl RX10 107 0 0 := ⟨RX0, TX0, 4, rfl, wcl_0, by decide, wd_298⟩
theorem fp_X10_107 : wFp RX10 107 0 0 .boolean := ⟨RX0, TX0, 4, tyX0, rfl, wcl_0, tyX0_ok, nmX0, by decide, wd_298, rfl, by decide +kernel⟩
theorem fl_X0_28 : wFl RX0 28 0 1 := ⟨RX0, TX0, 4, rfl, wcl_0, by decide, wd_299⟩
theorem fl_X10_317 : wFl RX10 317 0 1 := ⟨RX0, TX0, 4, rfl, wcl_0, by decide, wd_300⟩
theorem fl_X0_10 : wFl RX0 10 0 2 := ⟨RX0, TX0, 4, rfl, wcl_0, by decide, wd_301⟩
theorem fl_X10_320 : wFl RX10 320 0 2 := ⟨RX0, TX0, 4, rfl, wcl_0, by decide, wd_302⟩
theorem fl_X0_19 : wFl RX0 19 0 3 := ⟨RX0, TX0, 4, rfl, wcl_0, by decide, wd_303⟩
theorem fl_X10_321 : wFl RX10 321 0 3 := ⟨RX0, TX0, 4, rfl, wcl_0, by decide, wd_304⟩
theorem fl_X10_12 : wFl RX10 12 10 0 := ⟨RX10, TX10, 12, rfl, wcl_10, by decide, wd_314⟩
theorem fl_X10_19 : wFl RX10 19 10 1 := ⟨RX10, TX10, 12, rfl, wcl_10, by decide, wd_315⟩
theorem fl_X10_23 : wFl RX10 23 10 2 := ⟨RX10, TX10, 12, rfl, wcl_10, by decide, wd_316⟩
theorem fl_X10_31 : wFl RX10 31 10 3 := ⟨RX10, TX10, 12, rfl, wcl_10, by decide, wd_317⟩
theorem fl_X10_35 : wFl RX10 35 10 4 := ⟨RX10, TX10, 12, rfl, wcl_10, by decide, wd_318⟩
theorem fl_X10_41 : wFl RX10 41 10 5 := ⟨RX10, TX10, 12, rfl, wcl_10, by decide, wd_319⟩
theorem fl_X10_45 : wFl RX10 45 10 6 := ⟨RX10, TX10, 12, rfl, wcl_10, by decide, wd_320⟩
theorem fl_X10_51 : wFl RX10 51 10 7 := ⟨RX10, TX10, 12, rfl, wcl_10, by decide, wd_321⟩
theorem fl_X10_58 : wFl RX10 58 10 8 := ⟨RX10, TX10, 12, rfl, wcl_10, by decide, wd_322⟩
theorem fl_X10_65 : wFl RX10 65 10 9 := ⟨RX10, TX10, 12, rfl, wcl_10, by decide, wd_323⟩
theorem fl_X10_72 : wFl RX10 72 10 10 := ⟨RX10, TX10, 12, rfl, wcl_10, by decide, wd_324⟩
theorem fl_X10_78 : wFl RX10 78 10 11 := ⟨RX10, TX10, 12, rfl, wcl_10, by decide, wd_325⟩
theorem fl_X11_144 : wFl RX11 144 11 0 := ⟨RX11, TX11, 59, rfl, wcl_11, by decide, wd_1174⟩
theorem fp_X11_144 : wFp RX11 144 11 0 .int := ⟨RX11, TX11, 59, tyX11, rfl, wcl_11, tyX11_ok, nmX11, by decide, wd_1174, rfl, by decide +kernel⟩
theorem fl_X11_150 : wFl RX11 150 11 1 := ⟨RX11, TX11, 59, rfl, wcl_11, by decide, wd_1175⟩
theorem fp_X11_150 : wFp RX11 150 11 1 .int := ⟨RX11, TX11, 59, tyX11, rfl, wcl_11, tyX11_ok, nmX11, by decide, wd_1175, rfl, by decide +kernel⟩
theorem fl_X11_7 : wFl RX11 7 11 2 := ⟨RX11, TX11, 59, rfl, wcl_11, by decide, wd_1176⟩
theorem fl_X11_153 : wFl RX11 153 11 3 := ⟨RX11, TX11, 59, rfl, wcl_11, by decide, wd_1177⟩
theorem fp_X11_153 : wFp RX11 153 11 3 .int := ⟨RX11, TX11, 59, tyX11, rfl, wcl_11, tyX11_ok, nmX11, by decide, wd_1177, rfl, by decide +kernel⟩
theorem fl_X11_156 : wFl RX11 156 11 4 := ⟨RX11, TX11, 59, rfl, wcl_11, by decide, wd_1178⟩
theorem fp_X11_156 : wFp RX11 156 11 4 .int := ⟨RX11, TX11, 59, tyX11, rfl, wcl_11, tyX11_ok, nmX11, by decide, wd_1178, rfl, by decide +kernel⟩
theorem fl_X11_159 : wFl RX11 159 11 5 := ⟨RX11, TX11, 59, rfl, wcl_11, by decide, wd_1179⟩
theorem fp_X11_159 : wFp RX11 159 11 5 .int := ⟨RX11, TX11, 59, tyX11, rfl, wcl_11, tyX11_ok, nmX11, by decide, wd_1179, rfl, by decide +kernel⟩
theorem fl_X11_169 : wFl RX11 169 11 6 := ⟨RX11, TX11, 59, rfl, wcl_11, by decide, wd_1180⟩
theorem fp_X11_169 : wFp RX11 169 11 6 .int := ⟨RX11, TX11, 59, tyX11, rfl, wcl_11, tyX11_ok, nmX11, by decide, wd_1180, rfl, by decide +kernel⟩
theorem fl_X11_162 : wFl RX11 162 11 7 := ⟨RX11, TX11, 59, rfl, wcl_11, by decide, wd_1181⟩
theorem fp_X11_162 : wFp RX11 162 11 7 .long := ⟨RX11, TX11, 59, tyX11, rfl, wcl_11, tyX11_ok, nmX11, by decide, wd_1181, rfl, by decide +kernel⟩
theorem fl_X11_166 : wFl RX11 166 11 8 := ⟨RX11, TX11, 59, rfl, wcl_11, by decide, wd_1182⟩
theorem fp_X11_166 : wFp RX11 166 11 8 .int := ⟨RX11, TX11, 59, tyX11, rfl, wcl_11, tyX11_ok, nmX11, by decide, wd_1182, rfl, by decide +kernel⟩
theorem fl_X11_180 : wFl RX11 180 11 9 := ⟨RX11, TX11, 59, rfl, wcl_11, by decide, wd_1183⟩
theorem fp_X11_180 : wFp RX11 180 11 9 .int := ⟨RX11, TX11, 59, tyX11, rfl, wcl_11, tyX11_ok, nmX11, by decide, wd_1183, rfl, by decide +kernel⟩
theorem fl_X11_13 : wFl RX11 13 11 10 := ⟨RX11, TX11, 59, rfl, wcl_11, by decide, wd_1184⟩
theorem fl_X11_16 : wFl RX11 16 11 11 := ⟨RX11, TX11, 59, rfl, wcl_11, by decide, wd_1185⟩
theorem fl_X11_20 : wFl RX11 20 11 12 := ⟨RX11, TX11, 59, rfl, wcl_11, by decide, wd_1186⟩
theorem fl_X11_23 : wFl RX11 23 11 13 := ⟨RX11, TX11, 59, rfl, wcl_11, by decide, wd_1187⟩
theorem fl_X11_26 : wFl RX11 26 11 14 := ⟨RX11, TX11, 59, rfl, wcl_11, by decide, wd_1188⟩
theorem fl_X11_29 : wFl RX11 29 11 15 := ⟨RX11, TX11, 59, rfl, wcl_11, by decide, wd_1189⟩
theorem fl_X11_32 : wFl RX11 32 11 16 := ⟨RX11, TX11, 59, rfl, wcl_11, by decide, wd_1190⟩
theorem fl_X11_35 : wFl RX11 35 11 17 := ⟨RX11, TX11, 59, rfl, wcl_11, by decide, wd_1191⟩
theorem fl_X11_38 : wFl RX11 38 11 18 := ⟨RX11, TX11, 59, rfl, wcl_11, by decide, wd_1192⟩
theorem fl_X11_41 : wFl RX11 41 11 19 := ⟨RX11, TX11, 59, rfl, wcl_11, by decide, wd_1193⟩
theorem fl_X11_44 : wFl RX11 44 11 20 := ⟨RX11, TX11, 59, rfl, wcl_11, by decide, wd_1194⟩
theorem fl_X11_47 : wFl RX11 47 11 21 := ⟨RX11, TX11, 59, rfl, wcl_11, by decide, wd_1195⟩
theorem fl_X11_50 : wFl RX11 50 11 22 := ⟨RX11, TX11, 59, rfl, wcl_11, by decide, wd_1196⟩
theorem fl_X11_183 : wFl RX11 183 11 23 := ⟨RX11, TX11, 59, rfl, wcl_11, by decide, wd_1197⟩
theorem fp_X11_183 : wFp RX11 183 11 23 .int := ⟨RX11, TX11, 59, tyX11, rfl, wcl_11, tyX11_ok, nmX11, by decide, wd_1197, rfl, by decide +kernel⟩
theorem fl_X11_53 : wFl RX11 53 11 24 := ⟨RX11, TX11, 59, rfl, wcl_11, by decide, wd_1198⟩
theorem fl_X11_56 : wFl RX11 56 11 25 := ⟨RX11, TX11, 59, rfl, wcl_11, by decide, wd_1199⟩
theorem fl_X11_60 : wFl RX11 60 11 26 := ⟨RX11, TX11, 59, rfl, wcl_11, by decide, wd_1200⟩
theorem fl_X11_63 : wFl RX11 63 11 27 := ⟨RX11, TX11, 59, rfl, wcl_11, by decide, wd_1201⟩
theorem fl_X11_66 : wFl RX11 66 11 28 := ⟨RX11, TX11, 59, rfl, wcl_11, by decide, wd_1202⟩
theorem fl_X11_69 : wFl RX11 69 11 29 := ⟨RX11, TX11, 59, rfl, wcl_11, by decide, wd_1203⟩
theorem fl_X11_72 : wFl RX11 72 11 30 := ⟨RX11, TX11, 59, rfl, wcl_11, by decide, wd_1204⟩
theorem fl_X11_75 : wFl RX11 75 11 31 := ⟨RX11, TX11, 59, rfl, wcl_11, by decide, wd_1205⟩
theorem fl_X11_78 : wFl RX11 78 11 32 := ⟨RX11, TX11, 59, rfl, wcl_11, by decide, wd_1206⟩
theorem fl_X11_81 : wFl RX11 81 11 33 := ⟨RX11, TX11, 59, rfl, wcl_11, by decide, wd_1207⟩
theorem fl_X11_84 : wFl RX11 84 11 34 := ⟨RX11, TX11, 59, rfl, wcl_11, by decide, wd_1208⟩
theorem fl_X11_87 : wFl RX11 87 11 35 := ⟨RX11, TX11, 59, rfl, wcl_11, by decide, wd_1209⟩
theorem fl_X11_269 : wFl RX11 269 11 36 := ⟨RX11, TX11, 59, rfl, wcl_11, by decide, wd_1210⟩
theorem fp_X11_269 : wFp RX11 269 11 36 .int := ⟨RX11, TX11, 59, tyX11, rfl, wcl_11, tyX11_ok, nmX11, by decide, wd_1210, rfl, by decide +kernel⟩
theorem fl_X11_286 : wFl RX11 286 11 37 := ⟨RX11, TX11, 59, rfl, wcl_11, by decide, wd_1211⟩
theorem fp_X11_286 : wFp RX11 286 11 37 .long := ⟨RX11, TX11, 59, tyX11, rfl, wcl_11, tyX11_ok, nmX11, by decide, wd_1211, rfl, by decide +kernel⟩
theorem fl_X11_90 : wFl RX11 90 11 38 := ⟨RX11, TX11, 59, rfl, wcl_11, by decide, wd_1212⟩
theorem fl_X11_93 : wFl RX11 93 11 39 := ⟨RX11, TX11, 59, rfl, wcl_11, by decide, wd_1213⟩
theorem fl_X11_96 : wFl RX11 96 11 40 := ⟨RX11, TX11, 59, rfl, wcl_11, by decide, wd_1214⟩
theorem fl_X11_99 : wFl RX11 99 11 41 := ⟨RX11, TX11, 59, rfl, wcl_11, by decide, wd_1215⟩
theorem fl_X11_102 : wFl RX11 102 11 42 := ⟨RX11, TX11, 59, rfl, wcl_11, by decide, wd_1216⟩
theorem fl_X11_105 : wFl RX11 105 11 43 := ⟨RX11, TX11, 59, rfl, wcl_11, by decide, wd_1217⟩
theorem fl_X11_108 : wFl RX11 108 11 44 := ⟨RX11, TX11, 59, rfl, wcl_11, by decide, wd_1218⟩
theorem fl_X11_111 : wFl RX11 111 11 45 := ⟨RX11, TX11, 59, rfl, wcl_11, by decide, wd_1219⟩
theorem fl_X11_114 : wFl RX11 114 11 46 := ⟨RX11, TX11, 59, rfl, wcl_11, by decide, wd_1220⟩
theorem fl_X11_117 : wFl RX11 117 11 47 := ⟨RX11, TX11, 59, rfl, wcl_11, by decide, wd_1221⟩
theorem fl_X11_120 : wFl RX11 120 11 48 := ⟨RX11, TX11, 59, rfl, wcl_11, by decide, wd_1222⟩
theorem fl_X11_123 : wFl RX11 123 11 49 := ⟨RX11, TX11, 59, rfl, wcl_11, by decide, wd_1223⟩
theorem fl_X11_126 : wFl RX11 126 11 50 := ⟨RX11, TX11, 59, rfl, wcl_11, by decide, wd_1224⟩
theorem fl_X11_129 : wFl RX11 129 11 51 := ⟨RX11, TX11, 59, rfl, wcl_11, by decide, wd_1225⟩
theorem fl_X11_132 : wFl RX11 132 11 52 := ⟨RX11, TX11, 59, rfl, wcl_11, by decide, wd_1226⟩
theorem fl_X11_135 : wFl RX11 135 11 53 := ⟨RX11, TX11, 59, rfl, wcl_11, by decide, wd_1227⟩
theorem fl_X11_343 : wFl RX11 343 11 54 := ⟨RX11, TX11, 59, rfl, wcl_11, by decide, wd_1228⟩
theorem fp_X11_343 : wFp RX11 343 11 54 .int := ⟨RX11, TX11, 59, tyX11, rfl, wcl_11, tyX11_ok, nmX11, by decide, wd_1228, rfl, by decide +kernel⟩
theorem fl_X11_138 : wFl RX11 138 11 55 := ⟨RX11, TX11, 59, rfl, wcl_11, by decide, wd_1229⟩
theorem fl_X11_141 : wFl RX11 141 11 56 := ⟨RX11, TX11, 59, rfl, wcl_11, by decide, wd_1230⟩
theorem fl_X11_439 : wFl RX11 439 11 57 := ⟨RX11, TX11, 59, rfl, wcl_11, by decide, wd_1231⟩
theorem fp_X11_439 : wFp RX11 439 11 57 .int := ⟨RX11, TX11, 59, tyX11, rfl, wcl_11, tyX11_ok, nmX11, by decide, wd_1231, rfl, by decide +kernel⟩
theorem fl_X11_462 : wFl RX11 462 11 58 := ⟨RX11, TX11, 59, rfl, wcl_11, by decide, wd_1232⟩
theorem fp_X11_462 : wFp RX11 462 11 58 .long := ⟨RX11, TX11, 59, tyX11, rfl, wcl_11, tyX11_ok, nmX11, by decide, wd_1232, rfl, by decide +kernel⟩
theorem vl_X10_83 : wVl RX10 83 7 yX7_addBytes cX7_addBytes 5 none 1 := by
  have w1 := wd_358
  have w2 := wd_355
  have w3 := wd_356
  have w4 := wd_357
  have w5 := wd_2
  exact ⟨⟨TX7, 8, rfl⟩, by decide +kernel, w1, w2, w3, w4, w5⟩
theorem vl_X10_91 : wVl RX10 91 4 yX4_readFrom cX4_readFrom 3 (some .int) 1 := by
  have w1 := wd_366
  have w2 := wd_363
  have w3 := wd_364
  have w4 := wd_365
  have w5 := wd_3
  exact ⟨⟨TX4, 13, rfl⟩, by decide +kernel, w1, w2, w3, w4, w5⟩
theorem vl_X10_95 : wVl RX10 95 7 yX7_clear cX7_clear 1 none 0 := by
  have w1 := wd_652
  have w2 := wd_649
  have w3 := wd_650
  have w4 := wd_651
  have w5 := wd_2
  exact ⟨⟨TX7, 8, rfl⟩, by decide +kernel, w1, w2, w3, w4, w5⟩
theorem vl_X10_98 : wVl RX10 98 4 yX4_copyFrom cX4_copyFrom 2 none 1 := by
  have w1 := wd_656
  have w2 := wd_653
  have w3 := wd_654
  have w4 := wd_655
  have w5 := wd_3
  exact ⟨⟨TX4, 13, rfl⟩, by decide +kernel, w1, w2, w3, w4, w5⟩
theorem vl_X10_101 : wVl RX10 101 6 yX6_begin cX6_begin 2 none 0 := by
  have w1 := wd_668
  have w2 := wd_665
  have w3 := wd_666
  have w4 := wd_667
  have w5 := wd_5
  exact ⟨⟨TX6, 6, rfl⟩, by decide +kernel, w1, w2, w3, w4, w5⟩
theorem vl_X10_104 : wVl RX10 104 9 yX9_clear cX9_clear 1 none 0 := by
  have w1 := wd_676
  have w2 := wd_673
  have w3 := wd_674
  have w4 := wd_675
  have w5 := wd_6
  exact ⟨⟨TX9, 2, rfl⟩, by decide +kernel, w1, w2, w3, w4, w5⟩
theorem vl_X10_105 : wVl RX10 105 5 yX5_clear cX5_clear 1 none 0 := by
  have w1 := wd_680
  have w2 := wd_677
  have w3 := wd_678
  have w4 := wd_679
  have w5 := wd_7
  exact ⟨⟨TX5, 5, rfl⟩, by decide +kernel, w1, w2, w3, w4, w5⟩
theorem vl_X10_106 : wVl RX10 106 8 yX8_clear cX8_clear 1 none 0 := by
  have w1 := wd_684
  have w2 := wd_681
  have w3 := wd_682
  have w4 := wd_683
  have w5 := wd_8
  exact ⟨⟨TX8, 3, rfl⟩, by decide +kernel, w1, w2, w3, w4, w5⟩
theorem vl_X10_111 : wVl RX10 111 9 yX9_readFrom cX9_readFrom 4 (some .int) 2 := by
  have w1 := wd_692
  have w2 := wd_689
  have w3 := wd_690
  have w4 := wd_691
  have w5 := wd_6
  exact ⟨⟨TX9, 2, rfl⟩, by decide +kernel, w1, w2, w3, w4, w5⟩
theorem vl_X10_114 : wVl RX10 114 9 yX9_copyFrom cX9_copyFrom 2 none 1 := by
  have w1 := wd_720
  have w2 := wd_717
  have w3 := wd_718
  have w4 := wd_719
  have w5 := wd_6
  exact ⟨⟨TX9, 2, rfl⟩, by decide +kernel, w1, w2, w3, w4, w5⟩
theorem vl_X10_117 : wVl RX10 117 4 yX4_hasSkin cX4_hasSkin 2 (some .boolean) 1 := by
  have w1 := wd_729
  have w2 := wd_726
  have w3 := wd_727
  have w4 := wd_728
  have w5 := wd_3
  exact ⟨⟨TX4, 13, rfl⟩, by decide +kernel, w1, w2, w3, w4, w5⟩
theorem vl_X10_134 : wVl RX10 134 6 yX6_damp cX6_damp 1 (some .int) 0 := by
  have w1 := wd_733
  have w2 := wd_730
  have w3 := wd_731
  have w4 := wd_732
  have w5 := wd_5
  exact ⟨⟨TX6, 6, rfl⟩, by decide +kernel, w1, w2, w3, w4, w5⟩
theorem vl_X10_138 : wVl RX10 138 6 yX6_shownLines cX6_shownLines 5 (some .int) 2 := by
  have w1 := wd_741
  have w2 := wd_738
  have w3 := wd_739
  have w4 := wd_740
  have w5 := wd_5
  exact ⟨⟨TX6, 6, rfl⟩, by decide +kernel, w1, w2, w3, w4, w5⟩
theorem vl_X10_142 : wVl RX10 142 4 yX4_hasText cX4_hasText 2 (some .boolean) 1 := by
  have w1 := wd_768
  have w2 := wd_765
  have w3 := wd_766
  have w4 := wd_767
  have w5 := wd_3
  exact ⟨⟨TX4, 13, rfl⟩, by decide +kernel, w1, w2, w3, w4, w5⟩
theorem vl_X10_154 : wVl RX10 154 6 yX6_isWhole cX6_isWhole 3 (some .boolean) 2 := by
  have w1 := wd_772
  have w2 := wd_769
  have w3 := wd_770
  have w4 := wd_771
  have w5 := wd_5
  exact ⟨⟨TX6, 6, rfl⟩, by decide +kernel, w1, w2, w3, w4, w5⟩
theorem vl_X10_158 : wVl RX10 158 6 yX6_made cX6_made 6 (some .int) 2 := by
  have w1 := wd_780
  have w2 := wd_777
  have w3 := wd_778
  have w4 := wd_779
  have w5 := wd_5
  exact ⟨⟨TX6, 6, rfl⟩, by decide +kernel, w1, w2, w3, w4, w5⟩
theorem vl_X10_161 : wVl RX10 161 4 yX4_hasLine cX4_hasLine 3 (some .boolean) 2 := by
  have w1 := wd_788
  have w2 := wd_785
  have w3 := wd_786
  have w4 := wd_787
  have w5 := wd_3
  exact ⟨⟨TX4, 13, rfl⟩, by decide +kernel, w1, w2, w3, w4, w5⟩
theorem vl_X10_167 : wVl RX10 167 6 yX6_layerAt cX6_layerAt 3 (some .int) 2 := by
  have w1 := wd_749
  have w2 := wd_794
  have w3 := wd_747
  have w4 := wd_748
  have w5 := wd_5
  exact ⟨⟨TX6, 6, rfl⟩, by decide +kernel, w1, w2, w3, w4, w5⟩
theorem vl_X10_170 : wVl RX10 170 6 yX6_shown cX6_shown 8 (some .int) 3 := by
  have w1 := wd_745
  have w2 := wd_799
  have w3 := wd_743
  have w4 := wd_744
  have w5 := wd_5
  exact ⟨⟨TX6, 6, rfl⟩, by decide +kernel, w1, w2, w3, w4, w5⟩
theorem vl_X10_174 : wVl RX10 174 6 yX6_canWrite cX6_canWrite 5 (some .boolean) 3 := by
  have w1 := wd_807
  have w2 := wd_804
  have w3 := wd_805
  have w4 := wd_806
  have w5 := wd_5
  exact ⟨⟨TX6, 6, rfl⟩, by decide +kernel, w1, w2, w3, w4, w5⟩
theorem vl_X10_178 : wVl RX10 178 8 yX8_keep cX8_keep 2 none 1 := by
  have w1 := wd_815
  have w2 := wd_812
  have w3 := wd_813
  have w4 := wd_814
  have w5 := wd_8
  exact ⟨⟨TX8, 3, rfl⟩, by decide +kernel, w1, w2, w3, w4, w5⟩
theorem vl_X10_182 : wVl RX10 182 6 yX6_put cX6_put 6 none 3 := by
  have w1 := wd_825
  have w2 := wd_822
  have w3 := wd_823
  have w4 := wd_824
  have w5 := wd_5
  exact ⟨⟨TX6, 6, rfl⟩, by decide +kernel, w1, w2, w3, w4, w5⟩
theorem vl_X10_186 : wVl RX10 186 10 yX10_rubByHand cX10_rubByHand 3 (some .int) 2 := by
  have w1 := wd_833
  have w2 := wd_830
  have w3 := wd_832
  have w4 := wp_13
  have w5 := wd_1
  exact ⟨⟨TX10, 12, rfl⟩, by decide +kernel, w1, w2, w3, w4, w5⟩
theorem vl_X10_189 : wVl RX10 189 6 yX6_canRub cX6_canRub 3 (some .boolean) 2 := by
  have w1 := wd_837
  have w2 := wd_834
  have w3 := wd_835
  have w4 := wd_836
  have w5 := wd_5
  exact ⟨⟨TX6, 6, rfl⟩, by decide +kernel, w1, w2, w3, w4, w5⟩
theorem vl_X10_192 : wVl RX10 192 6 yX6_rub cX6_rub 4 (some .boolean) 2 := by
  have w1 := wd_841
  have w2 := wd_838
  have w3 := wd_839
  have w4 := wd_840
  have w5 := wd_5
  exact ⟨⟨TX6, 6, rfl⟩, by decide +kernel, w1, w2, w3, w4, w5⟩
theorem vl_X10_198 : wVl RX10 198 8 yX8_takeBack cX8_takeBack 2 (some .boolean) 1 := by
  have w1 := wd_862
  have w2 := wd_859
  have w3 := wd_860
  have w4 := wd_861
  have w5 := wd_8
  exact ⟨⟨TX8, 3, rfl⟩, by decide +kernel, w1, w2, w3, w4, w5⟩
theorem vl_X10_205 : wVl RX10 205 6 yX6_goneSkins cX6_goneSkins 3 (some .int) 0 := by
  have w1 := wd_870
  have w2 := wd_867
  have w3 := wd_868
  have w4 := wd_869
  have w5 := wd_5
  exact ⟨⟨TX6, 6, rfl⟩, by decide +kernel, w1, w2, w3, w4, w5⟩
theorem vl_X10_209 : wVl RX10 209 6 yX6_follow cX6_follow 5 (some .boolean) 1 := by
  have w1 := wd_874
  have w2 := wd_871
  have w3 := wd_872
  have w4 := wd_873
  have w5 := wd_5
  exact ⟨⟨TX6, 6, rfl⟩, by decide +kernel, w1, w2, w3, w4, w5⟩
theorem vl_X10_212 : wVl RX10 212 6 yX6_wholeTexts cX6_wholeTexts 8 (some .int) 1 := by
  have w1 := wd_776
  have w2 := wd_884
  have w3 := wd_774
  have w4 := wd_775
  have w5 := wd_5
  exact ⟨⟨TX6, 6, rfl⟩, by decide +kernel, w1, w2, w3, w4, w5⟩
theorem sl_X10_216 : wSl1 RX10 216 yJ6_bitCount_0f7a4 cJ6_bitCount_0f7a4 1 (some .int) 1 := ⟨by decide +kernel, wd_887, wd_885, wd_886, wd_20⟩
theorem vl_X10_221 : wVl RX10 221 4 yX4_dampOf cX4_dampOf 2 (some .int) 1 := by
  have w1 := wd_737
  have w2 := wd_895
  have w3 := wd_735
  have w4 := wd_736
  have w5 := wd_3
  exact ⟨⟨TX4, 13, rfl⟩, by decide +kernel, w1, w2, w3, w4, w5⟩
theorem vl_X10_232 : wVl RX10 232 6 yX6_textsLaid cX6_textsLaid 4 (some .int) 0 := by
  have w1 := wd_912
  have w2 := wd_909
  have w3 := wd_910
  have w4 := wd_911
  have w5 := wd_5
  exact ⟨⟨TX6, 6, rfl⟩, by decide +kernel, w1, w2, w3, w4, w5⟩
theorem vl_X10_235 : wVl RX10 235 6 yX6_shownTexts cX6_shownTexts 6 (some .int) 1 := by
  have w1 := wd_916
  have w2 := wd_913
  have w3 := wd_914
  have w4 := wd_915
  have w5 := wd_5
  exact ⟨⟨TX6, 6, rfl⟩, by decide +kernel, w1, w2, w3, w4, w5⟩
theorem vl_X10_238 : wVl RX10 238 6 yX6_firstPlace cX6_firstPlace 4 (some .int) 2 := by
  have w1 := wd_924
  have w2 := wd_921
  have w3 := wd_922
  have w4 := wd_923
  have w5 := wd_5
  exact ⟨⟨TX6, 6, rfl⟩, by decide +kernel, w1, w2, w3, w4, w5⟩
theorem vl_X10_241 : wVl RX10 241 10 yX10_costOfRubbing cX10_costOfRubbing 4 (some .int) 3 := by
  have w1 := wd_932
  have w2 := wd_929
  have w3 := wd_931
  have w4 := wp_16
  have w5 := wd_1
  exact ⟨⟨TX10, 12, rfl⟩, by decide +kernel, w1, w2, w3, w4, w5⟩
theorem vl_X10_247 : wVl RX10 247 6 yX6_copyFrom cX6_copyFrom 2 none 1 := by
  have w1 := wd_819
  have w2 := wd_933
  have w3 := wd_817
  have w4 := wd_818
  have w5 := wd_5
  exact ⟨⟨TX6, 6, rfl⟩, by decide +kernel, w1, w2, w3, w4, w5⟩
theorem vl_X10_249 : wVl RX10 249 6 yX6_freeLines cX6_freeLines 3 (some .int) 0 := by
  have w1 := wd_942
  have w2 := wd_939
  have w3 := wd_940
  have w4 := wd_941
  have w5 := wd_5
  exact ⟨⟨TX6, 6, rfl⟩, by decide +kernel, w1, w2, w3, w4, w5⟩
theorem vl_X10_252 : wVl RX10 252 3 yX3_find cX3_find 5 none 1 := by
  have w1 := wd_946
  have w2 := wd_943
  have w3 := wd_944
  have w4 := wd_945
  have w5 := wd_9
  exact ⟨⟨TX3, 7, rfl⟩, by decide +kernel, w1, w2, w3, w4, w5⟩
theorem vl_X10_262 : wVl RX10 262 6 yX6_textsOver cX6_textsOver 7 (some .int) 1 := by
  have w1 := wd_982
  have w2 := wd_979
  have w3 := wd_980
  have w4 := wd_981
  have w5 := wd_5
  exact ⟨⟨TX6, 6, rfl⟩, by decide +kernel, w1, w2, w3, w4, w5⟩
theorem vl_X10_265 : wVl RX10 265 6 yX6_pairsAlike cX6_pairsAlike 4 (some .int) 0 := by
  have w1 := wd_998
  have w2 := wd_995
  have w3 := wd_996
  have w4 := wd_997
  have w5 := wd_5
  exact ⟨⟨TX6, 6, rfl⟩, by decide +kernel, w1, w2, w3, w4, w5⟩
theorem vl_X10_271 : wVl RX10 271 5 yX5_add cX5_add 5 (some .boolean) 4 := by
  have w1 := wd_1014
  have w2 := wd_1011
  have w3 := wd_1012
  have w4 := wd_1013
  have w5 := wd_7
  exact ⟨⟨TX5, 5, rfl⟩, by decide +kernel, w1, w2, w3, w4, w5⟩
theorem vl_X10_275 : wVl RX10 275 10 yX10_textsAsSeen cX10_textsAsSeen 3 (some .int) 0 := by
  have w1 := wd_1022
  have w2 := wd_1019
  have w3 := wd_1021
  have w4 := wp_23
  have w5 := wd_1
  exact ⟨⟨TX10, 12, rfl⟩, by decide +kernel, w1, w2, w3, w4, w5⟩
theorem vl_X10_281 : wVl RX10 281 5 yX5_agrees cX5_agrees 6 (some .boolean) 3 := by
  have w1 := wd_1026
  have w2 := wd_1023
  have w3 := wd_1024
  have w4 := wd_1025
  have w5 := wd_7
  exact ⟨⟨TX5, 5, rfl⟩, by decide +kernel, w1, w2, w3, w4, w5⟩
theorem vl_X10_285 : wVl RX10 285 4 yX4_howManyShow cX4_howManyShow 7 (some .int) 4 := by
  have w1 := wd_1035
  have w2 := wd_1032
  have w3 := wd_1033
  have w4 := wd_1034
  have w5 := wd_3
  exact ⟨⟨TX4, 13, rfl⟩, by decide +kernel, w1, w2, w3, w4, w5⟩
theorem sl_X10_290 : wSl1 RX10 290 yX10_isGain cX10_isGain 1 (some .boolean) 1 := ⟨by decide +kernel, wd_1100, wd_1098, wd_1099, wd_1⟩
theorem sl_X10_296 : wSl1 RX10 296 yX10_isContent cX10_isContent 5 (some .boolean) 5 := ⟨by decide +kernel, wd_1164, wd_1162, wd_1163, wd_1⟩
theorem sl_X10_300 : wSl1 RX10 300 yX10_gainOf cX10_gainOf 5 (some .int) 5 := ⟨by decide +kernel, wd_1167, wd_1165, wd_1166, wd_1⟩
theorem vl_X10_304 : wVl RX10 304 1 yX1_start cX1_start 2 none 1 := by
  have w1 := wd_1049
  have w2 := wd_1046
  have w3 := wd_1047
  have w4 := wd_1048
  have w5 := wd_10
  exact ⟨⟨TX1, 1, rfl⟩, by decide +kernel, w1, w2, w3, w4, w5⟩
theorem vl_X10_307 : wVl RX10 307 6 yX6_liveByDraws cX6_liveByDraws 6 (some .boolean) 1 := by
  have w1 := wd_1053
  have w2 := wd_1050
  have w3 := wd_1051
  have w4 := wd_1052
  have w5 := wd_5
  exact ⟨⟨TX6, 6, rfl⟩, by decide +kernel, w1, w2, w3, w4, w5⟩
theorem vl_X10_311 : wVl RX10 311 6 yX6_thickTogether cX6_thickTogether 3 (some .int) 0 := by
  have w1 := wd_1065
  have w2 := wd_1062
  have w3 := wd_1063
  have w4 := wd_1064
  have w5 := wd_5
  exact ⟨⟨TX6, 6, rfl⟩, by decide +kernel, w1, w2, w3, w4, w5⟩
theorem vl_X10_314 : wVl RX10 314 0 yX0_keep cX0_keep 4 none 3 := by
  have w1 := wd_1073
  have w2 := wd_1070
  have w3 := wd_1071
  have w4 := wd_1072
  have w5 := wd_11
  exact ⟨⟨TX0, 4, rfl⟩, by decide +kernel, w1, w2, w3, w4, w5⟩
theorem vl_X10_322 : wVl RX10 322 5 yX5_copyFrom cX5_copyFrom 2 none 1 := by
  have w1 := wd_1079
  have w2 := wd_1081
  have w3 := wd_1077
  have w4 := wd_1078
  have w5 := wd_7
  exact ⟨⟨TX5, 5, rfl⟩, by decide +kernel, w1, w2, w3, w4, w5⟩
theorem vl_X10_325 : wVl RX10 325 6 yX6_layersTogether cX6_layersTogether 3 (some .int) 0 := by
  have w1 := wd_1089
  have w2 := wd_1086
  have w3 := wd_1087
  have w4 := wd_1088
  have w5 := wd_5
  exact ⟨⟨TX6, 6, rfl⟩, by decide +kernel, w1, w2, w3, w4, w5⟩
theorem vl_X0_32 : wVl RX0 32 6 yX6_copyFrom cX6_copyFrom 2 none 1 := by
  have w1 := wd_819
  have w2 := wd_1074
  have w3 := wd_817
  have w4 := wd_818
  have w5 := wd_5
  exact ⟨⟨TX6, 6, rfl⟩, by decide +kernel, w1, w2, w3, w4, w5⟩
theorem vl_X0_36 : wVl RX0 36 9 yX9_copyFrom cX9_copyFrom 2 none 1 := by
  have w1 := wd_720
  have w2 := wd_1075
  have w3 := wd_718
  have w4 := wd_719
  have w5 := wd_6
  exact ⟨⟨TX9, 2, rfl⟩, by decide +kernel, w1, w2, w3, w4, w5⟩
theorem vl_X0_39 : wVl RX0 39 5 yX5_copyFrom cX5_copyFrom 2 none 1 := by
  have w1 := wd_1079
  have w2 := wd_1076
  have w3 := wd_1077
  have w4 := wd_1078
  have w5 := wd_7
  exact ⟨⟨TX5, 5, rfl⟩, by decide +kernel, w1, w2, w3, w4, w5⟩
theorem vl_X2_32 : wVl RX2 32 2 yX2_add cX2_add 2 none 1 := by
  have w1 := wd_374
  have w2 := wd_371
  have w3 := wd_373
  have w4 := wp_0
  have w5 := wd_4
  exact ⟨⟨TX2, 4, rfl⟩, by decide +kernel, w1, w2, w3, w4, w5⟩
theorem vl_X2_36 : wVl RX2 36 7 yX7_fail cX7_fail 2 none 1 := by
  have w1 := wd_520
  have w2 := wd_621
  have w3 := wd_518
  have w4 := wd_519
  have w5 := wd_2
  exact ⟨⟨TX7, 8, rfl⟩, by decide +kernel, w1, w2, w3, w4, w5⟩
theorem vl_X2_39 : wVl RX2 39 7 yX7_next cX7_next 2 none 0 := by
  have w1 := wd_382
  have w2 := wd_622
  have w3 := wd_380
  have w4 := wd_381
  have w5 := wd_2
  exact ⟨⟨TX7, 8, rfl⟩, by decide +kernel, w1, w2, w3, w4, w5⟩
theorem vl_X2_42 : wVl RX2 42 2 yX2_readLevel cX2_readLevel 7 none 3 := by
  have w1 := wd_626
  have w2 := wd_623
  have w3 := wd_625
  have w4 := wp_8
  have w5 := wd_4
  exact ⟨⟨TX2, 4, rfl⟩, by decide +kernel, w1, w2, w3, w4, w5⟩
theorem vl_X2_46 : wVl RX2 46 7 yX7_takeSign cX7_takeSign 2 none 1 := by
  have w1 := wd_572
  have w2 := wd_643
  have w3 := wd_570
  have w4 := wd_571
  have w5 := wd_2
  exact ⟨⟨TX7, 8, rfl⟩, by decide +kernel, w1, w2, w3, w4, w5⟩
theorem vl_X2_50 : wVl RX2 50 2 yX2_readPart cX2_readPart 5 none 2 := by
  have w1 := wd_630
  have w2 := wd_627
  have w3 := wd_629
  have w4 := wp_9
  have w5 := wd_4
  exact ⟨⟨TX2, 4, rfl⟩, by decide +kernel, w1, w2, w3, w4, w5⟩
theorem vl_X2_54 : wVl RX2 54 7 yX7_isSound cX7_isSound 1 (some .boolean) 0 := by
  have w1 := wd_482
  have w2 := wd_631
  have w3 := wd_480
  have w4 := wd_481
  have w5 := wd_2
  exact ⟨⟨TX7, 8, rfl⟩, by decide +kernel, w1, w2, w3, w4, w5⟩
theorem sl_X2_58 : wSl1 RX2 58 yX2_jointAt cX2_jointAt 2 (some .int) 2 := ⟨by decide +kernel, wd_646, wd_644, wd_645, wd_4⟩
theorem vl_X2_64 : wVl RX2 64 7 yX7_isWord cX7_isWord 3 (some .boolean) 1 := by
  have w1 := wd_491
  have w2 := wd_636
  have w3 := wd_489
  have w4 := wd_490
  have w5 := wd_2
  exact ⟨⟨TX7, 8, rfl⟩, by decide +kernel, w1, w2, w3, w4, w5⟩
theorem vl_X2_70 : wVl RX2 70 7 yX7_isSign cX7_isSign 2 (some .boolean) 1 := by
  have w1 := wd_576
  have w2 := wd_642
  have w3 := wd_574
  have w4 := wd_575
  have w5 := wd_2
  exact ⟨⟨TX7, 8, rfl⟩, by decide +kernel, w1, w2, w3, w4, w5⟩
theorem sl_X2_74 : wSl1 RX2 74 yX2_factAt cX2_factAt 1 (some .int) 1 := ⟨by decide +kernel, wd_634, wd_632, wd_633, wd_4⟩
theorem vl_X2_80 : wVl RX2 80 7 yX7_isNumber cX7_isNumber 1 (some .boolean) 0 := by
  have w1 := wd_615
  have w2 := wd_641
  have w3 := wd_613
  have w4 := wd_614
  have w5 := wd_2
  exact ⟨⟨TX7, 8, rfl⟩, by decide +kernel, w1, w2, w3, w4, w5⟩
theorem sl_X2_94 : wSl1 RX2 94 yX2_joined cX2_joined 3 (some .int) 3 := ⟨by decide +kernel, wd_760, wd_758, wd_759, wd_4⟩
theorem vl_X3_34 : wVl RX3 34 3 yX3_canLay cX3_canLay 4 (some .boolean) 3 := by
  have w1 := wd_950
  have w2 := wd_947
  have w3 := wd_949
  have w4 := wp_17
  have w5 := wd_9
  exact ⟨⟨TX3, 7, rfl⟩, by decide +kernel, w1, w2, w3, w4, w5⟩
theorem vl_X3_38 : wVl RX3 38 3 yX3_firstPlaceLeaving cX3_firstPlaceLeaving 7 (some .int) 3 := by
  have w1 := wd_966
  have w2 := wd_963
  have w3 := wd_965
  have w4 := wp_21
  have w5 := wd_9
  exact ⟨⟨TX3, 7, rfl⟩, by decide +kernel, w1, w2, w3, w4, w5⟩
theorem vl_X3_42 : wVl RX3 42 3 yX3_linesOf cX3_linesOf 3 (some .int) 2 := by
  have w1 := wd_970
  have w2 := wd_967
  have w3 := wd_969
  have w4 := wp_22
  have w5 := wd_9
  exact ⟨⟨TX3, 7, rfl⟩, by decide +kernel, w1, w2, w3, w4, w5⟩
theorem vl_X3_49 : wVl RX3 49 3 yX3_gatherShortest cX3_gatherShortest 5 none 2 := by
  have w1 := wd_954
  have w2 := wd_951
  have w3 := wd_953
  have w4 := wp_18
  have w5 := wd_9
  exact ⟨⟨TX3, 7, rfl⟩, by decide +kernel, w1, w2, w3, w4, w5⟩
theorem vl_X3_56 : wVl RX3 56 3 yX3_gatherStretches cX3_gatherStretches 6 none 1 := by
  have w1 := wd_958
  have w2 := wd_955
  have w3 := wd_957
  have w4 := wp_19
  have w5 := wd_9
  exact ⟨⟨TX3, 7, rfl⟩, by decide +kernel, w1, w2, w3, w4, w5⟩
theorem vl_X3_60 : wVl RX3 60 3 yX3_fill cX3_fill 8 (some .boolean) 1 := by
  have w1 := wd_962
  have w2 := wd_959
  have w3 := wd_961
  have w4 := wp_20
  have w5 := wd_9
  exact ⟨⟨TX3, 7, rfl⟩, by decide +kernel, w1, w2, w3, w4, w5⟩
theorem vl_X4_63 : wVl RX4 63 2 yX2_copyFrom cX2_copyFrom 2 none 1 := by
  have w1 := wd_663
  have w2 := wd_660
  have w3 := wd_661
  have w4 := wd_662
  have w5 := wd_4
  exact ⟨⟨TX2, 4, rfl⟩, by decide +kernel, w1, w2, w3, w4, w5⟩
theorem vl_X4_67 : wVl RX4 67 2 yX2_setUntold cX2_setUntold 1 none 0 := by
  have w1 := wd_370
  have w2 := wd_367
  have w3 := wd_368
  have w4 := wd_369
  have w5 := wd_4
  exact ⟨⟨TX2, 4, rfl⟩, by decide +kernel, w1, w2, w3, w4, w5⟩
theorem vl_X4_70 : wVl RX4 70 7 yX7_rewind cX7_rewind 1 none 0 := by
  have w1 := wd_378
  have w2 := wd_375
  have w3 := wd_376
  have w4 := wd_377
  have w5 := wd_2
  exact ⟨⟨TX7, 8, rfl⟩, by decide +kernel, w1, w2, w3, w4, w5⟩
theorem vl_X4_75 : wVl RX4 75 7 yX7_isSound cX7_isSound 1 (some .boolean) 0 := by
  have w1 := wd_482
  have w2 := wd_479
  have w3 := wd_480
  have w4 := wd_481
  have w5 := wd_2
  exact ⟨⟨TX7, 8, rfl⟩, by decide +kernel, w1, w2, w3, w4, w5⟩
theorem vl_X4_79 : wVl RX4 79 7 yX7_isAtEnd cX7_isAtEnd 1 (some .boolean) 0 := by
  have w1 := wd_486
  have w2 := wd_483
  have w3 := wd_484
  have w4 := wd_485
  have w5 := wd_2
  exact ⟨⟨TX7, 8, rfl⟩, by decide +kernel, w1, w2, w3, w4, w5⟩
theorem vl_X4_84 : wVl RX4 84 7 yX7_isWord cX7_isWord 3 (some .boolean) 1 := by
  have w1 := wd_491
  have w2 := wd_488
  have w3 := wd_489
  have w4 := wd_490
  have w5 := wd_2
  exact ⟨⟨TX7, 8, rfl⟩, by decide +kernel, w1, w2, w3, w4, w5⟩
theorem vl_X4_88 : wVl RX4 88 4 yX4_readSkin cX4_readSkin 2 none 1 := by
  have w1 := wd_516
  have w2 := wd_513
  have w3 := wd_515
  have w4 := wp_3
  have w5 := wd_3
  exact ⟨⟨TX4, 13, rfl⟩, by decide +kernel, w1, w2, w3, w4, w5⟩
theorem vl_X4_94 : wVl RX4 94 4 yX4_readHole cX4_readHole 4 none 1 := by
  have w1 := wd_581
  have w2 := wd_578
  have w3 := wd_580
  have w4 := wp_5
  have w5 := wd_3
  exact ⟨⟨TX4, 13, rfl⟩, by decide +kernel, w1, w2, w3, w4, w5⟩
theorem vl_X4_99 : wVl RX4 99 4 yX4_readText cX4_readText 2 none 1 := by
  have w1 := wd_594
  have w2 := wd_591
  have w3 := wd_593
  have w4 := wp_6
  have w5 := wd_3
  exact ⟨⟨TX4, 13, rfl⟩, by decide +kernel, w1, w2, w3, w4, w5⟩
theorem vl_X4_103 : wVl RX4 103 4 yX4_readDamp cX4_readDamp 3 none 1 := by
  have w1 := wd_611
  have w2 := wd_608
  have w3 := wd_610
  have w4 := wp_7
  have w5 := wd_3
  exact ⟨⟨TX4, 13, rfl⟩, by decide +kernel, w1, w2, w3, w4, w5⟩
theorem vl_X4_108 : wVl RX4 108 2 yX2_readFrom cX2_readFrom 2 none 1 := by
  have w1 := wd_620
  have w2 := wd_617
  have w3 := wd_618
  have w4 := wd_619
  have w5 := wd_4
  exact ⟨⟨TX2, 4, rfl⟩, by decide +kernel, w1, w2, w3, w4, w5⟩
theorem vl_X4_111 : wVl RX4 111 7 yX7_fail cX7_fail 2 none 1 := by
  have w1 := wd_520
  have w2 := wd_517
  have w3 := wd_518
  have w4 := wd_519
  have w5 := wd_2
  exact ⟨⟨TX7, 8, rfl⟩, by decide +kernel, w1, w2, w3, w4, w5⟩
theorem vl_X4_118 : wVl RX4 118 7 yX7_next cX7_next 2 none 0 := by
  have w1 := wd_382
  have w2 := wd_521
  have w3 := wd_380
  have w4 := wd_381
  have w5 := wd_2
  exact ⟨⟨TX7, 8, rfl⟩, by decide +kernel, w1, w2, w3, w4, w5⟩
theorem vl_X4_121 : wVl RX4 121 4 yX4_takeNewName cX4_takeNewName 4 (some .long) 1 := by
  have w1 := wd_525
  have w2 := wd_522
  have w3 := wd_524
  have w4 := wp_4
  have w5 := wd_3
  exact ⟨⟨TX4, 13, rfl⟩, by decide +kernel, w1, w2, w3, w4, w5⟩
theorem vl_X4_126 : wVl RX4 126 7 yX7_takeWord cX7_takeWord 2 none 1 := by
  have w1 := wd_558
  have w2 := wd_555
  have w3 := wd_556
  have w4 := wd_557
  have w5 := wd_2
  exact ⟨⟨TX7, 8, rfl⟩, by decide +kernel, w1, w2, w3, w4, w5⟩
theorem vl_X4_130 : wVl RX4 130 7 yX7_takeNumber cX7_takeNumber 4 (some .int) 2 := by
  have w1 := wd_563
  have w2 := wd_560
  have w3 := wd_561
  have w4 := wd_562
  have w5 := wd_2
  exact ⟨⟨TX7, 8, rfl⟩, by decide +kernel, w1, w2, w3, w4, w5⟩
theorem vl_X4_135 : wVl RX4 135 7 yX7_takeSign cX7_takeSign 2 none 1 := by
  have w1 := wd_572
  have w2 := wd_569
  have w3 := wd_570
  have w4 := wd_571
  have w5 := wd_2
  exact ⟨⟨TX7, 8, rfl⟩, by decide +kernel, w1, w2, w3, w4, w5⟩
theorem vl_X4_139 : wVl RX4 139 4 yX4_takeSkin cX4_takeSkin 2 (some .int) 1 := by
  have w1 := wd_585
  have w2 := wd_582
  have w3 := wd_583
  have w4 := wd_584
  have w5 := wd_3
  exact ⟨⟨TX4, 13, rfl⟩, by decide +kernel, w1, w2, w3, w4, w5⟩
theorem vl_X4_143 : wVl RX4 143 7 yX7_isNumberWithin cX7_isNumberWithin 3 (some .boolean) 2 := by
  have w1 := wd_567
  have w2 := wd_589
  have w3 := wd_565
  have w4 := wd_566
  have w5 := wd_2
  exact ⟨⟨TX7, 8, rfl⟩, by decide +kernel, w1, w2, w3, w4, w5⟩
theorem sl_X4_150 : wSl1 RX4 150 yX4_takeKind cX4_takeKind 2 (some .int) 1 := ⟨by decide +kernel, wd_597, wd_595, wd_596, wd_3⟩
theorem sl_X4_153 : wSl1 RX4 153 yX4_takeInk cX4_takeInk 2 (some .int) 1 := ⟨by decide +kernel, wd_604, wd_602, wd_603, wd_3⟩
theorem vl_X4_168 : wVl RX4 168 7 yX7_isNumber cX7_isNumber 1 (some .boolean) 0 := by
  have w1 := wd_615
  have w2 := wd_612
  have w3 := wd_613
  have w4 := wd_614
  have w5 := wd_2
  exact ⟨⟨TX7, 8, rfl⟩, by decide +kernel, w1, w2, w3, w4, w5⟩
theorem vl_X4_175 : wVl RX4 175 7 yX7_isName cX7_isName 2 (some .boolean) 0 := by
  have w1 := wd_529
  have w2 := wd_526
  have w3 := wd_527
  have w4 := wd_528
  have w5 := wd_2
  exact ⟨⟨TX7, 8, rfl⟩, by decide +kernel, w1, w2, w3, w4, w5⟩
theorem sl_X4_178 : wSl1 RX4 178 yX4_indexOf cX4_indexOf 5 (some .int) 3 := ⟨by decide +kernel, wd_553, wd_551, wd_552, wd_3⟩
theorem sl_X4_182 : wSl1 RX4 182 yX4_takeTold cX4_takeTold 4 (some .int) 3 := ⟨by decide +kernel, wd_588, wd_586, wd_587, wd_3⟩
theorem vl_X4_186 : wVl RX4 186 4 yX4_hasSkin cX4_hasSkin 2 (some .boolean) 1 := by
  have w1 := wd_729
  have w2 := wd_789
  have w3 := wd_727
  have w4 := wd_728
  have w5 := wd_3
  exact ⟨⟨TX4, 13, rfl⟩, by decide +kernel, w1, w2, w3, w4, w5⟩
theorem vl_X4_190 : wVl RX4 190 2 yX2_holds cX2_holds 8 (some .boolean) 4 := by
  have w1 := wd_757
  have w2 := wd_754
  have w3 := wd_755
  have w4 := wd_756
  have w5 := wd_4
  exact ⟨⟨TX2, 4, rfl⟩, by decide +kernel, w1, w2, w3, w4, w5⟩
theorem vl_X4_194 : wVl RX4 194 4 yX4_showsText cX4_showsText 7 (some .boolean) 4 := by
  have w1 := wd_753
  have w2 := wd_1036
  have w3 := wd_751
  have w4 := wd_752
  have w5 := wd_3
  exact ⟨⟨TX4, 13, rfl⟩, by decide +kernel, w1, w2, w3, w4, w5⟩
theorem vl_X5_37 : wVl RX5 37 4 yX4_showsText cX4_showsText 7 (some .boolean) 4 := by
  have w1 := wd_753
  have w2 := wd_1027
  have w3 := wd_751
  have w4 := wd_752
  have w5 := wd_3
  exact ⟨⟨TX4, 13, rfl⟩, by decide +kernel, w1, w2, w3, w4, w5⟩
theorem vl_X6_32 : wVl RX6 32 6 yX6_strip cX6_strip 3 none 1 := by
  have w1 := wd_672
  have w2 := wd_669
  have w3 := wd_671
  have w4 := wp_10
  have w5 := wd_5
  exact ⟨⟨TX6, 6, rfl⟩, by decide +kernel, w1, w2, w3, w4, w5⟩
theorem vl_X6_48 : wVl RX6 48 4 yX4_dampOf cX4_dampOf 2 (some .int) 1 := by
  have w1 := wd_737
  have w2 := wd_734
  have w3 := wd_735
  have w4 := wd_736
  have w5 := wd_3
  exact ⟨⟨TX4, 13, rfl⟩, by decide +kernel, w1, w2, w3, w4, w5⟩
theorem vl_X6_58 : wVl RX6 58 6 yX6_freeLinesOf cX6_freeLinesOf 4 (some .int) 1 := by
  have w1 := wd_811
  have w2 := wd_808
  have w3 := wd_810
  have w4 := wp_12
  have w5 := wd_5
  exact ⟨⟨TX6, 6, rfl⟩, by decide +kernel, w1, w2, w3, w4, w5⟩
theorem vl_X6_64 : wVl RX6 64 6 yX6_canWrite cX6_canWrite 5 (some .boolean) 3 := by
  have w1 := wd_807
  have w2 := wd_881
  have w3 := wd_805
  have w4 := wd_806
  have w5 := wd_5
  exact ⟨⟨TX6, 6, rfl⟩, by decide +kernel, w1, w2, w3, w4, w5⟩
theorem vl_X6_68 : wVl RX6 68 6 yX6_wearOf cX6_wearOf 8 (some .int) 2 := by
  have w1 := wd_845
  have w2 := wd_842
  have w3 := wd_844
  have w4 := wp_14
  have w5 := wd_5
  exact ⟨⟨TX6, 6, rfl⟩, by decide +kernel, w1, w2, w3, w4, w5⟩
theorem vl_X6_77 : wVl RX6 77 6 yX6_layerAt cX6_layerAt 3 (some .int) 2 := by
  have w1 := wd_749
  have w2 := wd_746
  have w3 := wd_747
  have w4 := wd_748
  have w5 := wd_5
  exact ⟨⟨TX6, 6, rfl⟩, by decide +kernel, w1, w2, w3, w4, w5⟩
theorem vl_X6_88 : wVl RX6 88 4 yX4_hasSkin cX4_hasSkin 2 (some .boolean) 1 := by
  have w1 := wd_729
  have w2 := wd_875
  have w3 := wd_727
  have w4 := wd_728
  have w5 := wd_3
  exact ⟨⟨TX4, 13, rfl⟩, by decide +kernel, w1, w2, w3, w4, w5⟩
theorem vl_X6_92 : wVl RX6 92 4 yX4_hasText cX4_hasText 2 (some .boolean) 1 := by
  have w1 := wd_768
  have w2 := wd_876
  have w3 := wd_766
  have w4 := wd_767
  have w5 := wd_3
  exact ⟨⟨TX4, 13, rfl⟩, by decide +kernel, w1, w2, w3, w4, w5⟩
theorem vl_X6_95 : wVl RX6 95 6 yX6_writeIfCan cX6_writeIfCan 4 (some .boolean) 3 := by
  have w1 := wd_880
  have w2 := wd_877
  have w3 := wd_879
  have w4 := wp_15
  have w5 := wd_5
  exact ⟨⟨TX6, 6, rfl⟩, by decide +kernel, w1, w2, w3, w4, w5⟩
theorem vl_X6_98 : wVl RX6 98 6 yX6_rub cX6_rub 4 (some .boolean) 2 := by
  have w1 := wd_841
  have w2 := wd_883
  have w3 := wd_839
  have w4 := wd_840
  have w5 := wd_5
  exact ⟨⟨TX6, 6, rfl⟩, by decide +kernel, w1, w2, w3, w4, w5⟩
theorem vl_X6_102 : wVl RX6 102 6 yX6_put cX6_put 6 none 3 := by
  have w1 := wd_825
  have w2 := wd_882
  have w3 := wd_823
  have w4 := wd_824
  have w5 := wd_5
  exact ⟨⟨TX6, 6, rfl⟩, by decide +kernel, w1, w2, w3, w4, w5⟩
theorem vl_X6_109 : wVl RX6 109 1 yX1_below cX1_below 2 (some .int) 1 := by
  have w1 := wd_1057
  have w2 := wd_1054
  have w3 := wd_1055
  have w4 := wd_1056
  have w5 := wd_10
  exact ⟨⟨TX1, 1, rfl⟩, by decide +kernel, w1, w2, w3, w4, w5⟩
theorem vl_X6_114 : wVl RX6 114 4 yX4_showsText cX4_showsText 7 (some .boolean) 4 := by
  have w1 := wd_753
  have w2 := wd_750
  have w3 := wd_751
  have w4 := wd_752
  have w5 := wd_3
  exact ⟨⟨TX4, 13, rfl⟩, by decide +kernel, w1, w2, w3, w4, w5⟩
theorem vl_X6_118 : wVl RX6 118 6 yX6_shown cX6_shown 8 (some .int) 3 := by
  have w1 := wd_745
  have w2 := wd_742
  have w3 := wd_743
  have w4 := wd_744
  have w5 := wd_5
  exact ⟨⟨TX6, 6, rfl⟩, by decide +kernel, w1, w2, w3, w4, w5⟩
theorem vl_X6_122 : wVl RX6 122 6 yX6_wholeTexts cX6_wholeTexts 8 (some .int) 1 := by
  have w1 := wd_776
  have w2 := wd_773
  have w3 := wd_774
  have w4 := wd_775
  have w5 := wd_5
  exact ⟨⟨TX6, 6, rfl⟩, by decide +kernel, w1, w2, w3, w4, w5⟩
theorem vl_X7_23 : wVl RX7 23 7 yX7_next cX7_next 2 none 0 := by
  have w1 := wd_382
  have w2 := wd_379
  have w3 := wd_380
  have w4 := wd_381
  have w5 := wd_2
  exact ⟨⟨TX7, 8, rfl⟩, by decide +kernel, w1, w2, w3, w4, w5⟩
theorem vl_X7_32 : wVl RX7 32 7 yX7_takeLetters cX7_takeLetters 1 none 0 := by
  have w1 := wd_386
  have w2 := wd_383
  have w3 := wd_385
  have w4 := wp_1
  have w5 := wd_2
  exact ⟨⟨TX7, 8, rfl⟩, by decide +kernel, w1, w2, w3, w4, w5⟩
theorem vl_X7_35 : wVl RX7 35 7 yX7_takeDigits cX7_takeDigits 1 none 0 := by
  have w1 := wd_391
  have w2 := wd_388
  have w3 := wd_390
  have w4 := wp_2
  have w5 := wd_2
  exact ⟨⟨TX7, 8, rfl⟩, by decide +kernel, w1, w2, w3, w4, w5⟩
theorem vl_X7_64 : wVl RX7 64 7 yX7_isWord cX7_isWord 3 (some .boolean) 1 := by
  have w1 := wd_491
  have w2 := wd_531
  have w3 := wd_489
  have w4 := wd_490
  have w5 := wd_2
  exact ⟨⟨TX7, 8, rfl⟩, by decide +kernel, w1, w2, w3, w4, w5⟩
theorem vl_X7_106 : wVl RX7 106 7 yX7_fail cX7_fail 2 none 1 := by
  have w1 := wd_520
  have w2 := wd_559
  have w3 := wd_518
  have w4 := wd_519
  have w5 := wd_2
  exact ⟨⟨TX7, 8, rfl⟩, by decide +kernel, w1, w2, w3, w4, w5⟩
theorem vl_X7_110 : wVl RX7 110 7 yX7_isSign cX7_isSign 2 (some .boolean) 1 := by
  have w1 := wd_576
  have w2 := wd_573
  have w3 := wd_574
  have w4 := wd_575
  have w5 := wd_2
  exact ⟨⟨TX7, 8, rfl⟩, by decide +kernel, w1, w2, w3, w4, w5⟩
theorem vl_X7_114 : wVl RX7 114 7 yX7_isNumberWithin cX7_isNumberWithin 3 (some .boolean) 2 := by
  have w1 := wd_567
  have w2 := wd_564
  have w3 := wd_565
  have w4 := wd_566
  have w5 := wd_2
  exact ⟨⟨TX7, 8, rfl⟩, by decide +kernel, w1, w2, w3, w4, w5⟩
theorem vl_X8_25 : wVl RX8 25 6 yX6_copyFrom cX6_copyFrom 2 none 1 := by
  have w1 := wd_819
  have w2 := wd_816
  have w3 := wd_817
  have w4 := wd_818
  have w5 := wd_5
  exact ⟨⟨TX6, 6, rfl⟩, by decide +kernel, w1, w2, w3, w4, w5⟩
theorem vl_X9_25 : wVl RX9 25 7 yX7_rewind cX7_rewind 1 none 0 := by
  have w1 := wd_378
  have w2 := wd_693
  have w3 := wd_376
  have w4 := wd_377
  have w5 := wd_2
  exact ⟨⟨TX7, 8, rfl⟩, by decide +kernel, w1, w2, w3, w4, w5⟩
theorem vl_X9_30 : wVl RX9 30 7 yX7_isSound cX7_isSound 1 (some .boolean) 0 := by
  have w1 := wd_482
  have w2 := wd_694
  have w3 := wd_480
  have w4 := wd_481
  have w5 := wd_2
  exact ⟨⟨TX7, 8, rfl⟩, by decide +kernel, w1, w2, w3, w4, w5⟩
theorem vl_X9_34 : wVl RX9 34 7 yX7_isAtEnd cX7_isAtEnd 1 (some .boolean) 0 := by
  have w1 := wd_486
  have w2 := wd_695
  have w3 := wd_484
  have w4 := wd_485
  have w5 := wd_2
  exact ⟨⟨TX7, 8, rfl⟩, by decide +kernel, w1, w2, w3, w4, w5⟩
theorem vl_X9_37 : wVl RX9 37 9 yX9_readOne cX9_readOne 5 none 2 := by
  have w1 := wd_699
  have w2 := wd_696
  have w3 := wd_698
  have w4 := wp_11
  have w5 := wd_6
  exact ⟨⟨TX9, 2, rfl⟩, by decide +kernel, w1, w2, w3, w4, w5⟩
theorem sl_X9_44 : wSl1 RX9 44 yX9_actAt cX9_actAt 1 (some .int) 1 := ⟨by decide +kernel, wd_702, wd_700, wd_701, wd_6⟩
theorem vl_X9_48 : wVl RX9 48 7 yX7_fail cX7_fail 2 none 1 := by
  have w1 := wd_520
  have w2 := wd_708
  have w3 := wd_518
  have w4 := wd_519
  have w5 := wd_2
  exact ⟨⟨TX7, 8, rfl⟩, by decide +kernel, w1, w2, w3, w4, w5⟩
theorem vl_X9_52 : wVl RX9 52 7 yX7_next cX7_next 2 none 0 := by
  have w1 := wd_382
  have w2 := wd_709
  have w3 := wd_380
  have w4 := wd_381
  have w5 := wd_2
  exact ⟨⟨TX7, 8, rfl⟩, by decide +kernel, w1, w2, w3, w4, w5⟩
theorem vl_X9_55 : wVl RX9 55 4 yX4_takeText cX4_takeText 2 (some .int) 1 := by
  have w1 := wd_713
  have w2 := wd_710
  have w3 := wd_711
  have w4 := wd_712
  have w5 := wd_3
  exact ⟨⟨TX4, 13, rfl⟩, by decide +kernel, w1, w2, w3, w4, w5⟩
theorem vl_X9_60 : wVl RX9 60 4 yX4_takeSkin cX4_takeSkin 2 (some .int) 1 := by
  have w1 := wd_585
  have w2 := wd_714
  have w3 := wd_583
  have w4 := wd_584
  have w5 := wd_3
  exact ⟨⟨TX4, 13, rfl⟩, by decide +kernel, w1, w2, w3, w4, w5⟩
theorem vl_X9_63 : wVl RX9 63 7 yX7_takeNumber cX7_takeNumber 4 (some .int) 2 := by
  have w1 := wd_563
  have w2 := wd_715
  have w3 := wd_561
  have w4 := wd_562
  have w5 := wd_2
  exact ⟨⟨TX7, 8, rfl⟩, by decide +kernel, w1, w2, w3, w4, w5⟩
theorem vl_X9_67 : wVl RX9 67 7 yX7_takeSign cX7_takeSign 2 none 1 := by
  have w1 := wd_572
  have w2 := wd_716
  have w3 := wd_570
  have w4 := wd_571
  have w5 := wd_2
  exact ⟨⟨TX7, 8, rfl⟩, by decide +kernel, w1, w2, w3, w4, w5⟩
theorem vl_X9_73 : wVl RX9 73 7 yX7_isWord cX7_isWord 3 (some .boolean) 1 := by
  have w1 := wd_491
  have w2 := wd_704
  have w3 := wd_489
  have w4 := wd_490
  have w5 := wd_2
  exact ⟨⟨TX7, 8, rfl⟩, by decide +kernel, w1, w2, w3, w4, w5⟩
theorem vl_L_21 : wVl RL 21 10 yX10_feed cX10_feed 7 (some .int) 3 := by
  have w1 := wd_354
  have w2 := wd_351
  have w3 := wd_352
  have w4 := wd_353
  have w5 := wd_1
  exact ⟨⟨TX10, 12, rfl⟩, by decide +kernel, w1, w2, w3, w4, w5⟩
theorem vl_L_25 : wVl RL 25 11 yX11_feed cX11_feed 11 (some .int) 3 := by
  have w1 := wd_1360
  have w2 := wd_1357
  have w3 := wd_1358
  have w4 := wd_1359
  have w5 := wd_12
  exact ⟨⟨TX11, 59, rfl⟩, by decide +kernel, w1, w2, w3, w4, w5⟩
theorem vl_L_26 : wVl RL 26 10 yX10_library cX10_library 3 (some .int) 0 := by
  have w1 := wd_362
  have w2 := wd_359
  have w3 := wd_360
  have w4 := wd_361
  have w5 := wd_1
  exact ⟨⟨TX10, 12, rfl⟩, by decide +kernel, w1, w2, w3, w4, w5⟩
theorem vl_L_30 : wVl RL 30 11 yX11_library cX11_library 2 (some .int) 0 := by
  have w1 := wd_1365
  have w2 := wd_1362
  have w3 := wd_1363
  have w4 := wd_1364
  have w5 := wd_12
  exact ⟨⟨TX11, 59, rfl⟩, by decide +kernel, w1, w2, w3, w4, w5⟩
theorem vl_L_31 : wVl RL 31 10 yX10_year cX10_year 2 (some .int) 0 := by
  have w1 := wd_688
  have w2 := wd_685
  have w3 := wd_686
  have w4 := wd_687
  have w5 := wd_1
  exact ⟨⟨TX10, 12, rfl⟩, by decide +kernel, w1, w2, w3, w4, w5⟩
theorem vl_L_34 : wVl RL 34 11 yX11_year cX11_year 1 (some .int) 0 := by
  have w1 := wd_1504
  have w2 := wd_1501
  have w3 := wd_1502
  have w4 := wd_1503
  have w5 := wd_12
  exact ⟨⟨TX11, 59, rfl⟩, by decide +kernel, w1, w2, w3, w4, w5⟩
theorem vl_L_35 : wVl RL 35 10 yX10_skin cX10_skin 3 (some .int) 2 := by
  have w1 := wd_725
  have w2 := wd_722
  have w3 := wd_723
  have w4 := wd_724
  have w5 := wd_1
  exact ⟨⟨TX10, 12, rfl⟩, by decide +kernel, w1, w2, w3, w4, w5⟩
theorem vl_L_39 : wVl RL 39 11 yX11_skin cX11_skin 3 (some .int) 2 := by
  have w1 := wd_1520
  have w2 := wd_1517
  have w3 := wd_1518
  have w4 := wd_1519
  have w5 := wd_12
  exact ⟨⟨TX11, 59, rfl⟩, by decide +kernel, w1, w2, w3, w4, w5⟩
theorem vl_L_40 : wVl RL 40 10 yX10_text cX10_text 3 (some .int) 2 := by
  have w1 := wd_764
  have w2 := wd_761
  have w3 := wd_762
  have w4 := wd_763
  have w5 := wd_1
  exact ⟨⟨TX10, 12, rfl⟩, by decide +kernel, w1, w2, w3, w4, w5⟩
theorem vl_L_43 : wVl RL 43 11 yX11_text cX11_text 3 (some .int) 2 := by
  have w1 := wd_1560
  have w2 := wd_1557
  have w3 := wd_1558
  have w4 := wd_1559
  have w5 := wd_12
  exact ⟨⟨TX11, 59, rfl⟩, by decide +kernel, w1, w2, w3, w4, w5⟩
theorem vl_L_44 : wVl RL 44 10 yX10_layers cX10_layers 3 (some .int) 2 := by
  have w1 := wd_784
  have w2 := wd_781
  have w3 := wd_782
  have w4 := wd_783
  have w5 := wd_1
  exact ⟨⟨TX10, 12, rfl⟩, by decide +kernel, w1, w2, w3, w4, w5⟩
theorem vl_L_47 : wVl RL 47 11 yX11_layers cX11_layers 3 (some .int) 2 := by
  have w1 := wd_1583
  have w2 := wd_1580
  have w3 := wd_1581
  have w4 := wd_1582
  have w5 := wd_12
  exact ⟨⟨TX11, 59, rfl⟩, by decide +kernel, w1, w2, w3, w4, w5⟩
theorem vl_L_48 : wVl RL 48 10 yX10_layer cX10_layer 4 (some .int) 3 := by
  have w1 := wd_793
  have w2 := wd_790
  have w3 := wd_791
  have w4 := wd_792
  have w5 := wd_1
  exact ⟨⟨TX10, 12, rfl⟩, by decide +kernel, w1, w2, w3, w4, w5⟩
theorem vl_L_52 : wVl RL 52 11 yX11_layer cX11_layer 4 (some .int) 3 := by
  have w1 := wd_1594
  have w2 := wd_1591
  have w3 := wd_1592
  have w4 := wd_1593
  have w5 := wd_12
  exact ⟨⟨TX11, 59, rfl⟩, by decide +kernel, w1, w2, w3, w4, w5⟩
theorem vl_L_53 : wVl RL 53 10 yX10_read cX10_read 3 (some .int) 2 := by
  have w1 := wd_798
  have w2 := wd_795
  have w3 := wd_796
  have w4 := wd_797
  have w5 := wd_1
  exact ⟨⟨TX10, 12, rfl⟩, by decide +kernel, w1, w2, w3, w4, w5⟩
theorem vl_L_56 : wVl RL 56 11 yX11_read cX11_read 3 (some .int) 2 := by
  have w1 := wd_1601
  have w2 := wd_1598
  have w3 := wd_1599
  have w4 := wd_1600
  have w5 := wd_12
  exact ⟨⟨TX11, 59, rfl⟩, by decide +kernel, w1, w2, w3, w4, w5⟩
theorem vl_L_57 : wVl RL 57 10 yX10_write cX10_write 4 (some .boolean) 3 := by
  have w1 := wd_803
  have w2 := wd_800
  have w3 := wd_801
  have w4 := wd_802
  have w5 := wd_1
  exact ⟨⟨TX10, 12, rfl⟩, by decide +kernel, w1, w2, w3, w4, w5⟩
theorem vl_L_61 : wVl RL 61 11 yX11_write cX11_write 4 (some .boolean) 3 := by
  have w1 := wd_1605
  have w2 := wd_1602
  have w3 := wd_1603
  have w4 := wd_1604
  have w5 := wd_12
  exact ⟨⟨TX11, 59, rfl⟩, by decide +kernel, w1, w2, w3, w4, w5⟩
theorem vl_L_62 : wVl RL 62 10 yX10_scrape cX10_scrape 2 (some .int) 1 := by
  have w1 := wd_829
  have w2 := wd_826
  have w3 := wd_827
  have w4 := wd_828
  have w5 := wd_1
  exact ⟨⟨TX10, 12, rfl⟩, by decide +kernel, w1, w2, w3, w4, w5⟩
theorem vl_L_66 : wVl RL 66 11 yX11_scrape cX11_scrape 2 (some .int) 1 := by
  have w1 := wd_1625
  have w2 := wd_1622
  have w3 := wd_1623
  have w4 := wd_1624
  have w5 := wd_12
  exact ⟨⟨TX11, 59, rfl⟩, by decide +kernel, w1, w2, w3, w4, w5⟩
theorem vl_L_67 : wVl RL 67 10 yX10_third cX10_third 2 (some .int) 1 := by
  have w1 := wd_850
  have w2 := wd_847
  have w3 := wd_848
  have w4 := wd_849
  have w5 := wd_1
  exact ⟨⟨TX10, 12, rfl⟩, by decide +kernel, w1, w2, w3, w4, w5⟩
theorem vl_L_70 : wVl RL 70 11 yX11_third cX11_third 2 (some .int) 1 := by
  have w1 := wd_1641
  have w2 := wd_1638
  have w3 := wd_1639
  have w4 := wd_1640
  have w5 := wd_12
  exact ⟨⟨TX11, 59, rfl⟩, by decide +kernel, w1, w2, w3, w4, w5⟩
theorem vl_L_71 : wVl RL 71 10 yX10_week cX10_week 1 (some .int) 0 := by
  have w1 := wd_854
  have w2 := wd_851
  have w3 := wd_852
  have w4 := wd_853
  have w5 := wd_1
  exact ⟨⟨TX10, 12, rfl⟩, by decide +kernel, w1, w2, w3, w4, w5⟩
theorem vl_L_74 : wVl RL 74 11 yX11_week cX11_week 1 (some .int) 0 := by
  have w1 := wd_1645
  have w2 := wd_1642
  have w3 := wd_1643
  have w4 := wd_1644
  have w5 := wd_12
  exact ⟨⟨TX11, 59, rfl⟩, by decide +kernel, w1, w2, w3, w4, w5⟩
theorem vl_L_75 : wVl RL 75 10 yX10_undo cX10_undo 1 (some .boolean) 0 := by
  have w1 := wd_858
  have w2 := wd_855
  have w3 := wd_856
  have w4 := wd_857
  have w5 := wd_1
  exact ⟨⟨TX10, 12, rfl⟩, by decide +kernel, w1, w2, w3, w4, w5⟩
theorem vl_L_79 : wVl RL 79 11 yX11_undo cX11_undo 1 (some .boolean) 0 := by
  have w1 := wd_1649
  have w2 := wd_1646
  have w3 := wd_1647
  have w4 := wd_1648
  have w5 := wd_12
  exact ⟨⟨TX11, 59, rfl⟩, by decide +kernel, w1, w2, w3, w4, w5⟩
theorem vl_L_80 : wVl RL 80 10 yX10_judged cX10_judged 7 (some .int) 1 := by
  have w1 := wd_866
  have w2 := wd_863
  have w3 := wd_864
  have w4 := wd_865
  have w5 := wd_1
  exact ⟨⟨TX10, 12, rfl⟩, by decide +kernel, w1, w2, w3, w4, w5⟩
theorem vl_L_83 : wVl RL 83 11 yX11_judged cX11_judged 6 (some .int) 1 := by
  have w1 := wd_1653
  have w2 := wd_1650
  have w3 := wd_1651
  have w4 := wd_1652
  have w5 := wd_12
  exact ⟨⟨TX11, 59, rfl⟩, by decide +kernel, w1, w2, w3, w4, w5⟩
theorem vl_L_84 : wVl RL 84 10 yX10_later cX10_later 4 (some .int) 3 := by
  have w1 := wd_894
  have w2 := wd_891
  have w3 := wd_892
  have w4 := wd_893
  have w5 := wd_1
  exact ⟨⟨TX10, 12, rfl⟩, by decide +kernel, w1, w2, w3, w4, w5⟩
theorem vl_L_87 : wVl RL 87 11 yX11_later cX11_later 4 (some .int) 3 := by
  have w1 := wd_1665
  have w2 := wd_1662
  have w3 := wd_1663
  have w4 := wd_1664
  have w5 := wd_12
  exact ⟨⟨TX11, 59, rfl⟩, by decide +kernel, w1, w2, w3, w4, w5⟩
theorem vl_L_88 : wVl RL 88 10 yX10_when cX10_when 4 (some .int) 1 := by
  have w1 := wd_899
  have w2 := wd_896
  have w3 := wd_897
  have w4 := wd_898
  have w5 := wd_1
  exact ⟨⟨TX10, 12, rfl⟩, by decide +kernel, w1, w2, w3, w4, w5⟩
theorem vl_L_91 : wVl RL 91 11 yX11_when cX11_when 3 (some .int) 1 := by
  have w1 := wd_1669
  have w2 := wd_1666
  have w3 := wd_1667
  have w4 := wd_1668
  have w5 := wd_12
  exact ⟨⟨TX11, 59, rfl⟩, by decide +kernel, w1, w2, w3, w4, w5⟩
theorem vl_L_92 : wVl RL 92 10 yX10_need cX10_need 3 (some .int) 1 := by
  have w1 := wd_904
  have w2 := wd_901
  have w3 := wd_902
  have w4 := wd_903
  have w5 := wd_1
  exact ⟨⟨TX10, 12, rfl⟩, by decide +kernel, w1, w2, w3, w4, w5⟩
theorem vl_L_95 : wVl RL 95 11 yX11_need cX11_need 3 (some .int) 1 := by
  have w1 := wd_1673
  have w2 := wd_1670
  have w3 := wd_1671
  have w4 := wd_1672
  have w5 := wd_12
  exact ⟨⟨TX11, 59, rfl⟩, by decide +kernel, w1, w2, w3, w4, w5⟩
theorem vl_L_96 : wVl RL 96 10 yX10_lost cX10_lost 3 (some .int) 0 := by
  have w1 := wd_908
  have w2 := wd_905
  have w3 := wd_906
  have w4 := wd_907
  have w5 := wd_1
  exact ⟨⟨TX10, 12, rfl⟩, by decide +kernel, w1, w2, w3, w4, w5⟩
theorem vl_L_99 : wVl RL 99 11 yX11_lost cX11_lost 7 (some .int) 0 := by
  have w1 := wd_1681
  have w2 := wd_1678
  have w3 := wd_1679
  have w4 := wd_1680
  have w5 := wd_12
  exact ⟨⟨TX11, 59, rfl⟩, by decide +kernel, w1, w2, w3, w4, w5⟩
theorem vl_L_100 : wVl RL 100 10 yX10_place cX10_place 3 (some .int) 2 := by
  have w1 := wd_920
  have w2 := wd_917
  have w3 := wd_918
  have w4 := wd_919
  have w5 := wd_1
  exact ⟨⟨TX10, 12, rfl⟩, by decide +kernel, w1, w2, w3, w4, w5⟩
theorem vl_L_103 : wVl RL 103 11 yX11_place cX11_place 3 (some .int) 2 := by
  have w1 := wd_1685
  have w2 := wd_1682
  have w3 := wd_1683
  have w4 := wd_1684
  have w5 := wd_12
  exact ⟨⟨TX11, 59, rfl⟩, by decide +kernel, w1, w2, w3, w4, w5⟩
theorem vl_L_104 : wVl RL 104 10 yX10_cost cX10_cost 5 (some .int) 2 := by
  have w1 := wd_928
  have w2 := wd_925
  have w3 := wd_926
  have w4 := wd_927
  have w5 := wd_1
  exact ⟨⟨TX10, 12, rfl⟩, by decide +kernel, w1, w2, w3, w4, w5⟩
theorem vl_L_107 : wVl RL 107 11 yX11_cost cX11_cost 5 (some .int) 2 := by
  have w1 := wd_1693
  have w2 := wd_1690
  have w3 := wd_1691
  have w4 := wd_1692
  have w5 := wd_12
  exact ⟨⟨TX11, 59, rfl⟩, by decide +kernel, w1, w2, w3, w4, w5⟩
theorem vl_L_108 : wVl RL 108 10 yX10_lay cX10_lay 2 (some .int) 1 := by
  have w1 := wd_938
  have w2 := wd_935
  have w3 := wd_936
  have w4 := wd_937
  have w5 := wd_1
  exact ⟨⟨TX10, 12, rfl⟩, by decide +kernel, w1, w2, w3, w4, w5⟩
theorem vl_L_111 : wVl RL 111 11 yX11_lay cX11_lay 2 (some .int) 1 := by
  have w1 := wd_1702
  have w2 := wd_1699
  have w3 := wd_1700
  have w4 := wd_1701
  have w5 := wd_12
  exact ⟨⟨TX11, 59, rfl⟩, by decide +kernel, w1, w2, w3, w4, w5⟩
theorem vl_L_112 : wVl RL 112 10 yX10_bears cX10_bears 7 (some .int) 2 := by
  have w1 := wd_974
  have w2 := wd_971
  have w3 := wd_972
  have w4 := wd_973
  have w5 := wd_1
  exact ⟨⟨TX10, 12, rfl⟩, by decide +kernel, w1, w2, w3, w4, w5⟩
theorem vl_L_115 : wVl RL 115 11 yX11_bears cX11_bears 5 (some .int) 2 := by
  have w1 := wd_1714
  have w2 := wd_1711
  have w3 := wd_1712
  have w4 := wd_1713
  have w5 := wd_12
  exact ⟨⟨TX11, 59, rfl⟩, by decide +kernel, w1, w2, w3, w4, w5⟩
theorem vl_L_116 : wVl RL 116 10 yX10_over cX10_over 2 (some .int) 1 := by
  have w1 := wd_978
  have w2 := wd_975
  have w3 := wd_976
  have w4 := wd_977
  have w5 := wd_1
  exact ⟨⟨TX10, 12, rfl⟩, by decide +kernel, w1, w2, w3, w4, w5⟩
theorem vl_L_119 : wVl RL 119 11 yX11_over cX11_over 6 (some .int) 1 := by
  have w1 := wd_1718
  have w2 := wd_1715
  have w3 := wd_1716
  have w4 := wd_1717
  have w5 := wd_12
  exact ⟨⟨TX11, 59, rfl⟩, by decide +kernel, w1, w2, w3, w4, w5⟩
theorem vl_L_120 : wVl RL 120 10 yX10_deepest cX10_deepest 4 (some .int) 1 := by
  have w1 := wd_986
  have w2 := wd_983
  have w3 := wd_984
  have w4 := wd_985
  have w5 := wd_1
  exact ⟨⟨TX10, 12, rfl⟩, by decide +kernel, w1, w2, w3, w4, w5⟩
theorem vl_L_123 : wVl RL 123 11 yX11_deepest cX11_deepest 4 (some .int) 1 := by
  have w1 := wd_1722
  have w2 := wd_1719
  have w3 := wd_1720
  have w4 := wd_1721
  have w5 := wd_12
  exact ⟨⟨TX11, 59, rfl⟩, by decide +kernel, w1, w2, w3, w4, w5⟩
theorem vl_L_124 : wVl RL 124 10 yX10_bare cX10_bare 4 (some .int) 1 := by
  have w1 := wd_990
  have w2 := wd_987
  have w3 := wd_988
  have w4 := wd_989
  have w5 := wd_1
  exact ⟨⟨TX10, 12, rfl⟩, by decide +kernel, w1, w2, w3, w4, w5⟩
theorem vl_L_127 : wVl RL 127 11 yX11_bare cX11_bare 4 (some .int) 1 := by
  have w1 := wd_1726
  have w2 := wd_1723
  have w3 := wd_1724
  have w4 := wd_1725
  have w5 := wd_12
  exact ⟨⟨TX11, 59, rfl⟩, by decide +kernel, w1, w2, w3, w4, w5⟩
theorem vl_L_128 : wVl RL 128 10 yX10_same cX10_same 1 (some .int) 0 := by
  have w1 := wd_994
  have w2 := wd_991
  have w3 := wd_992
  have w4 := wd_993
  have w5 := wd_1
  exact ⟨⟨TX10, 12, rfl⟩, by decide +kernel, w1, w2, w3, w4, w5⟩
theorem vl_L_131 : wVl RL 131 11 yX11_same cX11_same 4 (some .int) 0 := by
  have w1 := wd_1730
  have w2 := wd_1727
  have w3 := wd_1728
  have w4 := wd_1729
  have w5 := wd_12
  exact ⟨⟨TX11, 59, rfl⟩, by decide +kernel, w1, w2, w3, w4, w5⟩
theorem vl_L_132 : wVl RL 132 10 yX10_giveup cX10_giveup 6 (some .int) 0 := by
  have w1 := wd_1002
  have w2 := wd_999
  have w3 := wd_1000
  have w4 := wd_1001
  have w5 := wd_1
  exact ⟨⟨TX10, 12, rfl⟩, by decide +kernel, w1, w2, w3, w4, w5⟩
theorem vl_L_135 : wVl RL 135 11 yX11_giveup cX11_giveup 6 (some .int) 0 := by
  have w1 := wd_1734
  have w2 := wd_1731
  have w3 := wd_1732
  have w4 := wd_1733
  have w5 := wd_12
  exact ⟨⟨TX11, 59, rfl⟩, by decide +kernel, w1, w2, w3, w4, w5⟩
theorem vl_L_136 : wVl RL 136 10 yX10_psalter cX10_psalter 4 (some .int) 1 := by
  have w1 := wd_1006
  have w2 := wd_1003
  have w3 := wd_1004
  have w4 := wd_1005
  have w5 := wd_1
  exact ⟨⟨TX10, 12, rfl⟩, by decide +kernel, w1, w2, w3, w4, w5⟩
theorem vl_L_139 : wVl RL 139 11 yX11_psalter cX11_psalter 4 (some .int) 1 := by
  have w1 := wd_1677
  have w2 := wd_1674
  have w3 := wd_1675
  have w4 := wd_1676
  have w5 := wd_12
  exact ⟨⟨TX11, 59, rfl⟩, by decide +kernel, w1, w2, w3, w4, w5⟩
theorem vl_L_140 : wVl RL 140 10 yX10_see cX10_see 5 (some .boolean) 4 := by
  have w1 := wd_1010
  have w2 := wd_1007
  have w3 := wd_1008
  have w4 := wd_1009
  have w5 := wd_1
  exact ⟨⟨TX10, 12, rfl⟩, by decide +kernel, w1, w2, w3, w4, w5⟩
theorem vl_L_144 : wVl RL 144 11 yX11_see cX11_see 5 (some .boolean) 4 := by
  have w1 := wd_1738
  have w2 := wd_1735
  have w3 := wd_1736
  have w4 := wd_1737
  have w5 := wd_12
  exact ⟨⟨TX11, 59, rfl⟩, by decide +kernel, w1, w2, w3, w4, w5⟩
theorem vl_L_145 : wVl RL 145 10 yX10_who cX10_who 1 (some .int) 0 := by
  have w1 := wd_1018
  have w2 := wd_1015
  have w3 := wd_1016
  have w4 := wd_1017
  have w5 := wd_1
  exact ⟨⟨TX10, 12, rfl⟩, by decide +kernel, w1, w2, w3, w4, w5⟩
theorem vl_L_148 : wVl RL 148 11 yX11_who cX11_who 5 (some .int) 0 := by
  have w1 := wd_1742
  have w2 := wd_1739
  have w3 := wd_1740
  have w4 := wd_1741
  have w5 := wd_12
  exact ⟨⟨TX11, 59, rfl⟩, by decide +kernel, w1, w2, w3, w4, w5⟩
theorem vl_L_149 : wVl RL 149 10 yX10_ask cX10_ask 10 (some .int) 1 := by
  have w1 := wd_1031
  have w2 := wd_1028
  have w3 := wd_1029
  have w4 := wd_1030
  have w5 := wd_1
  exact ⟨⟨TX10, 12, rfl⟩, by decide +kernel, w1, w2, w3, w4, w5⟩
theorem vl_L_152 : wVl RL 152 11 yX11_ask cX11_ask 8 (some .int) 1 := by
  have w1 := wd_1746
  have w2 := wd_1743
  have w3 := wd_1744
  have w4 := wd_1745
  have w5 := wd_12
  exact ⟨⟨TX11, 59, rfl⟩, by decide +kernel, w1, w2, w3, w4, w5⟩
theorem vl_L_153 : wVl RL 153 10 yX10_chance cX10_chance 9 (some .int) 3 := by
  have w1 := wd_1040
  have w2 := wd_1037
  have w3 := wd_1038
  have w4 := wd_1039
  have w5 := wd_1
  exact ⟨⟨TX10, 12, rfl⟩, by decide +kernel, w1, w2, w3, w4, w5⟩
theorem vl_L_156 : wVl RL 156 11 yX11_chance cX11_chance 11 (some .int) 3 := by
  have w1 := wd_1752
  have w2 := wd_1749
  have w3 := wd_1750
  have w4 := wd_1751
  have w5 := wd_12
  exact ⟨⟨TX11, 59, rfl⟩, by decide +kernel, w1, w2, w3, w4, w5⟩
theorem vl_L_162 : wVl RL 162 11 yX11_rests cX11_rests 9 (some .int) 4 := by
  have w1 := wd_1758
  have w2 := wd_1755
  have w3 := wd_1756
  have w4 := wd_1757
  have w5 := wd_12
  exact ⟨⟨TX11, 59, rfl⟩, by decide +kernel, w1, w2, w3, w4, w5⟩
theorem vl_L_163 : wVl RL 163 11 yX11_thrown cX11_thrown 1 (some .int) 0 := by
  have w1 := wd_1356
  have w2 := wd_1353
  have w3 := wd_1354
  have w4 := wd_1355
  have w5 := wd_12
  exact ⟨⟨TX11, 59, rfl⟩, by decide +kernel, w1, w2, w3, w4, w5⟩
theorem vl_L_166 : wVl RL 166 10 yX10_years cX10_years 6 (some .int) 3 := by
  have w1 := wd_1045
  have w2 := wd_1042
  have w3 := wd_1043
  have w4 := wd_1044
  have w5 := wd_1
  exact ⟨⟨TX10, 12, rfl⟩, by decide +kernel, w1, w2, w3, w4, w5⟩
theorem vl_L_169 : wVl RL 169 11 yX11_years cX11_years 7 (some .int) 3 := by
  have w1 := wd_1765
  have w2 := wd_1762
  have w3 := wd_1763
  have w4 := wd_1764
  have w5 := wd_12
  exact ⟨⟨TX11, 59, rfl⟩, by decide +kernel, w1, w2, w3, w4, w5⟩
theorem vl_L_170 : wVl RL 170 10 yX10_mark cX10_mark 4 (some .boolean) 2 := by
  have w1 := wd_1069
  have w2 := wd_1066
  have w3 := wd_1067
  have w4 := wd_1068
  have w5 := wd_1
  exact ⟨⟨TX10, 12, rfl⟩, by decide +kernel, w1, w2, w3, w4, w5⟩
theorem vl_L_174 : wVl RL 174 11 yX11_mark cX11_mark 5 (some .boolean) 2 := by
  have w1 := wd_1785
  have w2 := wd_1782
  have w3 := wd_1783
  have w4 := wd_1784
  have w5 := wd_12
  exact ⟨⟨TX11, 59, rfl⟩, by decide +kernel, w1, w2, w3, w4, w5⟩
theorem vl_L_175 : wVl RL 175 10 yX10_count cX10_count 2 (some .int) 1 := by
  have w1 := wd_1085
  have w2 := wd_1082
  have w3 := wd_1083
  have w4 := wd_1084
  have w5 := wd_1
  exact ⟨⟨TX10, 12, rfl⟩, by decide +kernel, w1, w2, w3, w4, w5⟩
theorem vl_L_178 : wVl RL 178 11 yX11_count cX11_count 2 (some .int) 1 := by
  have w1 := wd_1793
  have w2 := wd_1790
  have w3 := wd_1791
  have w4 := wd_1792
  have w5 := wd_12
  exact ⟨⟨TX11, 59, rfl⟩, by decide +kernel, w1, w2, w3, w4, w5⟩
theorem vl_X11_172 : wVl RX11 172 11 yX11_signAt cX11_signAt 2 (some .int) 1 := by
  have w1 := wd_1381
  have w2 := wd_1378
  have w3 := wd_1380
  have w4 := wp_28
  have w5 := wd_12
  exact ⟨⟨TX11, 59, rfl⟩, by decide +kernel, w1, w2, w3, w4, w5⟩
theorem vl_X11_194 : wVl RX11 194 11 yX11_fact cX11_fact 1 (some .int) 0 := by
  have w1 := wd_1478
  have w2 := wd_1475
  have w3 := wd_1477
  have w4 := wp_46
  have w5 := wd_12
  exact ⟨⟨TX11, 59, rfl⟩, by decide +kernel, w1, w2, w3, w4, w5⟩
theorem vl_X11_200 : wVl RX11 200 11 yX11_isWord cX11_isWord 3 (some .boolean) 1 := by
  have w1 := wd_1388
  have w2 := wd_1385
  have w3 := wd_1387
  have w4 := wp_29
  have w5 := wd_12
  exact ⟨⟨TX11, 59, rfl⟩, by decide +kernel, w1, w2, w3, w4, w5⟩
theorem vl_X11_204 : wVl RX11 204 11 yX11_isSign cX11_isSign 2 (some .boolean) 1 := by
  have w1 := wd_1450
  have w2 := wd_1447
  have w3 := wd_1449
  have w4 := wp_39
  have w5 := wd_12
  exact ⟨⟨TX11, 59, rfl⟩, by decide +kernel, w1, w2, w3, w4, w5⟩
theorem vl_X11_208 : wVl RX11 208 11 yX11_fails cX11_fails 2 (some .boolean) 1 := by
  have w1 := wd_1396
  have w2 := wd_1393
  have w3 := wd_1395
  have w4 := wp_31
  have w5 := wd_12
  exact ⟨⟨TX11, 59, rfl⟩, by decide +kernel, w1, w2, w3, w4, w5⟩
theorem vl_X11_211 : wVl RX11 211 11 yX11_puts cX11_puts 2 none 1 := by
  have w1 := wd_1486
  have w2 := wd_1483
  have w3 := wd_1485
  have w4 := wp_47
  have w5 := wd_12
  exact ⟨⟨TX11, 59, rfl⟩, by decide +kernel, w1, w2, w3, w4, w5⟩
theorem vl_X11_215 : wVl RX11 215 11 yX11_nextToken cX11_nextToken 2 none 0 := by
  have w1 := wd_1377
  have w2 := wd_1374
  have w3 := wd_1376
  have w4 := wp_27
  have w5 := wd_12
  exact ⟨⟨TX11, 59, rfl⟩, by decide +kernel, w1, w2, w3, w4, w5⟩
theorem vl_X11_222 : wVl RX11 222 11 yX11_sums cX11_sums 2 none 1 := by
  have w1 := wd_1552
  have w2 := wd_1549
  have w3 := wd_1551
  have w4 := wp_60
  have w5 := wd_12
  exact ⟨⟨TX11, 59, rfl⟩, by decide +kernel, w1, w2, w3, w4, w5⟩
theorem vl_X11_225 : wVl RX11 225 11 yX11_opens cX11_opens 2 none 1 := by
  have w1 := wd_1548
  have w2 := wd_1545
  have w3 := wd_1547
  have w4 := wp_59
  have w5 := wd_12
  exact ⟨⟨TX11, 59, rfl⟩, by decide +kernel, w1, w2, w3, w4, w5⟩
theorem vl_X11_228 : wVl RX11 228 11 yX11_tests cX11_tests 3 none 1 := by
  have w1 := wd_1556
  have w2 := wd_1553
  have w3 := wd_1555
  have w4 := wp_61
  have w5 := wd_12
  exact ⟨⟨TX11, 59, rfl⟩, by decide +kernel, w1, w2, w3, w4, w5⟩
theorem sl_X11_265 : wSl1 RX11 265 yX11_within cX11_within 3 (some .boolean) 3 := ⟨by decide +kernel, wd_1442, wd_1440, wd_1441, wd_12⟩
theorem vl_X11_272 : wVl RX11 272 11 yX11_needsNumber cX11_needsNumber 3 (some .boolean) 2 := by
  have w1 := wd_1439
  have w2 := wd_1436
  have w3 := wd_1438
  have w4 := wp_37
  have w5 := wd_12
  exact ⟨⟨TX11, 59, rfl⟩, by decide +kernel, w1, w2, w3, w4, w5⟩
theorem vl_X11_276 : wVl RX11 276 11 yX11_isKept cX11_isKept 1 (some .boolean) 0 := by
  have w1 := wd_1404
  have w2 := wd_1401
  have w3 := wd_1403
  have w4 := wp_33
  have w5 := wd_12
  exact ⟨⟨TX11, 59, rfl⟩, by decide +kernel, w1, w2, w3, w4, w5⟩
theorem vl_X11_280 : wVl RX11 280 11 yX11_skinNamed cX11_skinNamed 3 (some .int) 1 := by
  have w1 := wd_1427
  have w2 := wd_1424
  have w3 := wd_1426
  have w4 := wp_34
  have w5 := wd_12
  exact ⟨⟨TX11, 59, rfl⟩, by decide +kernel, w1, w2, w3, w4, w5⟩
theorem vl_X11_283 : wVl RX11 283 11 yX11_textNamed cX11_textNamed 3 (some .int) 1 := by
  have w1 := wd_1431
  have w2 := wd_1428
  have w3 := wd_1430
  have w4 := wp_35
  have w5 := wd_12
  exact ⟨⟨TX11, 59, rfl⟩, by decide +kernel, w1, w2, w3, w4, w5⟩
theorem vl_X11_289 : wVl RX11 289 11 yX11_needsNew cX11_needsNew 1 (some .boolean) 0 := by
  have w1 := wd_1400
  have w2 := wd_1397
  have w3 := wd_1399
  have w4 := wp_32
  have w5 := wd_12
  exact ⟨⟨TX11, 59, rfl⟩, by decide +kernel, w1, w2, w3, w4, w5⟩
theorem vl_X11_292 : wVl RX11 292 11 yX11_needsBoth cX11_needsBoth 5 (some .boolean) 3 := by
  have w1 := wd_1435
  have w2 := wd_1432
  have w3 := wd_1434
  have w4 := wp_36
  have w5 := wd_12
  exact ⟨⟨TX11, 59, rfl⟩, by decide +kernel, w1, w2, w3, w4, w5⟩
theorem vl_X11_296 : wVl RX11 296 11 yX11_closes cX11_closes 1 (some .boolean) 0 := by
  have w1 := wd_1446
  have w2 := wd_1443
  have w3 := wd_1445
  have w4 := wp_38
  have w5 := wd_12
  exact ⟨⟨TX11, 59, rfl⟩, by decide +kernel, w1, w2, w3, w4, w5⟩
theorem vl_X11_299 : wVl RX11 299 11 yX11_needsSkin cX11_needsSkin 2 (some .boolean) 1 := by
  have w1 := wd_1458
  have w2 := wd_1455
  have w3 := wd_1457
  have w4 := wp_41
  have w5 := wd_12
  exact ⟨⟨TX11, 59, rfl⟩, by decide +kernel, w1, w2, w3, w4, w5⟩
theorem vl_X11_302 : wVl RX11 302 11 yX11_reads cX11_reads 6 (some .boolean) 0 := by
  have w1 := wd_1474
  have w2 := wd_1471
  have w3 := wd_1473
  have w4 := wp_45
  have w5 := wd_12
  exact ⟨⟨TX11, 59, rfl⟩, by decide +kernel, w1, w2, w3, w4, w5⟩
theorem vl_X11_305 : wVl RX11 305 11 yX11_begins cX11_begins 1 none 0 := by
  have w1 := wd_1373
  have w2 := wd_1370
  have w3 := wd_1372
  have w4 := wp_26
  have w5 := wd_12
  exact ⟨⟨TX11, 59, rfl⟩, by decide +kernel, w1, w2, w3, w4, w5⟩
theorem vl_X11_308 : wVl RX11 308 11 yX11_readsSkin cX11_readsSkin 2 (some .boolean) 0 := by
  have w1 := wd_1392
  have w2 := wd_1389
  have w3 := wd_1391
  have w4 := wp_30
  have w5 := wd_12
  exact ⟨⟨TX11, 59, rfl⟩, by decide +kernel, w1, w2, w3, w4, w5⟩
theorem vl_X11_311 : wVl RX11 311 11 yX11_readsHole cX11_readsHole 2 (some .boolean) 0 := by
  have w1 := wd_1454
  have w2 := wd_1451
  have w3 := wd_1453
  have w4 := wp_40
  have w5 := wd_12
  exact ⟨⟨TX11, 59, rfl⟩, by decide +kernel, w1, w2, w3, w4, w5⟩
theorem vl_X11_314 : wVl RX11 314 11 yX11_readsText cX11_readsText 2 (some .boolean) 0 := by
  have w1 := wd_1462
  have w2 := wd_1459
  have w3 := wd_1461
  have w4 := wp_42
  have w5 := wd_12
  exact ⟨⟨TX11, 59, rfl⟩, by decide +kernel, w1, w2, w3, w4, w5⟩
theorem vl_X11_317 : wVl RX11 317 11 yX11_readsDamp cX11_readsDamp 1 (some .boolean) 0 := by
  have w1 := wd_1466
  have w2 := wd_1463
  have w3 := wd_1465
  have w4 := wp_43
  have w5 := wd_12
  exact ⟨⟨TX11, 59, rfl⟩, by decide +kernel, w1, w2, w3, w4, w5⟩
theorem vl_X11_320 : wVl RX11 320 11 yX11_readsShows cX11_readsShows 1 (some .boolean) 0 := by
  have w1 := wd_1470
  have w2 := wd_1467
  have w3 := wd_1469
  have w4 := wp_44
  have w5 := wd_12
  exact ⟨⟨TX11, 59, rfl⟩, by decide +kernel, w1, w2, w3, w4, w5⟩
theorem sl_X11_323 : wSl1 RX11 323 yX11_shifts cX11_shifts 3 none 2 := ⟨by decide +kernel, wd_1493, wd_1491, wd_1492, wd_12⟩
theorem sl_X11_327 : wSl1 RX11 327 yX11_shiftsNames cX11_shiftsNames 3 none 2 := ⟨by decide +kernel, wd_1496, wd_1494, wd_1495, wd_12⟩
theorem vl_X11_331 : wVl RX11 331 11 yX11_needsText cX11_needsText 1 (some .boolean) 0 := by
  have w1 := wd_1512
  have w2 := wd_1509
  have w3 := wd_1511
  have w4 := wp_51
  have w5 := wd_12
  exact ⟨⟨TX11, 59, rfl⟩, by decide +kernel, w1, w2, w3, w4, w5⟩
theorem vl_X11_334 : wVl RX11 334 11 yX11_readsAll cX11_readsAll 2 (some .boolean) 0 := by
  have w1 := wd_1369
  have w2 := wd_1366
  have w3 := wd_1368
  have w4 := wp_25
  have w5 := wd_12
  exact ⟨⟨TX11, 59, rfl⟩, by decide +kernel, w1, w2, w3, w4, w5⟩
theorem vl_X11_337 : wVl RX11 337 11 yX11_lays cX11_lays 1 none 0 := by
  have w1 := wd_1490
  have w2 := wd_1487
  have w3 := wd_1489
  have w4 := wp_48
  have w5 := wd_12
  exact ⟨⟨TX11, 59, rfl⟩, by decide +kernel, w1, w2, w3, w4, w5⟩
theorem vl_X11_340 : wVl RX11 340 11 yX11_fresh0 cX11_fresh0 2 none 0 := by
  have w1 := wd_1500
  have w2 := wd_1497
  have w3 := wd_1499
  have w4 := wp_49
  have w5 := wd_12
  exact ⟨⟨TX11, 59, rfl⟩, by decide +kernel, w1, w2, w3, w4, w5⟩
theorem vl_X11_346 : wVl RX11 346 11 yX11_readsLine cX11_readsLine 3 (some .boolean) 0 := by
  have w1 := wd_1508
  have w2 := wd_1505
  have w3 := wd_1507
  have w4 := wp_50
  have w5 := wd_12
  exact ⟨⟨TX11, 59, rfl⟩, by decide +kernel, w1, w2, w3, w4, w5⟩
theorem vl_X11_349 : wVl RX11 349 11 yX11_laysLines cX11_laysLines 4 none 2 := by
  have w1 := wd_1516
  have w2 := wd_1513
  have w3 := wd_1515
  have w4 := wp_52
  have w5 := wd_12
  exact ⟨⟨TX11, 59, rfl⟩, by decide +kernel, w1, w2, w3, w4, w5⟩
theorem vl_X11_353 : wVl RX11 353 11 yX11_isSkin cX11_isSkin 2 (some .boolean) 1 := by
  have w1 := wd_1524
  have w2 := wd_1521
  have w3 := wd_1523
  have w4 := wp_53
  have w5 := wd_12
  exact ⟨⟨TX11, 59, rfl⟩, by decide +kernel, w1, w2, w3, w4, w5⟩
theorem vl_X11_356 : wVl RX11 356 11 yX11_worked cX11_worked 6 (some .int) 1 := by
  have w1 := wd_1544
  have w2 := wd_1541
  have w3 := wd_1543
  have w4 := wp_58
  have w5 := wd_12
  exact ⟨⟨TX11, 59, rfl⟩, by decide +kernel, w1, w2, w3, w4, w5⟩
theorem vl_X11_359 : wVl RX11 359 11 yX11_showsBy cX11_showsBy 7 (some .boolean) 4 := by
  have w1 := wd_1540
  have w2 := wd_1537
  have w3 := wd_1539
  have w4 := wp_57
  have w5 := wd_12
  exact ⟨⟨TX11, 59, rfl⟩, by decide +kernel, w1, w2, w3, w4, w5⟩
theorem vl_X11_363 : wVl RX11 363 11 yX11_readBy cX11_readBy 7 (some .int) 3 := by
  have w1 := wd_1536
  have w2 := wd_1533
  have w3 := wd_1535
  have w4 := wp_56
  have w5 := wd_12
  exact ⟨⟨TX11, 59, rfl⟩, by decide +kernel, w1, w2, w3, w4, w5⟩
theorem vl_X11_367 : wVl RX11 367 11 yX11_dampOf cX11_dampOf 2 (some .int) 1 := by
  have w1 := wd_1532
  have w2 := wd_1529
  have w3 := wd_1531
  have w4 := wp_55
  have w5 := wd_12
  exact ⟨⟨TX11, 59, rfl⟩, by decide +kernel, w1, w2, w3, w4, w5⟩
theorem vl_X11_370 : wVl RX11 370 11 yX11_wholeBy cX11_wholeBy 8 (some .int) 1 := by
  have w1 := wd_1572
  have w2 := wd_1569
  have w3 := wd_1571
  have w4 := wp_64
  have w5 := wd_12
  exact ⟨⟨TX11, 59, rfl⟩, by decide +kernel, w1, w2, w3, w4, w5⟩
theorem vl_X11_374 : wVl RX11 374 11 yX11_scrapedBy cX11_scrapedBy 8 (some .int) 2 := by
  have w1 := wd_1633
  have w2 := wd_1630
  have w3 := wd_1632
  have w4 := wp_71
  have w5 := wd_12
  exact ⟨⟨TX11, 59, rfl⟩, by decide +kernel, w1, w2, w3, w4, w5⟩
theorem vl_X11_378 : wVl RX11 378 11 yX11_canWrite cX11_canWrite 5 (some .boolean) 3 := by
  have w1 := wd_1609
  have w2 := wd_1606
  have w3 := wd_1608
  have w4 := wp_67
  have w5 := wd_12
  exact ⟨⟨TX11, 59, rfl⟩, by decide +kernel, w1, w2, w3, w4, w5⟩
theorem vl_X11_381 : wVl RX11 381 11 yX11_readIn cX11_readIn 6 (some .int) 2 := by
  have w1 := wd_1528
  have w2 := wd_1525
  have w3 := wd_1527
  have w4 := wp_54
  have w5 := wd_12
  exact ⟨⟨TX11, 59, rfl⟩, by decide +kernel, w1, w2, w3, w4, w5⟩
theorem sl_X11_384 : wSl1 RX11 384 yX11_bits cX11_bits 3 (some .int) 1 := ⟨by decide +kernel, wd_1579, wd_1577, wd_1578, wd_12⟩
theorem vl_X11_387 : wVl RX11 387 11 yX11_isText cX11_isText 2 (some .boolean) 1 := by
  have w1 := wd_1564
  have w2 := wd_1561
  have w3 := wd_1563
  have w4 := wp_62
  have w5 := wd_12
  exact ⟨⟨TX11, 59, rfl⟩, by decide +kernel, w1, w2, w3, w4, w5⟩
theorem vl_X11_390 : wVl RX11 390 11 yX11_wholeNow cX11_wholeNow 1 (some .int) 0 := by
  have w1 := wd_1568
  have w2 := wd_1565
  have w3 := wd_1567
  have w4 := wp_63
  have w5 := wd_12
  exact ⟨⟨TX11, 59, rfl⟩, by decide +kernel, w1, w2, w3, w4, w5⟩
theorem vl_X11_393 : wVl RX11 393 11 yX11_madeOf cX11_madeOf 4 (some .int) 1 := by
  have w1 := wd_1576
  have w2 := wd_1573
  have w3 := wd_1575
  have w4 := wp_65
  have w5 := wd_12
  exact ⟨⟨TX11, 59, rfl⟩, by decide +kernel, w1, w2, w3, w4, w5⟩
theorem vl_X11_396 : wVl RX11 396 11 yX11_isLine cX11_isLine 3 (some .boolean) 2 := by
  have w1 := wd_1587
  have w2 := wd_1584
  have w3 := wd_1586
  have w4 := wp_66
  have w5 := wd_12
  exact ⟨⟨TX11, 59, rfl⟩, by decide +kernel, w1, w2, w3, w4, w5⟩
theorem sl_X11_399 : wSl1 RX11 399 yX11_deepOf cX11_deepOf 3 (some .int) 1 := ⟨by decide +kernel, wd_1590, wd_1588, wd_1589, wd_12⟩
theorem sl_X11_402 : wSl1 RX11 402 yX11_layerOf cX11_layerOf 4 (some .int) 2 := ⟨by decide +kernel, wd_1597, wd_1595, wd_1596, wd_12⟩
theorem sl_X11_405 : wSl1 RX11 405 yX11_copies cX11_copies 5 none 4 := ⟨by decide +kernel, wd_1617, wd_1615, wd_1616, wd_12⟩
theorem vl_X11_409 : wVl RX11 409 11 yX11_keeps cX11_keeps 2 none 0 := by
  have w1 := wd_1614
  have w2 := wd_1611
  have w3 := wd_1613
  have w4 := wp_68
  have w5 := wd_12
  exact ⟨⟨TX11, 59, rfl⟩, by decide +kernel, w1, w2, w3, w4, w5⟩
theorem vl_X11_412 : wVl RX11 412 11 yX11_writes cX11_writes 5 none 3 := by
  have w1 := wd_1621
  have w2 := wd_1618
  have w3 := wd_1620
  have w4 := wp_69
  have w5 := wd_12
  exact ⟨⟨TX11, 59, rfl⟩, by decide +kernel, w1, w2, w3, w4, w5⟩
theorem vl_X11_416 : wVl RX11 416 11 yX11_scrapes cX11_scrapes 4 none 2 := by
  have w1 := wd_1637
  have w2 := wd_1634
  have w3 := wd_1636
  have w4 := wp_72
  have w5 := wd_12
  exact ⟨⟨TX11, 59, rfl⟩, by decide +kernel, w1, w2, w3, w4, w5⟩
theorem vl_X11_419 : wVl RX11 419 11 yX11_scrapesNow cX11_scrapesNow 3 (some .int) 2 := by
  have w1 := wd_1629
  have w2 := wd_1626
  have w3 := wd_1628
  have w4 := wp_70
  have w5 := wd_12
  exact ⟨⟨TX11, 59, rfl⟩, by decide +kernel, w1, w2, w3, w4, w5⟩
theorem vl_X11_422 : wVl RX11 422 11 yX11_gones cX11_gones 3 (some .int) 0 := by
  have w1 := wd_1657
  have w2 := wd_1654
  have w3 := wd_1656
  have w4 := wp_73
  have w5 := wd_12
  exact ⟨⟨TX11, 59, rfl⟩, by decide +kernel, w1, w2, w3, w4, w5⟩
theorem vl_X11_425 : wVl RX11 425 11 yX11_goes cX11_goes 4 (some .boolean) 1 := by
  have w1 := wd_1661
  have w2 := wd_1658
  have w3 := wd_1660
  have w4 := wp_74
  have w5 := wd_12
  exact ⟨⟨TX11, 59, rfl⟩, by decide +kernel, w1, w2, w3, w4, w5⟩
theorem vl_X11_428 : wVl RX11 428 11 yX11_placeOf cX11_placeOf 4 (some .int) 2 := by
  have w1 := wd_1689
  have w2 := wd_1686
  have w3 := wd_1688
  have w4 := wp_75
  have w5 := wd_12
  exact ⟨⟨TX11, 59, rfl⟩, by decide +kernel, w1, w2, w3, w4, w5⟩
theorem vl_X11_431 : wVl RX11 431 11 yX11_costBy cX11_costBy 6 (some .int) 3 := by
  have w1 := wd_1697
  have w2 := wd_1694
  have w3 := wd_1696
  have w4 := wp_76
  have w5 := wd_12
  exact ⟨⟨TX11, 59, rfl⟩, by decide +kernel, w1, w2, w3, w4, w5⟩
theorem vl_X11_442 : wVl RX11 442 11 yX11_writesAll cX11_writesAll 5 none 2 := by
  have w1 := wd_1706
  have w2 := wd_1703
  have w3 := wd_1705
  have w4 := wp_77
  have w5 := wd_12
  exact ⟨⟨TX11, 59, rfl⟩, by decide +kernel, w1, w2, w3, w4, w5⟩
theorem vl_X11_445 : wVl RX11 445 11 yX11_unwrites cX11_unwrites 5 none 3 := by
  have w1 := wd_1710
  have w2 := wd_1707
  have w3 := wd_1709
  have w4 := wp_78
  have w5 := wd_12
  exact ⟨⟨TX11, 59, rfl⟩, by decide +kernel, w1, w2, w3, w4, w5⟩
theorem vl_X11_448 : wVl RX11 448 11 yX11_who cX11_who 5 (some .int) 0 := by
  have w1 := wd_1742
  have w2 := wd_1747
  have w3 := wd_1740
  have w4 := wd_1741
  have w5 := wd_12
  exact ⟨⟨TX11, 59, rfl⟩, by decide +kernel, w1, w2, w3, w4, w5⟩
theorem sl_X11_458 : wSl1 RX11 458 yX11_getsBy cX11_getsBy 5 (some .int) 5 := ⟨by decide +kernel, wd_1761, wd_1759, wd_1760, wd_12⟩
theorem vl_X11_473 : wVl RX11 473 11 yX11_draws cX11_draws 2 (some .int) 1 := by
  have w1 := wd_1773
  have w2 := wd_1770
  have w3 := wd_1772
  have w4 := wp_80
  have w5 := wd_12
  exact ⟨⟨TX11, 59, rfl⟩, by decide +kernel, w1, w2, w3, w4, w5⟩
theorem vl_X11_476 : wVl RX11 476 11 yX11_livesWeek cX11_livesWeek 6 (some .boolean) 0 := by
  have w1 := wd_1769
  have w2 := wd_1766
  have w3 := wd_1768
  have w4 := wp_79
  have w5 := wd_12
  exact ⟨⟨TX11, 59, rfl⟩, by decide +kernel, w1, w2, w3, w4, w5⟩
theorem vl_X11_479 : wVl RX11 479 11 yX11_allThick cX11_allThick 1 (some .int) 0 := by
  have w1 := wd_1781
  have w2 := wd_1778
  have w3 := wd_1780
  have w4 := wp_81
  have w5 := wd_12
  exact ⟨⟨TX11, 59, rfl⟩, by decide +kernel, w1, w2, w3, w4, w5⟩
theorem vl_X11_482 : wVl RX11 482 11 yX11_laysSeen cX11_laysSeen 4 none 2 := by
  have w1 := wd_1789
  have w2 := wd_1786
  have w3 := wd_1788
  have w4 := wp_82
  have w5 := wd_12
  exact ⟨⟨TX11, 59, rfl⟩, by decide +kernel, w1, w2, w3, w4, w5⟩
theorem vl_X11_485 : wVl RX11 485 11 yX11_allLayers cX11_allLayers 3 (some .int) 0 := by
  have w1 := wd_1797
  have w2 := wd_1794
  have w3 := wd_1796
  have w4 := wp_83
  have w5 := wd_12
  exact ⟨⟨TX11, 59, rfl⟩, by decide +kernel, w1, w2, w3, w4, w5⟩
theorem ci_m1 : Int32.ofInt (-1) = -1 := by decide
theorem ci_0 : Int32.ofInt 0 = 0 := by decide
theorem ci_1 : Int32.ofInt 1 = 1 := by decide
theorem ci_2 : Int32.ofInt 2 = 2 := by decide
theorem ci_3 : Int32.ofInt 3 = 3 := by decide
theorem ci_4 : Int32.ofInt 4 = 4 := by decide
theorem ci_5 : Int32.ofInt 5 = 5 := by decide
theorem cb_m12 : (Int8.ofInt (-12)).toInt32 = -12 := by decide
theorem cb_m11 : (Int8.ofInt (-11)).toInt32 = -11 := by decide
theorem cb_m10 : (Int8.ofInt (-10)).toInt32 = -10 := by decide
theorem cb_m9 : (Int8.ofInt (-9)).toInt32 = -9 := by decide
theorem cb_m8 : (Int8.ofInt (-8)).toInt32 = -8 := by decide
theorem cb_m7 : (Int8.ofInt (-7)).toInt32 = -7 := by decide
theorem cb_m6 : (Int8.ofInt (-6)).toInt32 = -6 := by decide
theorem cb_m5 : (Int8.ofInt (-5)).toInt32 = -5 := by decide
theorem cb_m4 : (Int8.ofInt (-4)).toInt32 = -4 := by decide
theorem cb_m3 : (Int8.ofInt (-3)).toInt32 = -3 := by decide
theorem cb_m2 : (Int8.ofInt (-2)).toInt32 = -2 := by decide
theorem cb_6 : (Int8.ofInt 6).toInt32 = 6 := by decide
theorem cb_7 : (Int8.ofInt 7).toInt32 = 7 := by decide
theorem cb_8 : (Int8.ofInt 8).toInt32 = 8 := by decide
theorem cb_9 : (Int8.ofInt 9).toInt32 = 9 := by decide
theorem cb_10 : (Int8.ofInt 10).toInt32 = 10 := by decide
theorem cb_11 : (Int8.ofInt 11).toInt32 = 11 := by decide
theorem cb_12 : (Int8.ofInt 12).toInt32 = 12 := by decide
theorem cb_16 : (Int8.ofInt 16).toInt32 = 16 := by decide
theorem cb_18 : (Int8.ofInt 18).toInt32 = 18 := by decide
theorem cb_20 : (Int8.ofInt 20).toInt32 = 20 := by decide
theorem cb_21 : (Int8.ofInt 21).toInt32 = 21 := by decide
theorem cb_22 : (Int8.ofInt 22).toInt32 = 22 := by decide
theorem cb_24 : (Int8.ofInt 24).toInt32 = 24 := by decide
theorem cb_25 : (Int8.ofInt 25).toInt32 = 25 := by decide
theorem cb_26 : (Int8.ofInt 26).toInt32 = 26 := by decide
theorem cb_27 : (Int8.ofInt 27).toInt32 = 27 := by decide
theorem cb_28 : (Int8.ofInt 28).toInt32 = 28 := by decide
theorem cb_29 : (Int8.ofInt 29).toInt32 = 29 := by decide
theorem cb_30 : (Int8.ofInt 30).toInt32 = 30 := by decide
theorem cb_32 : (Int8.ofInt 32).toInt32 = 32 := by decide
theorem cb_40 : (Int8.ofInt 40).toInt32 = 40 := by decide
theorem cb_41 : (Int8.ofInt 41).toInt32 = 41 := by decide
theorem cb_42 : (Int8.ofInt 42).toInt32 = 42 := by decide
theorem cb_43 : (Int8.ofInt 43).toInt32 = 43 := by decide
theorem cb_45 : (Int8.ofInt 45).toInt32 = 45 := by decide
theorem cb_48 : (Int8.ofInt 48).toInt32 = 48 := by decide
theorem cb_56 : (Int8.ofInt 56).toInt32 = 56 := by decide
theorem cb_57 : (Int8.ofInt 57).toInt32 = 57 := by decide
theorem cb_59 : (Int8.ofInt 59).toInt32 = 59 := by decide
theorem cb_60 : (Int8.ofInt 60).toInt32 = 60 := by decide
theorem cb_61 : (Int8.ofInt 61).toInt32 = 61 := by decide
theorem cb_63 : (Int8.ofInt 63).toInt32 = 63 := by decide
theorem cb_97 : (Int8.ofInt 97).toInt32 = 97 := by decide
theorem cb_99 : (Int8.ofInt 99).toInt32 = 99 := by decide
theorem cb_100 : (Int8.ofInt 100).toInt32 = 100 := by decide
theorem cb_122 : (Int8.ofInt 122).toInt32 = 122 := by decide
theorem cb_126 : (Int8.ofInt 126).toInt32 = 126 := by decide
theorem cs_200 : (Int16.ofInt 200).toInt32 = 200 := by decide
theorem cs_240 : (Int16.ofInt 240).toInt32 = 240 := by decide
theorem cs_255 : (Int16.ofInt 255).toInt32 = 255 := by decide
theorem cs_375 : (Int16.ofInt 375).toInt32 = 375 := by decide
theorem cs_400 : (Int16.ofInt 400).toInt32 = 400 := by decide
theorem cs_1000 : (Int16.ofInt 1000).toInt32 = 1000 := by decide
theorem cs_2000 : (Int16.ofInt 2000).toInt32 = 2000 := by decide
theorem cs_9999 : (Int16.ofInt 9999).toInt32 = 9999 := by decide
theorem cinc_m8 (x : Int32) : x + Int32.ofInt (-8) = x + (-8) := by rw [show Int32.ofInt (-8) = -8 by decide]
theorem cinc_m1 (x : Int32) : x + Int32.ofInt (-1) = x + (-1) := by rw [show Int32.ofInt (-1) = -1 by decide]
theorem cinc_1 (x : Int32) : x + Int32.ofInt 1 = x + 1 := by rw [show Int32.ofInt 1 = 1 by decide]
theorem cinc_7 (x : Int32) : x + Int32.ofInt 7 = x + 7 := by rw [show Int32.ofInt 7 = 7 by decide]
theorem cn_0 : (0 : Int32).toNatClampNeg = 0 := by decide
theorem cn_1 : (1 : Int32).toNatClampNeg = 1 := by decide
theorem cn_2 : (2 : Int32).toNatClampNeg = 2 := by decide
theorem cn_3 : (3 : Int32).toNatClampNeg = 3 := by decide
theorem cn_4 : (4 : Int32).toNatClampNeg = 4 := by decide
theorem cn_5 : (5 : Int32).toNatClampNeg = 5 := by decide
theorem cn_6 : (6 : Int32).toNatClampNeg = 6 := by decide
theorem cn_7 : (7 : Int32).toNatClampNeg = 7 := by decide
theorem cn_8 : (8 : Int32).toNatClampNeg = 8 := by decide
theorem cn_9 : (9 : Int32).toNatClampNeg = 9 := by decide
theorem cn_10 : (10 : Int32).toNatClampNeg = 10 := by decide
theorem cn_11 : (11 : Int32).toNatClampNeg = 11 := by decide
theorem cn_12 : (12 : Int32).toNatClampNeg = 12 := by decide
theorem cn_16 : (16 : Int32).toNatClampNeg = 16 := by decide
theorem cn_18 : (18 : Int32).toNatClampNeg = 18 := by decide
theorem cn_20 : (20 : Int32).toNatClampNeg = 20 := by decide
theorem cn_21 : (21 : Int32).toNatClampNeg = 21 := by decide
theorem cn_22 : (22 : Int32).toNatClampNeg = 22 := by decide
theorem cn_24 : (24 : Int32).toNatClampNeg = 24 := by decide
theorem cn_25 : (25 : Int32).toNatClampNeg = 25 := by decide
theorem cn_26 : (26 : Int32).toNatClampNeg = 26 := by decide
theorem cn_27 : (27 : Int32).toNatClampNeg = 27 := by decide
theorem cn_28 : (28 : Int32).toNatClampNeg = 28 := by decide
theorem cn_29 : (29 : Int32).toNatClampNeg = 29 := by decide
theorem cn_30 : (30 : Int32).toNatClampNeg = 30 := by decide
theorem cn_32 : (32 : Int32).toNatClampNeg = 32 := by decide
theorem cn_40 : (40 : Int32).toNatClampNeg = 40 := by decide
theorem cn_41 : (41 : Int32).toNatClampNeg = 41 := by decide
theorem cn_42 : (42 : Int32).toNatClampNeg = 42 := by decide
theorem cn_43 : (43 : Int32).toNatClampNeg = 43 := by decide
theorem cn_45 : (45 : Int32).toNatClampNeg = 45 := by decide
theorem cn_48 : (48 : Int32).toNatClampNeg = 48 := by decide
theorem cn_56 : (56 : Int32).toNatClampNeg = 56 := by decide
theorem cn_57 : (57 : Int32).toNatClampNeg = 57 := by decide
theorem cn_59 : (59 : Int32).toNatClampNeg = 59 := by decide
theorem cn_60 : (60 : Int32).toNatClampNeg = 60 := by decide
theorem cn_61 : (61 : Int32).toNatClampNeg = 61 := by decide
theorem cn_63 : (63 : Int32).toNatClampNeg = 63 := by decide
theorem cn_97 : (97 : Int32).toNatClampNeg = 97 := by decide
theorem cn_99 : (99 : Int32).toNatClampNeg = 99 := by decide
theorem cn_100 : (100 : Int32).toNatClampNeg = 100 := by decide
theorem cn_122 : (122 : Int32).toNatClampNeg = 122 := by decide
theorem cn_126 : (126 : Int32).toNatClampNeg = 126 := by decide
theorem cn_200 : (200 : Int32).toNatClampNeg = 200 := by decide
theorem cn_240 : (240 : Int32).toNatClampNeg = 240 := by decide
theorem cn_255 : (255 : Int32).toNatClampNeg = 255 := by decide
theorem cn_375 : (375 : Int32).toNatClampNeg = 375 := by decide
theorem cn_400 : (400 : Int32).toNatClampNeg = 400 := by decide
theorem cn_1000 : (1000 : Int32).toNatClampNeg = 1000 := by decide
theorem cn_2000 : (2000 : Int32).toNatClampNeg = 2000 := by decide
theorem cn_9999 : (9999 : Int32).toNatClampNeg = 9999 := by decide
def S0 : List wSh := [(16, 0, [(2, 1), (2, 3), (2, 16), (2, 29), (2, 34), (2, 39), (2, 41), (2, 43), (2, 48), (2, 130), (2, 134), (2, 135)]), (13, 0, [(2, 2), (0, 0), (0, 0), (0, 0), (0, 0), (0, 0), (1, 0), (0, 0)]), (1, 1000, []), (10, 0, [(0, 0), (2, 4), (2, 5), (2, 6), (2, 7), (0, 0), (2, 8), (2, 9), (2, 10), (2, 11), (0, 0), (2, 12), (2, 13)]), (3, 3, []), (0, 3, []), (0, 3, []), (0, 3, []), (3, 6, []), (0, 6, []), (0, 6, []), (0, 6, []), (0, 12, []), (8, 0, [(2, 14), (0, 0), (0, 0), (2, 15)]), (0, 1000, []), (0, 32, []), (10, 0, [(0, 0), (2, 17), (2, 18), (2, 19), (2, 20), (0, 0), (2, 21), (2, 22), (2, 23), (2, 24), (0, 0), (2, 25), (2, 26)]), (3, 3, []), (0, 3, []), (0, 3, []), (0, 3, []), (3, 6, []), (0, 6, []), (0, 6, []), (0, 6, []), (0, 12, []), (8, 0, [(2, 27), (0, 0), (0, 0), (2, 28)]), (0, 1000, []), (0, 32, []), (12, 0, [(2, 3), (0, 0), (2, 30), (2, 31), (2, 32), (2, 33)]), (0, 3, []), (0, 3, []), (0, 18, []), (0, 18, []), (12, 0, [(2, 3), (0, 0), (2, 35), (2, 36), (2, 37), (2, 38)]), (0, 3, []), (0, 3, []), (0, 18, []), (0, 18, []), (15, 0, [(0, 0), (2, 40)]), (0, 40, []), (15, 0, [(0, 0), (2, 42)]), (0, 40, []), (11, 0, [(0, 0), (2, 44), (2, 45), (2, 46), (2, 47)]), (0, 8, []), (0, 8, []), (0, 8, []), (0, 8, []), (14, 0, [(0, 0), (0, 0), (2, 49)]), (5, 16, [(2, 50), (2, 55), (2, 60), (2, 65), (2, 70), (2, 75), (2, 80), (2, 85), (2, 90), (2, 95), (2, 100), (2, 105), (2, 110), (2, 115), (2, 120), (2, 125)]), (12, 0, [(2, 3), (0, 0), (2, 51), (2, 52), (2, 53), (2, 54)]), (0, 3, []), (0, 3, []), (0, 18, []), (0, 18, []), (12, 0, [(2, 3), (0, 0), (2, 56), (2, 57), (2, 58), (2, 59)]), (0, 3, []), (0, 3, []), (0, 18, []), (0, 18, []), (12, 0, [(2, 3), (0, 0), (2, 61), (2, 62), (2, 63), (2, 64)]), (0, 3, []), (0, 3, []), (0, 18, []), (0, 18, []), (12, 0, [(2, 3), (0, 0), (2, 66), (2, 67), (2, 68), (2, 69)]), (0, 3, []), (0, 3, []), (0, 18, []), (0, 18, []), (12, 0, [(2, 3), (0, 0), (2, 71), (2, 72), (2, 73), (2, 74)]), (0, 3, []), (0, 3, []), (0, 18, []), (0, 18, []), (12, 0, [(2, 3), (0, 0), (2, 76), (2, 77), (2, 78), (2, 79)]), (0, 3, []), (0, 3, []), (0, 18, []), (0, 18, []), (12, 0, [(2, 3), (0, 0), (2, 81), (2, 82), (2, 83), (2, 84)]), (0, 3, []), (0, 3, []), (0, 18, []), (0, 18, []), (12, 0, [(2, 3), (0, 0), (2, 86), (2, 87), (2, 88), (2, 89)]), (0, 3, []), (0, 3, []), (0, 18, []), (0, 18, []), (12, 0, [(2, 3), (0, 0), (2, 91), (2, 92), (2, 93), (2, 94)]), (0, 3, []), (0, 3, []), (0, 18, []), (0, 18, []), (12, 0, [(2, 3), (0, 0), (2, 96), (2, 97), (2, 98), (2, 99)]), (0, 3, []), (0, 3, []), (0, 18, []), (0, 18, []), (12, 0, [(2, 3), (0, 0), (2, 101), (2, 102), (2, 103), (2, 104)]), (0, 3, []), (0, 3, []), (0, 18, []), (0, 18, []), (12, 0, [(2, 3), (0, 0), (2, 106), (2, 107), (2, 108), (2, 109)]), (0, 3, []), (0, 3, []), (0, 18, []), (0, 18, []), (12, 0, [(2, 3), (0, 0), (2, 111), (2, 112), (2, 113), (2, 114)]), (0, 3, []), (0, 3, []), (0, 18, []), (0, 18, []), (12, 0, [(2, 3), (0, 0), (2, 116), (2, 117), (2, 118), (2, 119)]), (0, 3, []), (0, 3, []), (0, 18, []), (0, 18, []), (12, 0, [(2, 3), (0, 0), (2, 121), (2, 122), (2, 123), (2, 124)]), (0, 3, []), (0, 3, []), (0, 18, []), (0, 18, []), (12, 0, [(2, 3), (0, 0), (2, 126), (2, 127), (2, 128), (2, 129)]), (0, 3, []), (0, 3, []), (0, 18, []), (0, 18, []), (9, 0, [(2, 3), (0, 0), (2, 131), (2, 132), (0, 0), (2, 133), (0, 0)]), (0, 6, []), (0, 6, []), (0, 18, []), (7, 0, [(1, 0)]), (4, 4, [(2, 136), (2, 149), (2, 162), (2, 175)]), (6, 0, [(0, 0), (2, 144), (2, 137), (2, 139)]), (15, 0, [(0, 0), (2, 138)]), (0, 40, []), (11, 0, [(0, 0), (2, 140), (2, 141), (2, 142), (2, 143)]), (0, 8, []), (0, 8, []), (0, 8, []), (0, 8, []), (12, 0, [(2, 3), (0, 0), (2, 145), (2, 146), (2, 147), (2, 148)]), (0, 3, []), (0, 3, []), (0, 18, []), (0, 18, []), (6, 0, [(0, 0), (2, 157), (2, 150), (2, 152)]), (15, 0, [(0, 0), (2, 151)]), (0, 40, []), (11, 0, [(0, 0), (2, 153), (2, 154), (2, 155), (2, 156)]), (0, 8, []), (0, 8, []), (0, 8, []), (0, 8, []), (12, 0, [(2, 3), (0, 0), (2, 158), (2, 159), (2, 160), (2, 161)]), (0, 3, []), (0, 3, []), (0, 18, []), (0, 18, []), (6, 0, [(0, 0), (2, 170), (2, 163), (2, 165)]), (15, 0, [(0, 0), (2, 164)]), (0, 40, []), (11, 0, [(0, 0), (2, 166), (2, 167), (2, 168), (2, 169)]), (0, 8, []), (0, 8, []), (0, 8, []), (0, 8, []), (12, 0, [(2, 3), (0, 0), (2, 171), (2, 172), (2, 173), (2, 174)]), (0, 3, []), (0, 3, []), (0, 18, []), (0, 18, []), (6, 0, [(0, 0), (2, 183), (2, 176), (2, 178)]), (15, 0, [(0, 0), (2, 177)]), (0, 40, []), (11, 0, [(0, 0), (2, 179), (2, 180), (2, 181), (2, 182)]), (0, 8, []), (0, 8, []), (0, 8, []), (0, 8, []), (12, 0, [(2, 3), (0, 0), (2, 184), (2, 185), (2, 186), (2, 187)]), (0, 3, []), (0, 3, []), (0, 18, []), (0, 18, []), (17, 0, [(0, 0), (0, 0), (2, 189), (0, 0), (0, 0), (0, 0), (0, 0), (1, 0), (0, 0), (0, 0), (2, 190), (2, 191), (2, 192), (2, 193), (2, 194), (2, 195), (2, 196), (2, 197), (2, 198), (2, 199), (2, 200), (2, 201), (2, 202), (0, 0), (2, 203), (2, 204), (2, 205), (2, 206), (2, 207), (2, 208), (2, 209), (2, 210), (2, 211), (2, 212), (2, 213), (2, 214), (0, 0), (1, 0), (2, 215), (2, 216), (2, 217), (2, 218), (2, 219), (2, 220), (2, 221), (2, 222), (2, 223), (2, 224), (2, 225), (2, 226), (2, 227), (2, 228), (2, 229), (2, 230), (0, 0), (2, 231), (2, 232), (0, 0), (1, 0)]), (0, 1000, []), (0, 6, []), (3, 6, []), (3, 12, []), (0, 6, []), (0, 6, []), (0, 6, []), (0, 12, []), (0, 12, []), (0, 12, []), (0, 24, []), (0, 2, []), (0, 2, []), (0, 2000, []), (0, 7, []), (2, 7, []), (0, 7, []), (0, 7, []), (0, 7, []), (0, 7, []), (0, 7, []), (0, 7, []), (0, 7, []), (0, 7, []), (0, 7, []), (0, 20, []), (0, 6, []), (0, 240, []), (0, 240, []), (0, 240, []), (0, 240, []), (0, 5, []), (0, 40, []), (0, 40, []), (0, 40, []), (2, 40, []), (0, 25, []), (0, 25, []), (0, 25, []), (0, 100, []), (0, 400, []), (2, 4, []), (0, 6, []), (0, 6, []), (3, 1, [])]
theorem S0_0 : S0[0]? = some (16, 0, [(2, 1), (2, 3), (2, 16), (2, 29), (2, 34), (2, 39), (2, 41), (2, 43), (2, 48), (2, 130), (2, 134), (2, 135)]) := rfl
theorem S0_1 : S0[1]? = some (13, 0, [(2, 2), (0, 0), (0, 0), (0, 0), (0, 0), (0, 0), (1, 0), (0, 0)]) := rfl
theorem S0_2 : S0[2]? = some (1, 1000, []) := rfl
theorem S0_3 : S0[3]? = some (10, 0, [(0, 0), (2, 4), (2, 5), (2, 6), (2, 7), (0, 0), (2, 8), (2, 9), (2, 10), (2, 11), (0, 0), (2, 12), (2, 13)]) := rfl
theorem S0_4 : S0[4]? = some (3, 3, []) := rfl
theorem S0_5 : S0[5]? = some (0, 3, []) := rfl
theorem S0_6 : S0[6]? = some (0, 3, []) := rfl
theorem S0_7 : S0[7]? = some (0, 3, []) := rfl
theorem S0_8 : S0[8]? = some (3, 6, []) := rfl
theorem S0_9 : S0[9]? = some (0, 6, []) := rfl
theorem S0_10 : S0[10]? = some (0, 6, []) := rfl
theorem S0_11 : S0[11]? = some (0, 6, []) := rfl
theorem S0_12 : S0[12]? = some (0, 12, []) := rfl
theorem S0_13 : S0[13]? = some (8, 0, [(2, 14), (0, 0), (0, 0), (2, 15)]) := rfl
theorem S0_14 : S0[14]? = some (0, 1000, []) := rfl
theorem S0_15 : S0[15]? = some (0, 32, []) := rfl
theorem S0_16 : S0[16]? = some (10, 0, [(0, 0), (2, 17), (2, 18), (2, 19), (2, 20), (0, 0), (2, 21), (2, 22), (2, 23), (2, 24), (0, 0), (2, 25), (2, 26)]) := rfl
theorem S0_17 : S0[17]? = some (3, 3, []) := rfl
theorem S0_18 : S0[18]? = some (0, 3, []) := rfl
theorem S0_19 : S0[19]? = some (0, 3, []) := rfl
theorem S0_20 : S0[20]? = some (0, 3, []) := rfl
theorem S0_21 : S0[21]? = some (3, 6, []) := rfl
theorem S0_22 : S0[22]? = some (0, 6, []) := rfl
theorem S0_23 : S0[23]? = some (0, 6, []) := rfl
theorem S0_24 : S0[24]? = some (0, 6, []) := rfl
theorem S0_25 : S0[25]? = some (0, 12, []) := rfl
theorem S0_26 : S0[26]? = some (8, 0, [(2, 27), (0, 0), (0, 0), (2, 28)]) := rfl
theorem S0_27 : S0[27]? = some (0, 1000, []) := rfl
theorem S0_28 : S0[28]? = some (0, 32, []) := rfl
theorem S0_29 : S0[29]? = some (12, 0, [(2, 3), (0, 0), (2, 30), (2, 31), (2, 32), (2, 33)]) := rfl
theorem S0_30 : S0[30]? = some (0, 3, []) := rfl
theorem S0_31 : S0[31]? = some (0, 3, []) := rfl
theorem S0_32 : S0[32]? = some (0, 18, []) := rfl
theorem S0_33 : S0[33]? = some (0, 18, []) := rfl
theorem S0_34 : S0[34]? = some (12, 0, [(2, 3), (0, 0), (2, 35), (2, 36), (2, 37), (2, 38)]) := rfl
theorem S0_35 : S0[35]? = some (0, 3, []) := rfl
theorem S0_36 : S0[36]? = some (0, 3, []) := rfl
theorem S0_37 : S0[37]? = some (0, 18, []) := rfl
theorem S0_38 : S0[38]? = some (0, 18, []) := rfl
theorem S0_39 : S0[39]? = some (15, 0, [(0, 0), (2, 40)]) := rfl
theorem S0_40 : S0[40]? = some (0, 40, []) := rfl
theorem S0_41 : S0[41]? = some (15, 0, [(0, 0), (2, 42)]) := rfl
theorem S0_42 : S0[42]? = some (0, 40, []) := rfl
theorem S0_43 : S0[43]? = some (11, 0, [(0, 0), (2, 44), (2, 45), (2, 46), (2, 47)]) := rfl
theorem S0_44 : S0[44]? = some (0, 8, []) := rfl
theorem S0_45 : S0[45]? = some (0, 8, []) := rfl
theorem S0_46 : S0[46]? = some (0, 8, []) := rfl
theorem S0_47 : S0[47]? = some (0, 8, []) := rfl
theorem S0_48 : S0[48]? = some (14, 0, [(0, 0), (0, 0), (2, 49)]) := rfl
theorem S0_49 : S0[49]? = some (5, 16, [(2, 50), (2, 55), (2, 60), (2, 65), (2, 70), (2, 75), (2, 80), (2, 85), (2, 90), (2, 95), (2, 100), (2, 105), (2, 110), (2, 115), (2, 120), (2, 125)]) := rfl
theorem S0_50 : S0[50]? = some (12, 0, [(2, 3), (0, 0), (2, 51), (2, 52), (2, 53), (2, 54)]) := rfl
theorem S0_51 : S0[51]? = some (0, 3, []) := rfl
theorem S0_52 : S0[52]? = some (0, 3, []) := rfl
theorem S0_53 : S0[53]? = some (0, 18, []) := rfl
theorem S0_54 : S0[54]? = some (0, 18, []) := rfl
theorem S0_55 : S0[55]? = some (12, 0, [(2, 3), (0, 0), (2, 56), (2, 57), (2, 58), (2, 59)]) := rfl
theorem S0_56 : S0[56]? = some (0, 3, []) := rfl
theorem S0_57 : S0[57]? = some (0, 3, []) := rfl
theorem S0_58 : S0[58]? = some (0, 18, []) := rfl
theorem S0_59 : S0[59]? = some (0, 18, []) := rfl
theorem S0_60 : S0[60]? = some (12, 0, [(2, 3), (0, 0), (2, 61), (2, 62), (2, 63), (2, 64)]) := rfl
theorem S0_61 : S0[61]? = some (0, 3, []) := rfl
theorem S0_62 : S0[62]? = some (0, 3, []) := rfl
theorem S0_63 : S0[63]? = some (0, 18, []) := rfl
theorem S0_64 : S0[64]? = some (0, 18, []) := rfl
theorem S0_65 : S0[65]? = some (12, 0, [(2, 3), (0, 0), (2, 66), (2, 67), (2, 68), (2, 69)]) := rfl
theorem S0_66 : S0[66]? = some (0, 3, []) := rfl
theorem S0_67 : S0[67]? = some (0, 3, []) := rfl
theorem S0_68 : S0[68]? = some (0, 18, []) := rfl
theorem S0_69 : S0[69]? = some (0, 18, []) := rfl
theorem S0_70 : S0[70]? = some (12, 0, [(2, 3), (0, 0), (2, 71), (2, 72), (2, 73), (2, 74)]) := rfl
theorem S0_71 : S0[71]? = some (0, 3, []) := rfl
theorem S0_72 : S0[72]? = some (0, 3, []) := rfl
theorem S0_73 : S0[73]? = some (0, 18, []) := rfl
theorem S0_74 : S0[74]? = some (0, 18, []) := rfl
theorem S0_75 : S0[75]? = some (12, 0, [(2, 3), (0, 0), (2, 76), (2, 77), (2, 78), (2, 79)]) := rfl
theorem S0_76 : S0[76]? = some (0, 3, []) := rfl
theorem S0_77 : S0[77]? = some (0, 3, []) := rfl
theorem S0_78 : S0[78]? = some (0, 18, []) := rfl
theorem S0_79 : S0[79]? = some (0, 18, []) := rfl
theorem S0_80 : S0[80]? = some (12, 0, [(2, 3), (0, 0), (2, 81), (2, 82), (2, 83), (2, 84)]) := rfl
theorem S0_81 : S0[81]? = some (0, 3, []) := rfl
theorem S0_82 : S0[82]? = some (0, 3, []) := rfl
theorem S0_83 : S0[83]? = some (0, 18, []) := rfl
theorem S0_84 : S0[84]? = some (0, 18, []) := rfl
theorem S0_85 : S0[85]? = some (12, 0, [(2, 3), (0, 0), (2, 86), (2, 87), (2, 88), (2, 89)]) := rfl
theorem S0_86 : S0[86]? = some (0, 3, []) := rfl
theorem S0_87 : S0[87]? = some (0, 3, []) := rfl
theorem S0_88 : S0[88]? = some (0, 18, []) := rfl
theorem S0_89 : S0[89]? = some (0, 18, []) := rfl
theorem S0_90 : S0[90]? = some (12, 0, [(2, 3), (0, 0), (2, 91), (2, 92), (2, 93), (2, 94)]) := rfl
theorem S0_91 : S0[91]? = some (0, 3, []) := rfl
theorem S0_92 : S0[92]? = some (0, 3, []) := rfl
theorem S0_93 : S0[93]? = some (0, 18, []) := rfl
theorem S0_94 : S0[94]? = some (0, 18, []) := rfl
theorem S0_95 : S0[95]? = some (12, 0, [(2, 3), (0, 0), (2, 96), (2, 97), (2, 98), (2, 99)]) := rfl
theorem S0_96 : S0[96]? = some (0, 3, []) := rfl
theorem S0_97 : S0[97]? = some (0, 3, []) := rfl
theorem S0_98 : S0[98]? = some (0, 18, []) := rfl
theorem S0_99 : S0[99]? = some (0, 18, []) := rfl
theorem S0_100 : S0[100]? = some (12, 0, [(2, 3), (0, 0), (2, 101), (2, 102), (2, 103), (2, 104)]) := rfl
theorem S0_101 : S0[101]? = some (0, 3, []) := rfl
theorem S0_102 : S0[102]? = some (0, 3, []) := rfl
theorem S0_103 : S0[103]? = some (0, 18, []) := rfl
theorem S0_104 : S0[104]? = some (0, 18, []) := rfl
theorem S0_105 : S0[105]? = some (12, 0, [(2, 3), (0, 0), (2, 106), (2, 107), (2, 108), (2, 109)]) := rfl
theorem S0_106 : S0[106]? = some (0, 3, []) := rfl
theorem S0_107 : S0[107]? = some (0, 3, []) := rfl
theorem S0_108 : S0[108]? = some (0, 18, []) := rfl
theorem S0_109 : S0[109]? = some (0, 18, []) := rfl
theorem S0_110 : S0[110]? = some (12, 0, [(2, 3), (0, 0), (2, 111), (2, 112), (2, 113), (2, 114)]) := rfl
theorem S0_111 : S0[111]? = some (0, 3, []) := rfl
theorem S0_112 : S0[112]? = some (0, 3, []) := rfl
theorem S0_113 : S0[113]? = some (0, 18, []) := rfl
theorem S0_114 : S0[114]? = some (0, 18, []) := rfl
theorem S0_115 : S0[115]? = some (12, 0, [(2, 3), (0, 0), (2, 116), (2, 117), (2, 118), (2, 119)]) := rfl
theorem S0_116 : S0[116]? = some (0, 3, []) := rfl
theorem S0_117 : S0[117]? = some (0, 3, []) := rfl
theorem S0_118 : S0[118]? = some (0, 18, []) := rfl
theorem S0_119 : S0[119]? = some (0, 18, []) := rfl
theorem S0_120 : S0[120]? = some (12, 0, [(2, 3), (0, 0), (2, 121), (2, 122), (2, 123), (2, 124)]) := rfl
theorem S0_121 : S0[121]? = some (0, 3, []) := rfl
theorem S0_122 : S0[122]? = some (0, 3, []) := rfl
theorem S0_123 : S0[123]? = some (0, 18, []) := rfl
theorem S0_124 : S0[124]? = some (0, 18, []) := rfl
theorem S0_125 : S0[125]? = some (12, 0, [(2, 3), (0, 0), (2, 126), (2, 127), (2, 128), (2, 129)]) := rfl
theorem S0_126 : S0[126]? = some (0, 3, []) := rfl
theorem S0_127 : S0[127]? = some (0, 3, []) := rfl
theorem S0_128 : S0[128]? = some (0, 18, []) := rfl
theorem S0_129 : S0[129]? = some (0, 18, []) := rfl
theorem S0_130 : S0[130]? = some (9, 0, [(2, 3), (0, 0), (2, 131), (2, 132), (0, 0), (2, 133), (0, 0)]) := rfl
theorem S0_131 : S0[131]? = some (0, 6, []) := rfl
theorem S0_132 : S0[132]? = some (0, 6, []) := rfl
theorem S0_133 : S0[133]? = some (0, 18, []) := rfl
theorem S0_134 : S0[134]? = some (7, 0, [(1, 0)]) := rfl
theorem S0_135 : S0[135]? = some (4, 4, [(2, 136), (2, 149), (2, 162), (2, 175)]) := rfl
theorem S0_136 : S0[136]? = some (6, 0, [(0, 0), (2, 144), (2, 137), (2, 139)]) := rfl
theorem S0_137 : S0[137]? = some (15, 0, [(0, 0), (2, 138)]) := rfl
theorem S0_138 : S0[138]? = some (0, 40, []) := rfl
theorem S0_139 : S0[139]? = some (11, 0, [(0, 0), (2, 140), (2, 141), (2, 142), (2, 143)]) := rfl
theorem S0_140 : S0[140]? = some (0, 8, []) := rfl
theorem S0_141 : S0[141]? = some (0, 8, []) := rfl
theorem S0_142 : S0[142]? = some (0, 8, []) := rfl
theorem S0_143 : S0[143]? = some (0, 8, []) := rfl
theorem S0_144 : S0[144]? = some (12, 0, [(2, 3), (0, 0), (2, 145), (2, 146), (2, 147), (2, 148)]) := rfl
theorem S0_145 : S0[145]? = some (0, 3, []) := rfl
theorem S0_146 : S0[146]? = some (0, 3, []) := rfl
theorem S0_147 : S0[147]? = some (0, 18, []) := rfl
theorem S0_148 : S0[148]? = some (0, 18, []) := rfl
theorem S0_149 : S0[149]? = some (6, 0, [(0, 0), (2, 157), (2, 150), (2, 152)]) := rfl
theorem S0_150 : S0[150]? = some (15, 0, [(0, 0), (2, 151)]) := rfl
theorem S0_151 : S0[151]? = some (0, 40, []) := rfl
theorem S0_152 : S0[152]? = some (11, 0, [(0, 0), (2, 153), (2, 154), (2, 155), (2, 156)]) := rfl
theorem S0_153 : S0[153]? = some (0, 8, []) := rfl
theorem S0_154 : S0[154]? = some (0, 8, []) := rfl
theorem S0_155 : S0[155]? = some (0, 8, []) := rfl
theorem S0_156 : S0[156]? = some (0, 8, []) := rfl
theorem S0_157 : S0[157]? = some (12, 0, [(2, 3), (0, 0), (2, 158), (2, 159), (2, 160), (2, 161)]) := rfl
theorem S0_158 : S0[158]? = some (0, 3, []) := rfl
theorem S0_159 : S0[159]? = some (0, 3, []) := rfl
theorem S0_160 : S0[160]? = some (0, 18, []) := rfl
theorem S0_161 : S0[161]? = some (0, 18, []) := rfl
theorem S0_162 : S0[162]? = some (6, 0, [(0, 0), (2, 170), (2, 163), (2, 165)]) := rfl
theorem S0_163 : S0[163]? = some (15, 0, [(0, 0), (2, 164)]) := rfl
theorem S0_164 : S0[164]? = some (0, 40, []) := rfl
theorem S0_165 : S0[165]? = some (11, 0, [(0, 0), (2, 166), (2, 167), (2, 168), (2, 169)]) := rfl
theorem S0_166 : S0[166]? = some (0, 8, []) := rfl
theorem S0_167 : S0[167]? = some (0, 8, []) := rfl
theorem S0_168 : S0[168]? = some (0, 8, []) := rfl
theorem S0_169 : S0[169]? = some (0, 8, []) := rfl
theorem S0_170 : S0[170]? = some (12, 0, [(2, 3), (0, 0), (2, 171), (2, 172), (2, 173), (2, 174)]) := rfl
theorem S0_171 : S0[171]? = some (0, 3, []) := rfl
theorem S0_172 : S0[172]? = some (0, 3, []) := rfl
theorem S0_173 : S0[173]? = some (0, 18, []) := rfl
theorem S0_174 : S0[174]? = some (0, 18, []) := rfl
theorem S0_175 : S0[175]? = some (6, 0, [(0, 0), (2, 183), (2, 176), (2, 178)]) := rfl
theorem S0_176 : S0[176]? = some (15, 0, [(0, 0), (2, 177)]) := rfl
theorem S0_177 : S0[177]? = some (0, 40, []) := rfl
theorem S0_178 : S0[178]? = some (11, 0, [(0, 0), (2, 179), (2, 180), (2, 181), (2, 182)]) := rfl
theorem S0_179 : S0[179]? = some (0, 8, []) := rfl
theorem S0_180 : S0[180]? = some (0, 8, []) := rfl
theorem S0_181 : S0[181]? = some (0, 8, []) := rfl
theorem S0_182 : S0[182]? = some (0, 8, []) := rfl
theorem S0_183 : S0[183]? = some (12, 0, [(2, 3), (0, 0), (2, 184), (2, 185), (2, 186), (2, 187)]) := rfl
theorem S0_184 : S0[184]? = some (0, 3, []) := rfl
theorem S0_185 : S0[185]? = some (0, 3, []) := rfl
theorem S0_186 : S0[186]? = some (0, 18, []) := rfl
theorem S0_187 : S0[187]? = some (0, 18, []) := rfl
theorem S0_188 : S0[188]? = some (17, 0, [(0, 0), (0, 0), (2, 189), (0, 0), (0, 0), (0, 0), (0, 0), (1, 0), (0, 0), (0, 0), (2, 190), (2, 191), (2, 192), (2, 193), (2, 194), (2, 195), (2, 196), (2, 197), (2, 198), (2, 199), (2, 200), (2, 201), (2, 202), (0, 0), (2, 203), (2, 204), (2, 205), (2, 206), (2, 207), (2, 208), (2, 209), (2, 210), (2, 211), (2, 212), (2, 213), (2, 214), (0, 0), (1, 0), (2, 215), (2, 216), (2, 217), (2, 218), (2, 219), (2, 220), (2, 221), (2, 222), (2, 223), (2, 224), (2, 225), (2, 226), (2, 227), (2, 228), (2, 229), (2, 230), (0, 0), (2, 231), (2, 232), (0, 0), (1, 0)]) := rfl
theorem S0_189 : S0[189]? = some (0, 1000, []) := rfl
theorem S0_190 : S0[190]? = some (0, 6, []) := rfl
theorem S0_191 : S0[191]? = some (3, 6, []) := rfl
theorem S0_192 : S0[192]? = some (3, 12, []) := rfl
theorem S0_193 : S0[193]? = some (0, 6, []) := rfl
theorem S0_194 : S0[194]? = some (0, 6, []) := rfl
theorem S0_195 : S0[195]? = some (0, 6, []) := rfl
theorem S0_196 : S0[196]? = some (0, 12, []) := rfl
theorem S0_197 : S0[197]? = some (0, 12, []) := rfl
theorem S0_198 : S0[198]? = some (0, 12, []) := rfl
theorem S0_199 : S0[199]? = some (0, 24, []) := rfl
theorem S0_200 : S0[200]? = some (0, 2, []) := rfl
theorem S0_201 : S0[201]? = some (0, 2, []) := rfl
theorem S0_202 : S0[202]? = some (0, 2000, []) := rfl
theorem S0_203 : S0[203]? = some (0, 7, []) := rfl
theorem S0_204 : S0[204]? = some (2, 7, []) := rfl
theorem S0_205 : S0[205]? = some (0, 7, []) := rfl
theorem S0_206 : S0[206]? = some (0, 7, []) := rfl
theorem S0_207 : S0[207]? = some (0, 7, []) := rfl
theorem S0_208 : S0[208]? = some (0, 7, []) := rfl
theorem S0_209 : S0[209]? = some (0, 7, []) := rfl
theorem S0_210 : S0[210]? = some (0, 7, []) := rfl
theorem S0_211 : S0[211]? = some (0, 7, []) := rfl
theorem S0_212 : S0[212]? = some (0, 7, []) := rfl
theorem S0_213 : S0[213]? = some (0, 7, []) := rfl
theorem S0_214 : S0[214]? = some (0, 20, []) := rfl
theorem S0_215 : S0[215]? = some (0, 6, []) := rfl
theorem S0_216 : S0[216]? = some (0, 240, []) := rfl
theorem S0_217 : S0[217]? = some (0, 240, []) := rfl
theorem S0_218 : S0[218]? = some (0, 240, []) := rfl
theorem S0_219 : S0[219]? = some (0, 240, []) := rfl
theorem S0_220 : S0[220]? = some (0, 5, []) := rfl
theorem S0_221 : S0[221]? = some (0, 40, []) := rfl
theorem S0_222 : S0[222]? = some (0, 40, []) := rfl
theorem S0_223 : S0[223]? = some (0, 40, []) := rfl
theorem S0_224 : S0[224]? = some (2, 40, []) := rfl
theorem S0_225 : S0[225]? = some (0, 25, []) := rfl
theorem S0_226 : S0[226]? = some (0, 25, []) := rfl
theorem S0_227 : S0[227]? = some (0, 25, []) := rfl
theorem S0_228 : S0[228]? = some (0, 100, []) := rfl
theorem S0_229 : S0[229]? = some (0, 400, []) := rfl
theorem S0_230 : S0[230]? = some (2, 4, []) := rfl
theorem S0_231 : S0[231]? = some (0, 6, []) := rfl
theorem S0_232 : S0[232]? = some (0, 6, []) := rfl
theorem S0_233 : S0[233]? = some (3, 1, []) := rfl
