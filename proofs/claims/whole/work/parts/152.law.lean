def f_L_law_1437 (xs : Nat → Int32) (L : Nat) (kb_18 : Int32 → zS → Option (Unit × zS)) (v3 : Int32) (s : zS) : Option (Unit × zS) :=
  zb (v3 + (nI 6)) fun x1 =>
  kb_18 x1 s
set_option maxRecDepth 20000 in
set_option maxHeartbeats 4000000 in
theorem b_L_law_1437 {X : zX} {b L : Nat} {xs : Nat → Int32} {kb_18 : Int32 → zS → Option (Unit × zS)} (hX : zx_ok X code RLw 4) (hT : zl_t X b L xs) (hk_18 : ∀ (v3 : Int32) (s : zS), zV X (zl_q X b) 4 18 [(0, .ref b), (1, .ref (zx_ad X 0)), (2, .ref (zx_ad X 76)), (3, .int v3)] [] s (kb_18 v3 s)) : ∀ (v3 : Int32) (s : zS), zV X (zl_q X b) 4 1437 [(0, .ref b), (1, .ref (zx_ad X 0)), (2, .ref (zx_ad X 76)), (3, .int v3)] [] s (f_L_law_1437 xs L kb_18 v3 s) := by
  intro v3 s
  unfold f_L_law_1437
  refine zv_iincB (lw := fun x1 => [(3, .int x1), (0, .ref b), (1, .ref (zx_ad X 0)), (2, .ref (zx_ad X 76))]) hX dL_law_1437 3 rfl zi_i_6 (by decide) (fun _ => rfl) (fun x1 => ?_)
  refine zv_goto (tgt := 18) hX dL_law_1440 rfl ?_
  exact zv_sub [1, 2, 3, 0] rfl (hk_18 x1 s)
def f_L_law_18 (xs : Nat → Int32) (L : Nat) : Nat → Int32 → zS → Option (Unit × zS)
  | 0, _, _ => none
  | n + 1, v3, s =>
    if ((nI L) - (nI 6)) < v3 then
    (some ((), s))
    else
    (zr_x xs L v3).bind fun x2 =>
    if (x2 &&& (nI 63)) = (0 : Int32) then
    ((zr_x xs L (v3 + (1 : Int32))).bind fun x3 =>
    (zr_x xs L (v3 + (nI 2))).bind fun x4 =>
    (zr_x xs L (v3 + (nI 3))).bind fun x5 =>
    (zr_x xs L (v3 + (nI 4))).bind fun x6 =>
    (zr_x xs L (v3 + (nI 5))).bind fun x7 =>
    zbd (f_X7_feed x3 x4 x5 x6 x7 s) fun r8 s9 =>
    (zr_x xs L (v3 + (1 : Int32))).bind fun x10 =>
    (zr_x xs L (v3 + (nI 2))).bind fun x11 =>
    (zr_x xs L (v3 + (nI 3))).bind fun x12 =>
    (zr_x xs L (v3 + (nI 4))).bind fun x13 =>
    (zr_x xs L (v3 + (nI 5))).bind fun x14 =>
    zbd (f_X8_feed x10 x11 x12 x13 x14 s9) fun r15 s16 =>
    if r8 = r15 then
    (f_L_law_1437 xs L (f_L_law_18 xs L n) v3 s16)
    else
    none)
    else if (x2 &&& (nI 63)) = (1 : Int32) then
    ((zr_x xs L (v3 + (1 : Int32))).bind fun x17 =>
    zbd (f_X7_society x17 s) fun r18 s19 =>
    (zr_x xs L (v3 + (1 : Int32))).bind fun x20 =>
    zbd (f_X8_society x20 s19) fun r21 s22 =>
    if r18 = r21 then
    (f_L_law_1437 xs L (f_L_law_18 xs L n) v3 s22)
    else
    none)
    else if (x2 &&& (nI 63)) = (nI 2) then
    ((zr_x xs L (v3 + (1 : Int32))).bind fun x23 =>
    zbd (f_X7_fault x23 s) fun r24 s25 =>
    (zr_x xs L (v3 + (1 : Int32))).bind fun x26 =>
    zbd (f_X8_fault x26 s25) fun r27 s28 =>
    if r24 = r27 then
    (f_L_law_1437 xs L (f_L_law_18 xs L n) v3 s28)
    else
    none)
    else if (x2 &&& (nI 63)) = (nI 3) then
    ((zr_x xs L (v3 + (1 : Int32))).bind fun x29 =>
    (zr_x xs L (v3 + (nI 2))).bind fun x30 =>
    zbd (f_X7_person x29 x30 s) fun r31 s32 =>
    (zr_x xs L (v3 + (1 : Int32))).bind fun x33 =>
    (zr_x xs L (v3 + (nI 2))).bind fun x34 =>
    zbd (f_X8_person x33 x34 s32) fun r35 s36 =>
    if r31 = r35 then
    (f_L_law_1437 xs L (f_L_law_18 xs L n) v3 s36)
    else
    none)
    else if (x2 &&& (nI 63)) = (nI 4) then
    ((zr_x xs L (v3 + (1 : Int32))).bind fun x37 =>
    (zr_x xs L (v3 + (nI 2))).bind fun x38 =>
    zbd (f_X7_crosses x37 x38 s) fun r39 s40 =>
    (zr_x xs L (v3 + (1 : Int32))).bind fun x41 =>
    (zr_x xs L (v3 + (nI 2))).bind fun x42 =>
    zbd (f_X8_crosses x41 x42 s40) fun r43 s44 =>
    if r39 = r43 then
    (f_L_law_1437 xs L (f_L_law_18 xs L n) v3 s44)
    else
    none)
    else if (x2 &&& (nI 63)) = (nI 5) then
    ((zr_x xs L (v3 + (1 : Int32))).bind fun x45 =>
    (zr_x xs L (v3 + (nI 2))).bind fun x46 =>
    zbd (f_X7_likes x45 x46 s) fun r47 s48 =>
    (zr_x xs L (v3 + (1 : Int32))).bind fun x49 =>
    (zr_x xs L (v3 + (nI 2))).bind fun x50 =>
    zbd (f_X8_likes x49 x50 s48) fun r51 s52 =>
    if r47 = r51 then
    (f_L_law_1437 xs L (f_L_law_18 xs L n) v3 s52)
    else
    none)
    else if (x2 &&& (nI 63)) = (nI 6) then
    ((zr_x xs L (v3 + (1 : Int32))).bind fun x53 =>
    (zr_x xs L (v3 + (nI 2))).bind fun x54 =>
    zbd (f_X7_engage x53 x54 s) fun r55 s56 =>
    (zr_x xs L (v3 + (1 : Int32))).bind fun x57 =>
    (zr_x xs L (v3 + (nI 2))).bind fun x58 =>
    zbd (f_X8_engage x57 x58 s56) fun r59 s60 =>
    if r55 = r59 then
    (f_L_law_1437 xs L (f_L_law_18 xs L n) v3 s60)
    else
    none)
    else if (x2 &&& (nI 63)) = (nI 7) then
    ((zr_x xs L (v3 + (1 : Int32))).bind fun x61 =>
    zbd (f_X7_part x61 s) fun r62 s63 =>
    (zr_x xs L (v3 + (1 : Int32))).bind fun x64 =>
    zbd (f_X8_part x64 s63) fun r65 s66 =>
    if r62 = r65 then
    (f_L_law_1437 xs L (f_L_law_18 xs L n) v3 s66)
    else
    none)
    else if (x2 &&& (nI 63)) = (nI 8) then
    ((zr_x xs L (v3 + (1 : Int32))).bind fun x67 =>
    (zr_x xs L (v3 + (nI 2))).bind fun x68 =>
    zbd (f_X7_stroke x67 x68 s) fun r69 s70 =>
    (zr_x xs L (v3 + (1 : Int32))).bind fun x71 =>
    (zr_x xs L (v3 + (nI 2))).bind fun x72 =>
    zbd (f_X8_stroke x71 x72 s70) fun r73 s74 =>
    if r69 = r73 then
    (f_L_law_1437 xs L (f_L_law_18 xs L n) v3 s74)
    else
    none)
    else if (x2 &&& (nI 63)) = (nI 9) then
    ((zr_x xs L (v3 + (1 : Int32))).bind fun x75 =>
    (zr_x xs L (v3 + (nI 2))).bind fun x76 =>
    zbd (f_X7_mark x75 x76 s) fun r77 s78 =>
    (zr_x xs L (v3 + (1 : Int32))).bind fun x79 =>
    (zr_x xs L (v3 + (nI 2))).bind fun x80 =>
    zbd (f_X8_mark x79 x80 s78) fun r81 s82 =>
    if r77 = r81 then
    (f_L_law_1437 xs L (f_L_law_18 xs L n) v3 s82)
    else
    none)
    else if (x2 &&& (nI 63)) = (nI 10) then
    ((zr_x xs L (v3 + (1 : Int32))).bind fun x83 =>
    zbd (f_X7_undo x83 s) fun r84 s85 =>
    (zr_x xs L (v3 + (1 : Int32))).bind fun x86 =>
    zbd (f_X8_undo x86 s85) fun r87 s88 =>
    if r84 = r87 then
    (f_L_law_1437 xs L (f_L_law_18 xs L n) v3 s88)
    else
    none)
    else if (x2 &&& (nI 63)) = (nI 11) then
    ((zr_x xs L (v3 + (1 : Int32))).bind fun x89 =>
    (zr_x xs L (v3 + (nI 2))).bind fun x90 =>
    zbd (f_X7_judge x89 x90 s) fun r91 s92 =>
    (zr_x xs L (v3 + (1 : Int32))).bind fun x93 =>
    (zr_x xs L (v3 + (nI 2))).bind fun x94 =>
    zbd (f_X8_judge x93 x94 s92) fun r95 s96 =>
    if r91 = r95 then
    (f_L_law_1437 xs L (f_L_law_18 xs L n) v3 s96)
    else
    none)
    else if (x2 &&& (nI 63)) = (nI 12) then
    ((zr_x xs L (v3 + (1 : Int32))).bind fun x97 =>
    zbd (f_X7_perform x97 s) fun r98 s99 =>
    (zr_x xs L (v3 + (1 : Int32))).bind fun x100 =>
    zbd (f_X8_perform x100 s99) fun r101 s102 =>
    if r98 = r101 then
    (f_L_law_1437 xs L (f_L_law_18 xs L n) v3 s102)
    else
    none)
    else if (x2 &&& (nI 63)) = (nI 13) then
    ((zr_x xs L (v3 + (1 : Int32))).bind fun x103 =>
    (zr_x xs L (v3 + (nI 2))).bind fun x104 =>
    zbd (f_X7_year x103 x104 s) fun r105 s106 =>
    (zr_x xs L (v3 + (1 : Int32))).bind fun x107 =>
    (zr_x xs L (v3 + (nI 2))).bind fun x108 =>
    zbd (f_X8_year x107 x108 s106) fun r109 s110 =>
    if r105 = r109 then
    (f_L_law_1437 xs L (f_L_law_18 xs L n) v3 s110)
    else
    none)
    else if (x2 &&& (nI 63)) = (nI 14) then
    (zbd (f_X7_holds s) fun r111 s112 =>
    zbd (f_X8_holds s112) fun r113 s114 =>
    if r111 = r113 then
    (f_L_law_1437 xs L (f_L_law_18 xs L n) v3 s114)
    else
    none)
    else if (x2 &&& (nI 63)) = (nI 15) then
    (zbd (f_X7_breaks s) fun r115 s116 =>
    zbd (f_X8_breaks s116) fun r117 s118 =>
    if r115 = r117 then
    (f_L_law_1437 xs L (f_L_law_18 xs L n) v3 s118)
    else
    none)
    else if (x2 &&& (nI 63)) = (nI 16) then
    (zbd (f_X7_breaking s) fun r119 s120 =>
    zbd (f_X8_breaking s120) fun r121 s122 =>
    if r119 = r121 then
    (f_L_law_1437 xs L (f_L_law_18 xs L n) v3 s122)
    else
    none)
    else if (x2 &&& (nI 63)) = (nI 17) then
    (zbd (f_X7_pairings s) fun r123 s124 =>
    zbd (f_X8_pairings s124) fun r125 s126 =>
    if r123 = r125 then
    (f_L_law_1437 xs L (f_L_law_18 xs L n) v3 s126)
    else
    none)
    else if (x2 &&& (nI 63)) = (nI 18) then
    ((zr_x xs L (v3 + (1 : Int32))).bind fun x127 =>
    (zr_x xs L (v3 + (nI 2))).bind fun x128 =>
    zbd (f_X7_partner x127 x128 s) fun r129 s130 =>
    (zr_x xs L (v3 + (1 : Int32))).bind fun x131 =>
    (zr_x xs L (v3 + (nI 2))).bind fun x132 =>
    zbd (f_X8_partner x131 x132 s130) fun r133 s134 =>
    if r129 = r133 then
    (f_L_law_1437 xs L (f_L_law_18 xs L n) v3 s134)
    else
    none)
    else if (x2 &&& (nI 63)) = (nI 19) then
    ((zr_x xs L (v3 + (1 : Int32))).bind fun x135 =>
    zbd (f_X7_can x135 s) fun r136 s137 =>
    (zr_x xs L (v3 + (1 : Int32))).bind fun x138 =>
    zbd (f_X8_can x138 s137) fun r139 s140 =>
    if r136 = r139 then
    (f_L_law_1437 xs L (f_L_law_18 xs L n) v3 s140)
    else
    none)
    else if (x2 &&& (nI 63)) = (nI 20) then
    (zbd (f_X7_sure s) fun r141 s142 =>
    zbd (f_X8_sure s142) fun r143 s144 =>
    if r141 = r143 then
    (f_L_law_1437 xs L (f_L_law_18 xs L n) v3 s144)
    else
    none)
    else if (x2 &&& (nI 63)) = (nI 21) then
    (zbd (f_X7_most s) fun r145 s146 =>
    zbd (f_X8_most s146) fun r147 s148 =>
    if r145 = r147 then
    (f_L_law_1437 xs L (f_L_law_18 xs L n) v3 s148)
    else
    none)
    else if (x2 &&& (nI 63)) = (nI 22) then
    (zbd (f_X7_triangle s) fun r149 s150 =>
    zbd (f_X8_triangle s150) fun r151 s152 =>
    if r149 = r151 then
    (f_L_law_1437 xs L (f_L_law_18 xs L n) v3 s152)
    else
    none)
    else if (x2 &&& (nI 63)) = (nI 23) then
    ((zr_x xs L (v3 + (1 : Int32))).bind fun x153 =>
    (zr_x xs L (v3 + (nI 2))).bind fun x154 =>
    zbd (f_X7_monogram x153 x154 s) fun r155 s156 =>
    (zr_x xs L (v3 + (1 : Int32))).bind fun x157 =>
    (zr_x xs L (v3 + (nI 2))).bind fun x158 =>
    zbd (f_X8_monogram x157 x158 s156) fun r159 s160 =>
    if r155 = r159 then
    (f_L_law_1437 xs L (f_L_law_18 xs L n) v3 s160)
    else
    none)
    else if (x2 &&& (nI 63)) = (nI 24) then
    ((zr_x xs L (v3 + (1 : Int32))).bind fun x161 =>
    zbd (f_X7_fits x161 s) fun r162 s163 =>
    (zr_x xs L (v3 + (1 : Int32))).bind fun x164 =>
    zbd (f_X8_fits x164 s163) fun r165 s166 =>
    if r162 = r165 then
    (f_L_law_1437 xs L (f_L_law_18 xs L n) v3 s166)
    else
    none)
    else if (x2 &&& (nI 63)) = (nI 25) then
    (zbd (f_X7_largest s) fun r167 s168 =>
    zbd (f_X8_largest s168) fun r169 s170 =>
    if r167 = r169 then
    (f_L_law_1437 xs L (f_L_law_18 xs L n) v3 s170)
    else
    none)
    else if (x2 &&& (nI 63)) = (nI 26) then
    (zbd (f_X7_misfits s) fun r171 s172 =>
    zbd (f_X8_misfits s172) fun r173 s174 =>
    if r171 = r173 then
    (f_L_law_1437 xs L (f_L_law_18 xs L n) v3 s174)
    else
    none)
    else if (x2 &&& (nI 63)) = (nI 27) then
    ((zr_x xs L (v3 + (1 : Int32))).bind fun x175 =>
    (zr_x xs L (v3 + (nI 2))).bind fun x176 =>
    (zr_x xs L (v3 + (nI 3))).bind fun x177 =>
    zbd (f_X7_change x175 x176 x177 s) fun r178 s179 =>
    (zr_x xs L (v3 + (1 : Int32))).bind fun x180 =>
    (zr_x xs L (v3 + (nI 2))).bind fun x181 =>
    (zr_x xs L (v3 + (nI 3))).bind fun x182 =>
    zbd (f_X8_change x180 x181 x182 s179) fun r183 s184 =>
    if r178 = r183 then
    (f_L_law_1437 xs L (f_L_law_18 xs L n) v3 s184)
    else
    none)
    else if (x2 &&& (nI 63)) = (nI 28) then
    ((zr_x xs L (v3 + (1 : Int32))).bind fun x185 =>
    zbd (f_X7_blot x185 s) fun r186 s187 =>
    (zr_x xs L (v3 + (1 : Int32))).bind fun x188 =>
    zbd (f_X8_blot x188 s187) fun r189 s190 =>
    if r186 = r189 then
    (f_L_law_1437 xs L (f_L_law_18 xs L n) v3 s190)
    else
    none)
    else if (x2 &&& (nI 63)) = (nI 29) then
    ((zr_x xs L (v3 + (1 : Int32))).bind fun x191 =>
    (zr_x xs L (v3 + (nI 2))).bind fun x192 =>
    (zr_x xs L (v3 + (nI 3))).bind fun x193 =>
    zbd (f_X7_likely x191 x192 x193 s) fun r194 s195 =>
    (zr_x xs L (v3 + (1 : Int32))).bind fun x196 =>
    (zr_x xs L (v3 + (nI 2))).bind fun x197 =>
    (zr_x xs L (v3 + (nI 3))).bind fun x198 =>
    zbd (f_X8_likely x196 x197 x198 s195) fun r199 s200 =>
    if r194 = r199 then
    (f_L_law_1437 xs L (f_L_law_18 xs L n) v3 s200)
    else
    none)
    else if (x2 &&& (nI 63)) = (nI 30) then
    ((zr_x xs L (v3 + (1 : Int32))).bind fun x201 =>
    zbd (f_X7_look x201 s) fun r202 s203 =>
    (zr_x xs L (v3 + (1 : Int32))).bind fun x204 =>
    zbd (f_X8_look x204 s203) fun r205 s206 =>
    if r202 = r205 then
    (f_L_law_1437 xs L (f_L_law_18 xs L n) v3 s206)
    else
    none)
    else if (x2 &&& (nI 63)) = (nI 31) then
    ((zr_x xs L (v3 + (1 : Int32))).bind fun x207 =>
    (zr_x xs L (v3 + (nI 2))).bind fun x208 =>
    zbd (f_X7_marks x207 x208 s) fun r209 s210 =>
    (zr_x xs L (v3 + (1 : Int32))).bind fun x211 =>
    (zr_x xs L (v3 + (nI 2))).bind fun x212 =>
    zbd (f_X8_marks x211 x212 s210) fun r213 s214 =>
    if r209 = r213 then
    (f_L_law_1437 xs L (f_L_law_18 xs L n) v3 s214)
    else
    none)
    else if (x2 &&& (nI 63)) = (nI 32) then
    ((zr_x xs L (v3 + (1 : Int32))).bind fun x215 =>
    (zr_x xs L (v3 + (nI 2))).bind fun x216 =>
    zbd (f_X7_ask x215 x216 s) fun r217 s218 =>
    (zr_x xs L (v3 + (1 : Int32))).bind fun x219 =>
    (zr_x xs L (v3 + (nI 2))).bind fun x220 =>
    zbd (f_X8_ask x219 x220 s218) fun r221 s222 =>
    if r217 = r221 then
    (f_L_law_1437 xs L (f_L_law_18 xs L n) v3 s222)
    else
    none)
    else if (x2 &&& (nI 63)) = (nI 33) then
    ((zr_x xs L (v3 + (1 : Int32))).bind fun x223 =>
    zbd (f_X7_wins x223 s) fun r224 s225 =>
    (zr_x xs L (v3 + (1 : Int32))).bind fun x226 =>
    zbd (f_X8_wins x226 s225) fun r227 s228 =>
    if r224 = r227 then
    (f_L_law_1437 xs L (f_L_law_18 xs L n) v3 s228)
    else
    none)
    else if (x2 &&& (nI 63)) = (nI 34) then
    ((zr_x xs L (v3 + (1 : Int32))).bind fun x229 =>
    zbd (f_X7_best x229 s) fun r230 s231 =>
    (zr_x xs L (v3 + (1 : Int32))).bind fun x232 =>
    zbd (f_X8_best x232 s231) fun r233 s234 =>
    if r230 = r233 then
    (f_L_law_1437 xs L (f_L_law_18 xs L n) v3 s234)
    else
    none)
    else if (x2 &&& (nI 63)) = (nI 35) then
    ((zr_x xs L (v3 + (1 : Int32))).bind fun x235 =>
    zbd (f_X7_lasts x235 s) fun r236 s237 =>
    (zr_x xs L (v3 + (1 : Int32))).bind fun x238 =>
    zbd (f_X8_lasts x238 s237) fun r239 s240 =>
    if r236 = r239 then
    (f_L_law_1437 xs L (f_L_law_18 xs L n) v3 s240)
    else
    none)
    else if (x2 &&& (nI 63)) = (nI 36) then
    ((zr_x xs L (v3 + (1 : Int32))).bind fun x241 =>
    (zr_x xs L (v3 + (nI 2))).bind fun x242 =>
    zbd (f_X7_chance x241 x242 s) fun r243 s244 =>
    (zr_x xs L (v3 + (1 : Int32))).bind fun x245 =>
    (zr_x xs L (v3 + (nI 2))).bind fun x246 =>
    zbd (f_X8_chance x245 x246 s244) fun r247 s248 =>
    if r243 = r247 then
    (f_L_law_1437 xs L (f_L_law_18 xs L n) v3 s248)
    else
    none)
    else if (x2 &&& (nI 63)) = (nI 37) then
    ((zr_x xs L (v3 + (1 : Int32))).bind fun x249 =>
    zbd (f_X7_likeliest x249 s) fun r250 s251 =>
    (zr_x xs L (v3 + (1 : Int32))).bind fun x252 =>
    zbd (f_X8_likeliest x252 s251) fun r253 s254 =>
    if r250 = r253 then
    (f_L_law_1437 xs L (f_L_law_18 xs L n) v3 s254)
    else
    none)
    else if (x2 &&& (nI 63)) = (nI 38) then
    ((zr_x xs L (v3 + (1 : Int32))).bind fun x255 =>
    (zr_x xs L (v3 + (nI 2))).bind fun x256 =>
    (zr_x xs L (v3 + (nI 3))).bind fun x257 =>
    zbd (f_X7_numbers x255 x256 x257 s) fun r258 s259 =>
    (zr_x xs L (v3 + (1 : Int32))).bind fun x260 =>
    (zr_x xs L (v3 + (nI 2))).bind fun x261 =>
    (zr_x xs L (v3 + (nI 3))).bind fun x262 =>
    zbd (f_X8_numbers x260 x261 x262 s259) fun r263 s264 =>
    if r258 = r263 then
    (f_L_law_1437 xs L (f_L_law_18 xs L n) v3 s264)
    else
    none)
    else if (x2 &&& (nI 63)) = (nI 39) then
    ((zr_x xs L (v3 + (1 : Int32))).bind fun x265 =>
    (zr_x xs L (v3 + (nI 2))).bind fun x266 =>
    (zr_x xs L (v3 + (nI 3))).bind fun x267 =>
    (zr_x xs L (v3 + (nI 4))).bind fun x268 =>
    zbd (f_X7_write x265 x266 ((zo_lshl (x267.toInt64) (nI 32)) ||| ((x268.toInt64) &&& (4294967295 : Int64))) s) fun r269 s270 =>
    (zr_x xs L (v3 + (1 : Int32))).bind fun x271 =>
    (zr_x xs L (v3 + (nI 2))).bind fun x272 =>
    (zr_x xs L (v3 + (nI 3))).bind fun x273 =>
    (zr_x xs L (v3 + (nI 4))).bind fun x274 =>
    zbd (f_X8_write x271 x272 ((zo_lshl (x273.toInt64) (nI 32)) ||| ((x274.toInt64) &&& (4294967295 : Int64))) s270) fun r275 s276 =>
    if (lg_cmp r269 r275) = 0 then
    (f_L_law_1437 xs L (f_L_law_18 xs L n) v3 s276)
    else
    none)
    else if (x2 &&& (nI 63)) = (nI 40) then
    ((zr_x xs L (v3 + (1 : Int32))).bind fun x277 =>
    (zr_x xs L (v3 + (nI 2))).bind fun x278 =>
    zbd (f_X7_lists x277 x278 s) fun r279 s280 =>
    (zr_x xs L (v3 + (1 : Int32))).bind fun x281 =>
    (zr_x xs L (v3 + (nI 2))).bind fun x282 =>
    zbd (f_X8_lists x281 x282 s280) fun r283 s284 =>
    if r279 = r283 then
    (f_L_law_1437 xs L (f_L_law_18 xs L n) v3 s284)
    else
    none)
    else if (x2 &&& (nI 63)) = (nI 41) then
    ((zr_x xs L (v3 + (1 : Int32))).bind fun x285 =>
    zbd (f_X7_image x285 s) fun r286 s287 =>
    (zr_x xs L (v3 + (1 : Int32))).bind fun x288 =>
    zbd (f_X8_image x288 s287) fun r289 s290 =>
    if r286 = r289 then
    (f_L_law_1437 xs L (f_L_law_18 xs L n) v3 s290)
    else
    none)
    else if (x2 &&& (nI 63)) = (nI 42) then
    ((zr_x xs L (v3 + (1 : Int32))).bind fun x291 =>
    zbd (f_X7_restore x291 s) fun r292 s293 =>
    (zr_x xs L (v3 + (1 : Int32))).bind fun x294 =>
    zbd (f_X8_restore x294 s293) fun r295 s296 =>
    if r292 = r295 then
    (f_L_law_1437 xs L (f_L_law_18 xs L n) v3 s296)
    else
    none)
    else if (x2 &&& (nI 63)) = (nI 43) then
    ((zr_x xs L (v3 + (1 : Int32))).bind fun x297 =>
    zbd (f_X7_count x297 s) fun r298 s299 =>
    (zr_x xs L (v3 + (1 : Int32))).bind fun x300 =>
    zbd (f_X8_count x300 s299) fun r301 s302 =>
    if r298 = r301 then
    (f_L_law_1437 xs L (f_L_law_18 xs L n) v3 s302)
    else
    none)
    else 
    f_L_law_1437 xs L (f_L_law_18 xs L n) v3 s
set_option maxRecDepth 20000 in
set_option maxHeartbeats 4000000 in
theorem b_L_law_18 {X : zX} {b L : Nat} {xs : Nat → Int32} (hX : zx_ok X code RLw 4) (hT : zl_t X b L xs) : ∀ (n : Nat) (v3 : Int32) (s : zS), zV X (zl_q X b) 4 18 [(0, .ref b), (1, .ref (zx_ad X 0)), (2, .ref (zx_ad X 76)), (3, .int v3)] [] s (f_L_law_18 xs L n v3 s) := by
  intro n
  induction n with
  | zero => intro v3 s; exact zv_none
  | succ n ih =>
    intro v3 s
    rw [f_L_law_18]
    refine zv_iload_n hX dL_law_18 3 rfl ?_
    refine zv_aload_n hX dL_law_19 0 rfl ?_
    refine zv_xlen hX hT dL_law_20 ?_
    refine zv_bipush (v := (nI 6)) hX dL_law_21 zi_b_6 ?_
    refine zv_isub hX dL_law_23 ?_
    refine zv_icmp_gt (tgt := 1443) hX dL_law_24 rfl ?_ ?_
    · refine zv_iconst (v := (1 : Int32)) hX dL_law_1443 zi_i_1 ?_
      exact zv_lend hX hT dL_law_1444
    · refine zv_aload_n hX dL_law_27 0 rfl ?_
      refine zv_iload_n hX dL_law_28 3 rfl ?_
      refine zv_xld hX hT dL_law_29 (fun x2 => ?_)
      refine zv_bipush (v := (nI 63)) hX dL_law_30 zi_b_63 ?_
      refine zv_iand hX dL_law_32 ?_
      refine zv_ite (fun h33_0 => ?_) (fun h33_0 => ?_)
      · refine zv_tabI (tgt := 224) hX dL_law_33 (0 : Int32) h33_0 (by decide) (by decide) rfl rfl ?_
        refine zv_aload_n hX dL_law_224 1 rfl ?_
        refine zv_aload_n hX dL_law_225 0 rfl ?_
        refine zv_iload_n hX dL_law_226 3 rfl ?_
        refine zv_iconst (v := (1 : Int32)) hX dL_law_227 zi_i_1 ?_
        refine zv_iadd hX dL_law_228 ?_
        refine zv_xld hX hT dL_law_229 (fun x3 => ?_)
        refine zv_aload_n hX dL_law_230 0 rfl ?_
        refine zv_iload_n hX dL_law_231 3 rfl ?_
        refine zv_iconst (v := (nI 2)) hX dL_law_232 zi_i_2 ?_
        refine zv_iadd hX dL_law_233 ?_
        refine zv_xld hX hT dL_law_234 (fun x4 => ?_)
        refine zv_aload_n hX dL_law_235 0 rfl ?_
        refine zv_iload_n hX dL_law_236 3 rfl ?_
        refine zv_iconst (v := (nI 3)) hX dL_law_237 zi_i_3 ?_
        refine zv_iadd hX dL_law_238 ?_
        refine zv_xld hX hT dL_law_239 (fun x5 => ?_)
        refine zv_aload_n hX dL_law_240 0 rfl ?_
        refine zv_iload_n hX dL_law_241 3 rfl ?_
        refine zv_iconst (v := (nI 4)) hX dL_law_242 zi_i_4 ?_
        refine zv_iadd hX dL_law_243 ?_
        refine zv_xld hX hT dL_law_244 (fun x6 => ?_)
        refine zv_aload_n hX dL_law_245 0 rfl ?_
        refine zv_iload_n hX dL_law_246 3 rfl ?_
        refine zv_iconst (v := (nI 5)) hX dL_law_247 zi_i_5 ?_
        refine zv_iadd hX dL_law_248 ?_
        refine zv_xld hX hT dL_law_249 (fun x7 => ?_)
        refine zv_lVI [.int x3, .int x4, .int x5, .int x6, .int x7] (rest := []) hX hT (c_X7_feed (zx_Y X) x3 x4 x5 x6 x7 s) wv_X7_feed c9_7 zd_0 wm_Lw_13 rfl (Nat.le_of_ble_eq_true rfl) (Nat.le_of_ble_eq_true rfl) rfl (Nat.le_of_ble_eq_true rfl) dL_law_250 (fun r8 s9 => ?_)
        refine zv_aload_n hX dL_law_253 2 rfl ?_
        refine zv_aload_n hX dL_law_254 0 rfl ?_
        refine zv_iload_n hX dL_law_255 3 rfl ?_
        refine zv_iconst (v := (1 : Int32)) hX dL_law_256 zi_i_1 ?_
        refine zv_iadd hX dL_law_257 ?_
        refine zv_xld hX hT dL_law_258 (fun x10 => ?_)
        refine zv_aload_n hX dL_law_259 0 rfl ?_
        refine zv_iload_n hX dL_law_260 3 rfl ?_
        refine zv_iconst (v := (nI 2)) hX dL_law_261 zi_i_2 ?_
        refine zv_iadd hX dL_law_262 ?_
        refine zv_xld hX hT dL_law_263 (fun x11 => ?_)
        refine zv_aload_n hX dL_law_264 0 rfl ?_
        refine zv_iload_n hX dL_law_265 3 rfl ?_
        refine zv_iconst (v := (nI 3)) hX dL_law_266 zi_i_3 ?_
        refine zv_iadd hX dL_law_267 ?_
        refine zv_xld hX hT dL_law_268 (fun x12 => ?_)
        refine zv_aload_n hX dL_law_269 0 rfl ?_
        refine zv_iload_n hX dL_law_270 3 rfl ?_
        refine zv_iconst (v := (nI 4)) hX dL_law_271 zi_i_4 ?_
        refine zv_iadd hX dL_law_272 ?_
        refine zv_xld hX hT dL_law_273 (fun x13 => ?_)
        refine zv_aload_n hX dL_law_274 0 rfl ?_
        refine zv_iload_n hX dL_law_275 3 rfl ?_
        refine zv_iconst (v := (nI 5)) hX dL_law_276 zi_i_5 ?_
        refine zv_iadd hX dL_law_277 ?_
        refine zv_xld hX hT dL_law_278 (fun x14 => ?_)
        refine zv_lVI [.int x10, .int x11, .int x12, .int x13, .int x14] (rest := [.int r8]) hX hT (c_X8_feed (zx_Y X) x10 x11 x12 x13 x14 s9) wv_X8_feed c9_8 zd_76 wm_Lw_17 rfl (Nat.le_of_ble_eq_true rfl) (Nat.le_of_ble_eq_true rfl) rfl (Nat.le_of_ble_eq_true rfl) dL_law_279 (fun r15 s16 => ?_)
        refine zv_icmp_eq (tgt := 1437) hX dL_law_282 rfl ?_ ?_
        · exact b_L_law_1437 hX hT ih v3 s16
        · refine zv_iconst (v := (0 : Int32)) hX dL_law_285 zi_i_0 ?_
          exact zv_none
      refine zv_ite (fun h33_1 => ?_) (fun h33_1 => ?_)
      · refine zv_tabI (tgt := 287) hX dL_law_33 (1 : Int32) h33_1 (by decide) (by decide) rfl rfl ?_
        refine zv_aload_n hX dL_law_287 1 rfl ?_
        refine zv_aload_n hX dL_law_288 0 rfl ?_
        refine zv_iload_n hX dL_law_289 3 rfl ?_
        refine zv_iconst (v := (1 : Int32)) hX dL_law_290 zi_i_1 ?_
        refine zv_iadd hX dL_law_291 ?_
        refine zv_xld hX hT dL_law_292 (fun x17 => ?_)
        refine zv_lVI [.int x17] (rest := []) hX hT (c_X7_society (zx_Y X) x17 s) wv_X7_society c9_7 zd_0 wm_Lw_18 rfl (Nat.le_of_ble_eq_true rfl) (Nat.le_of_ble_eq_true rfl) rfl (Nat.le_of_ble_eq_true rfl) dL_law_293 (fun r18 s19 => ?_)
        refine zv_aload_n hX dL_law_296 2 rfl ?_
        refine zv_aload_n hX dL_law_297 0 rfl ?_
        refine zv_iload_n hX dL_law_298 3 rfl ?_
        refine zv_iconst (v := (1 : Int32)) hX dL_law_299 zi_i_1 ?_
        refine zv_iadd hX dL_law_300 ?_
        refine zv_xld hX hT dL_law_301 (fun x20 => ?_)
        refine zv_lVI [.int x20] (rest := [.int r18]) hX hT (c_X8_society (zx_Y X) x20 s19) wv_X8_society c9_8 zd_76 wm_Lw_22 rfl (Nat.le_of_ble_eq_true rfl) (Nat.le_of_ble_eq_true rfl) rfl (Nat.le_of_ble_eq_true rfl) dL_law_302 (fun r21 s22 => ?_)
        refine zv_icmp_eq (tgt := 1437) hX dL_law_305 rfl ?_ ?_
        · exact b_L_law_1437 hX hT ih v3 s22
        · refine zv_iconst (v := (0 : Int32)) hX dL_law_308 zi_i_0 ?_
          exact zv_none
      refine zv_ite (fun h33_2 => ?_) (fun h33_2 => ?_)
      · refine zv_tabI (tgt := 310) hX dL_law_33 (nI 2) h33_2 (by decide) (by decide) rfl rfl ?_
        refine zv_aload_n hX dL_law_310 1 rfl ?_
        refine zv_aload_n hX dL_law_311 0 rfl ?_
        refine zv_iload_n hX dL_law_312 3 rfl ?_
        refine zv_iconst (v := (1 : Int32)) hX dL_law_313 zi_i_1 ?_
        refine zv_iadd hX dL_law_314 ?_
        refine zv_xld hX hT dL_law_315 (fun x23 => ?_)
        refine zv_lVI [.int x23] (rest := []) hX hT (c_X7_fault (zx_Y X) x23 s) wv_X7_fault c9_7 zd_0 wm_Lw_23 rfl (Nat.le_of_ble_eq_true rfl) (Nat.le_of_ble_eq_true rfl) rfl (Nat.le_of_ble_eq_true rfl) dL_law_316 (fun r24 s25 => ?_)
        refine zv_aload_n hX dL_law_319 2 rfl ?_
        refine zv_aload_n hX dL_law_320 0 rfl ?_
        refine zv_iload_n hX dL_law_321 3 rfl ?_
        refine zv_iconst (v := (1 : Int32)) hX dL_law_322 zi_i_1 ?_
        refine zv_iadd hX dL_law_323 ?_
        refine zv_xld hX hT dL_law_324 (fun x26 => ?_)
        refine zv_lVI [.int x26] (rest := [.int r24]) hX hT (c_X8_fault (zx_Y X) x26 s25) wv_X8_fault c9_8 zd_76 wm_Lw_26 rfl (Nat.le_of_ble_eq_true rfl) (Nat.le_of_ble_eq_true rfl) rfl (Nat.le_of_ble_eq_true rfl) dL_law_325 (fun r27 s28 => ?_)
        refine zv_icmp_eq (tgt := 1437) hX dL_law_328 rfl ?_ ?_
        · exact b_L_law_1437 hX hT ih v3 s28
        · refine zv_iconst (v := (0 : Int32)) hX dL_law_331 zi_i_0 ?_
          exact zv_none
      refine zv_ite (fun h33_3 => ?_) (fun h33_3 => ?_)
      · refine zv_tabI (tgt := 333) hX dL_law_33 (nI 3) h33_3 (by decide) (by decide) rfl rfl ?_
        refine zv_aload_n hX dL_law_333 1 rfl ?_
        refine zv_aload_n hX dL_law_334 0 rfl ?_
        refine zv_iload_n hX dL_law_335 3 rfl ?_
        refine zv_iconst (v := (1 : Int32)) hX dL_law_336 zi_i_1 ?_
        refine zv_iadd hX dL_law_337 ?_
        refine zv_xld hX hT dL_law_338 (fun x29 => ?_)
        refine zv_aload_n hX dL_law_339 0 rfl ?_
        refine zv_iload_n hX dL_law_340 3 rfl ?_
        refine zv_iconst (v := (nI 2)) hX dL_law_341 zi_i_2 ?_
        refine zv_iadd hX dL_law_342 ?_
        refine zv_xld hX hT dL_law_343 (fun x30 => ?_)
        refine zv_lVI [.int x29, .int x30] (rest := []) hX hT (c_X7_person (zx_Y X) x29 x30 s) wv_X7_person c9_7 zd_0 wm_Lw_27 rfl (Nat.le_of_ble_eq_true rfl) (Nat.le_of_ble_eq_true rfl) rfl (Nat.le_of_ble_eq_true rfl) dL_law_344 (fun r31 s32 => ?_)
        refine zv_aload_n hX dL_law_347 2 rfl ?_
        refine zv_aload_n hX dL_law_348 0 rfl ?_
        refine zv_iload_n hX dL_law_349 3 rfl ?_
        refine zv_iconst (v := (1 : Int32)) hX dL_law_350 zi_i_1 ?_
        refine zv_iadd hX dL_law_351 ?_
        refine zv_xld hX hT dL_law_352 (fun x33 => ?_)
        refine zv_aload_n hX dL_law_353 0 rfl ?_
        refine zv_iload_n hX dL_law_354 3 rfl ?_
        refine zv_iconst (v := (nI 2)) hX dL_law_355 zi_i_2 ?_
        refine zv_iadd hX dL_law_356 ?_
        refine zv_xld hX hT dL_law_357 (fun x34 => ?_)
        refine zv_lVI [.int x33, .int x34] (rest := [.int r31]) hX hT (c_X8_person (zx_Y X) x33 x34 s32) wv_X8_person c9_8 zd_76 wm_Lw_31 rfl (Nat.le_of_ble_eq_true rfl) (Nat.le_of_ble_eq_true rfl) rfl (Nat.le_of_ble_eq_true rfl) dL_law_358 (fun r35 s36 => ?_)
        refine zv_icmp_eq (tgt := 1437) hX dL_law_361 rfl ?_ ?_
        · exact b_L_law_1437 hX hT ih v3 s36
        · refine zv_iconst (v := (0 : Int32)) hX dL_law_364 zi_i_0 ?_
          exact zv_none
      refine zv_ite (fun h33_4 => ?_) (fun h33_4 => ?_)
      · refine zv_tabI (tgt := 366) hX dL_law_33 (nI 4) h33_4 (by decide) (by decide) rfl rfl ?_
        refine zv_aload_n hX dL_law_366 1 rfl ?_
        refine zv_aload_n hX dL_law_367 0 rfl ?_
        refine zv_iload_n hX dL_law_368 3 rfl ?_
        refine zv_iconst (v := (1 : Int32)) hX dL_law_369 zi_i_1 ?_
        refine zv_iadd hX dL_law_370 ?_
        refine zv_xld hX hT dL_law_371 (fun x37 => ?_)
        refine zv_aload_n hX dL_law_372 0 rfl ?_
        refine zv_iload_n hX dL_law_373 3 rfl ?_
        refine zv_iconst (v := (nI 2)) hX dL_law_374 zi_i_2 ?_
        refine zv_iadd hX dL_law_375 ?_
        refine zv_xld hX hT dL_law_376 (fun x38 => ?_)
        refine zv_lVI [.int x37, .int x38] (rest := []) hX hT (c_X7_crosses (zx_Y X) x37 x38 s) wv_X7_crosses c9_7 zd_0 wm_Lw_32 rfl (Nat.le_of_ble_eq_true rfl) (Nat.le_of_ble_eq_true rfl) rfl (Nat.le_of_ble_eq_true rfl) dL_law_377 (fun r39 s40 => ?_)
        refine zv_aload_n hX dL_law_380 2 rfl ?_
        refine zv_aload_n hX dL_law_381 0 rfl ?_
        refine zv_iload_n hX dL_law_382 3 rfl ?_
        refine zv_iconst (v := (1 : Int32)) hX dL_law_383 zi_i_1 ?_
        refine zv_iadd hX dL_law_384 ?_
        refine zv_xld hX hT dL_law_385 (fun x41 => ?_)
        refine zv_aload_n hX dL_law_386 0 rfl ?_
        refine zv_iload_n hX dL_law_387 3 rfl ?_
        refine zv_iconst (v := (nI 2)) hX dL_law_388 zi_i_2 ?_
        refine zv_iadd hX dL_law_389 ?_
        refine zv_xld hX hT dL_law_390 (fun x42 => ?_)
        refine zv_lVI [.int x41, .int x42] (rest := [.int r39]) hX hT (c_X8_crosses (zx_Y X) x41 x42 s40) wv_X8_crosses c9_8 zd_76 wm_Lw_35 rfl (Nat.le_of_ble_eq_true rfl) (Nat.le_of_ble_eq_true rfl) rfl (Nat.le_of_ble_eq_true rfl) dL_law_391 (fun r43 s44 => ?_)
        refine zv_icmp_eq (tgt := 1437) hX dL_law_394 rfl ?_ ?_
        · exact b_L_law_1437 hX hT ih v3 s44
        · refine zv_iconst (v := (0 : Int32)) hX dL_law_397 zi_i_0 ?_
          exact zv_none
      refine zv_ite (fun h33_5 => ?_) (fun h33_5 => ?_)
      · refine zv_tabI (tgt := 399) hX dL_law_33 (nI 5) h33_5 (by decide) (by decide) rfl rfl ?_
        refine zv_aload_n hX dL_law_399 1 rfl ?_
        refine zv_aload_n hX dL_law_400 0 rfl ?_
        refine zv_iload_n hX dL_law_401 3 rfl ?_
        refine zv_iconst (v := (1 : Int32)) hX dL_law_402 zi_i_1 ?_
        refine zv_iadd hX dL_law_403 ?_
        refine zv_xld hX hT dL_law_404 (fun x45 => ?_)
        refine zv_aload_n hX dL_law_405 0 rfl ?_
        refine zv_iload_n hX dL_law_406 3 rfl ?_
        refine zv_iconst (v := (nI 2)) hX dL_law_407 zi_i_2 ?_
        refine zv_iadd hX dL_law_408 ?_
        refine zv_xld hX hT dL_law_409 (fun x46 => ?_)
        refine zv_lVI [.int x45, .int x46] (rest := []) hX hT (c_X7_likes (zx_Y X) x45 x46 s) wv_X7_likes c9_7 zd_0 wm_Lw_36 rfl (Nat.le_of_ble_eq_true rfl) (Nat.le_of_ble_eq_true rfl) rfl (Nat.le_of_ble_eq_true rfl) dL_law_410 (fun r47 s48 => ?_)
        refine zv_aload_n hX dL_law_413 2 rfl ?_
        refine zv_aload_n hX dL_law_414 0 rfl ?_
        refine zv_iload_n hX dL_law_415 3 rfl ?_
        refine zv_iconst (v := (1 : Int32)) hX dL_law_416 zi_i_1 ?_
        refine zv_iadd hX dL_law_417 ?_
        refine zv_xld hX hT dL_law_418 (fun x49 => ?_)
        refine zv_aload_n hX dL_law_419 0 rfl ?_
        refine zv_iload_n hX dL_law_420 3 rfl ?_
        refine zv_iconst (v := (nI 2)) hX dL_law_421 zi_i_2 ?_
        refine zv_iadd hX dL_law_422 ?_
        refine zv_xld hX hT dL_law_423 (fun x50 => ?_)
        refine zv_lVI [.int x49, .int x50] (rest := [.int r47]) hX hT (c_X8_likes (zx_Y X) x49 x50 s48) wv_X8_likes c9_8 zd_76 wm_Lw_39 rfl (Nat.le_of_ble_eq_true rfl) (Nat.le_of_ble_eq_true rfl) rfl (Nat.le_of_ble_eq_true rfl) dL_law_424 (fun r51 s52 => ?_)
        refine zv_icmp_eq (tgt := 1437) hX dL_law_427 rfl ?_ ?_
        · exact b_L_law_1437 hX hT ih v3 s52
        · refine zv_iconst (v := (0 : Int32)) hX dL_law_430 zi_i_0 ?_
          exact zv_none
      refine zv_ite (fun h33_6 => ?_) (fun h33_6 => ?_)
      · refine zv_tabI (tgt := 432) hX dL_law_33 (nI 6) h33_6 (by decide) (by decide) rfl rfl ?_
        refine zv_aload_n hX dL_law_432 1 rfl ?_
        refine zv_aload_n hX dL_law_433 0 rfl ?_
        refine zv_iload_n hX dL_law_434 3 rfl ?_
        refine zv_iconst (v := (1 : Int32)) hX dL_law_435 zi_i_1 ?_
        refine zv_iadd hX dL_law_436 ?_
        refine zv_xld hX hT dL_law_437 (fun x53 => ?_)
        refine zv_aload_n hX dL_law_438 0 rfl ?_
        refine zv_iload_n hX dL_law_439 3 rfl ?_
        refine zv_iconst (v := (nI 2)) hX dL_law_440 zi_i_2 ?_
        refine zv_iadd hX dL_law_441 ?_
        refine zv_xld hX hT dL_law_442 (fun x54 => ?_)
        refine zv_lVI [.int x53, .int x54] (rest := []) hX hT (c_X7_engage (zx_Y X) x53 x54 s) wv_X7_engage c9_7 zd_0 wm_Lw_40 rfl (Nat.le_of_ble_eq_true rfl) (Nat.le_of_ble_eq_true rfl) rfl (Nat.le_of_ble_eq_true rfl) dL_law_443 (fun r55 s56 => ?_)
        refine zv_aload_n hX dL_law_446 2 rfl ?_
        refine zv_aload_n hX dL_law_447 0 rfl ?_
        refine zv_iload_n hX dL_law_448 3 rfl ?_
        refine zv_iconst (v := (1 : Int32)) hX dL_law_449 zi_i_1 ?_
        refine zv_iadd hX dL_law_450 ?_
        refine zv_xld hX hT dL_law_451 (fun x57 => ?_)
        refine zv_aload_n hX dL_law_452 0 rfl ?_
        refine zv_iload_n hX dL_law_453 3 rfl ?_
        refine zv_iconst (v := (nI 2)) hX dL_law_454 zi_i_2 ?_
        refine zv_iadd hX dL_law_455 ?_
        refine zv_xld hX hT dL_law_456 (fun x58 => ?_)
        refine zv_lVI [.int x57, .int x58] (rest := [.int r55]) hX hT (c_X8_engage (zx_Y X) x57 x58 s56) wv_X8_engage c9_8 zd_76 wm_Lw_43 rfl (Nat.le_of_ble_eq_true rfl) (Nat.le_of_ble_eq_true rfl) rfl (Nat.le_of_ble_eq_true rfl) dL_law_457 (fun r59 s60 => ?_)
        refine zv_icmp_eq (tgt := 1437) hX dL_law_460 rfl ?_ ?_
        · exact b_L_law_1437 hX hT ih v3 s60
        · refine zv_iconst (v := (0 : Int32)) hX dL_law_463 zi_i_0 ?_
          exact zv_none
      refine zv_ite (fun h33_7 => ?_) (fun h33_7 => ?_)
      · refine zv_tabI (tgt := 465) hX dL_law_33 (nI 7) h33_7 (by decide) (by decide) rfl rfl ?_
        refine zv_aload_n hX dL_law_465 1 rfl ?_
        refine zv_aload_n hX dL_law_466 0 rfl ?_
        refine zv_iload_n hX dL_law_467 3 rfl ?_
        refine zv_iconst (v := (1 : Int32)) hX dL_law_468 zi_i_1 ?_
        refine zv_iadd hX dL_law_469 ?_
        refine zv_xld hX hT dL_law_470 (fun x61 => ?_)
        refine zv_lVI [.int x61] (rest := []) hX hT (c_X7_part (zx_Y X) x61 s) wv_X7_part c9_7 zd_0 wm_Lw_44 rfl (Nat.le_of_ble_eq_true rfl) (Nat.le_of_ble_eq_true rfl) rfl (Nat.le_of_ble_eq_true rfl) dL_law_471 (fun r62 s63 => ?_)
        refine zv_aload_n hX dL_law_474 2 rfl ?_
        refine zv_aload_n hX dL_law_475 0 rfl ?_
        refine zv_iload_n hX dL_law_476 3 rfl ?_
        refine zv_iconst (v := (1 : Int32)) hX dL_law_477 zi_i_1 ?_
        refine zv_iadd hX dL_law_478 ?_
        refine zv_xld hX hT dL_law_479 (fun x64 => ?_)
        refine zv_lVI [.int x64] (rest := [.int r62]) hX hT (c_X8_part (zx_Y X) x64 s63) wv_X8_part c9_8 zd_76 wm_Lw_47 rfl (Nat.le_of_ble_eq_true rfl) (Nat.le_of_ble_eq_true rfl) rfl (Nat.le_of_ble_eq_true rfl) dL_law_480 (fun r65 s66 => ?_)
        refine zv_icmp_eq (tgt := 1437) hX dL_law_483 rfl ?_ ?_
        · exact b_L_law_1437 hX hT ih v3 s66
        · refine zv_iconst (v := (0 : Int32)) hX dL_law_486 zi_i_0 ?_
          exact zv_none
      refine zv_ite (fun h33_8 => ?_) (fun h33_8 => ?_)
      · refine zv_tabI (tgt := 488) hX dL_law_33 (nI 8) h33_8 (by decide) (by decide) rfl rfl ?_
        refine zv_aload_n hX dL_law_488 1 rfl ?_
        refine zv_aload_n hX dL_law_489 0 rfl ?_
        refine zv_iload_n hX dL_law_490 3 rfl ?_
        refine zv_iconst (v := (1 : Int32)) hX dL_law_491 zi_i_1 ?_
        refine zv_iadd hX dL_law_492 ?_
        refine zv_xld hX hT dL_law_493 (fun x67 => ?_)
        refine zv_aload_n hX dL_law_494 0 rfl ?_
        refine zv_iload_n hX dL_law_495 3 rfl ?_
        refine zv_iconst (v := (nI 2)) hX dL_law_496 zi_i_2 ?_
        refine zv_iadd hX dL_law_497 ?_
        refine zv_xld hX hT dL_law_498 (fun x68 => ?_)
        refine zv_lVI [.int x67, .int x68] (rest := []) hX hT (c_X7_stroke (zx_Y X) x67 x68 s) wv_X7_stroke c9_7 zd_0 wm_Lw_48 rfl (Nat.le_of_ble_eq_true rfl) (Nat.le_of_ble_eq_true rfl) rfl (Nat.le_of_ble_eq_true rfl) dL_law_499 (fun r69 s70 => ?_)
        refine zv_aload_n hX dL_law_502 2 rfl ?_
        refine zv_aload_n hX dL_law_503 0 rfl ?_
        refine zv_iload_n hX dL_law_504 3 rfl ?_
        refine zv_iconst (v := (1 : Int32)) hX dL_law_505 zi_i_1 ?_
        refine zv_iadd hX dL_law_506 ?_
        refine zv_xld hX hT dL_law_507 (fun x71 => ?_)
        refine zv_aload_n hX dL_law_508 0 rfl ?_
        refine zv_iload_n hX dL_law_509 3 rfl ?_
        refine zv_iconst (v := (nI 2)) hX dL_law_510 zi_i_2 ?_
        refine zv_iadd hX dL_law_511 ?_
        refine zv_xld hX hT dL_law_512 (fun x72 => ?_)
        refine zv_lVI [.int x71, .int x72] (rest := [.int r69]) hX hT (c_X8_stroke (zx_Y X) x71 x72 s70) wv_X8_stroke c9_8 zd_76 wm_Lw_51 rfl (Nat.le_of_ble_eq_true rfl) (Nat.le_of_ble_eq_true rfl) rfl (Nat.le_of_ble_eq_true rfl) dL_law_513 (fun r73 s74 => ?_)
        refine zv_icmp_eq (tgt := 1437) hX dL_law_516 rfl ?_ ?_
        · exact b_L_law_1437 hX hT ih v3 s74
        · refine zv_iconst (v := (0 : Int32)) hX dL_law_519 zi_i_0 ?_
          exact zv_none
      refine zv_ite (fun h33_9 => ?_) (fun h33_9 => ?_)
      · refine zv_tabI (tgt := 521) hX dL_law_33 (nI 9) h33_9 (by decide) (by decide) rfl rfl ?_
        refine zv_aload_n hX dL_law_521 1 rfl ?_
        refine zv_aload_n hX dL_law_522 0 rfl ?_
        refine zv_iload_n hX dL_law_523 3 rfl ?_
        refine zv_iconst (v := (1 : Int32)) hX dL_law_524 zi_i_1 ?_
        refine zv_iadd hX dL_law_525 ?_
        refine zv_xld hX hT dL_law_526 (fun x75 => ?_)
        refine zv_aload_n hX dL_law_527 0 rfl ?_
        refine zv_iload_n hX dL_law_528 3 rfl ?_
        refine zv_iconst (v := (nI 2)) hX dL_law_529 zi_i_2 ?_
        refine zv_iadd hX dL_law_530 ?_
        refine zv_xld hX hT dL_law_531 (fun x76 => ?_)
        refine zv_lVI [.int x75, .int x76] (rest := []) hX hT (c_X7_mark (zx_Y X) x75 x76 s) wv_X7_mark c9_7 zd_0 wm_Lw_52 rfl (Nat.le_of_ble_eq_true rfl) (Nat.le_of_ble_eq_true rfl) rfl (Nat.le_of_ble_eq_true rfl) dL_law_532 (fun r77 s78 => ?_)
        refine zv_aload_n hX dL_law_535 2 rfl ?_
        refine zv_aload_n hX dL_law_536 0 rfl ?_
        refine zv_iload_n hX dL_law_537 3 rfl ?_
        refine zv_iconst (v := (1 : Int32)) hX dL_law_538 zi_i_1 ?_
        refine zv_iadd hX dL_law_539 ?_
        refine zv_xld hX hT dL_law_540 (fun x79 => ?_)
        refine zv_aload_n hX dL_law_541 0 rfl ?_
        refine zv_iload_n hX dL_law_542 3 rfl ?_
        refine zv_iconst (v := (nI 2)) hX dL_law_543 zi_i_2 ?_
        refine zv_iadd hX dL_law_544 ?_
        refine zv_xld hX hT dL_law_545 (fun x80 => ?_)
        refine zv_lVI [.int x79, .int x80] (rest := [.int r77]) hX hT (c_X8_mark (zx_Y X) x79 x80 s78) wv_X8_mark c9_8 zd_76 wm_Lw_55 rfl (Nat.le_of_ble_eq_true rfl) (Nat.le_of_ble_eq_true rfl) rfl (Nat.le_of_ble_eq_true rfl) dL_law_546 (fun r81 s82 => ?_)
        refine zv_icmp_eq (tgt := 1437) hX dL_law_549 rfl ?_ ?_
        · exact b_L_law_1437 hX hT ih v3 s82
        · refine zv_iconst (v := (0 : Int32)) hX dL_law_552 zi_i_0 ?_
          exact zv_none
      refine zv_ite (fun h33_10 => ?_) (fun h33_10 => ?_)
      · refine zv_tabI (tgt := 554) hX dL_law_33 (nI 10) h33_10 (by decide) (by decide) rfl rfl ?_
        refine zv_aload_n hX dL_law_554 1 rfl ?_
        refine zv_aload_n hX dL_law_555 0 rfl ?_
        refine zv_iload_n hX dL_law_556 3 rfl ?_
        refine zv_iconst (v := (1 : Int32)) hX dL_law_557 zi_i_1 ?_
        refine zv_iadd hX dL_law_558 ?_
        refine zv_xld hX hT dL_law_559 (fun x83 => ?_)
        refine zv_lVI [.int x83] (rest := []) hX hT (c_X7_undo (zx_Y X) x83 s) wv_X7_undo c9_7 zd_0 wm_Lw_56 rfl (Nat.le_of_ble_eq_true rfl) (Nat.le_of_ble_eq_true rfl) rfl (Nat.le_of_ble_eq_true rfl) dL_law_560 (fun r84 s85 => ?_)
        refine zv_aload_n hX dL_law_563 2 rfl ?_
        refine zv_aload_n hX dL_law_564 0 rfl ?_
        refine zv_iload_n hX dL_law_565 3 rfl ?_
        refine zv_iconst (v := (1 : Int32)) hX dL_law_566 zi_i_1 ?_
        refine zv_iadd hX dL_law_567 ?_
        refine zv_xld hX hT dL_law_568 (fun x86 => ?_)
        refine zv_lVI [.int x86] (rest := [.int r84]) hX hT (c_X8_undo (zx_Y X) x86 s85) wv_X8_undo c9_8 zd_76 wm_Lw_59 rfl (Nat.le_of_ble_eq_true rfl) (Nat.le_of_ble_eq_true rfl) rfl (Nat.le_of_ble_eq_true rfl) dL_law_569 (fun r87 s88 => ?_)
        refine zv_icmp_eq (tgt := 1437) hX dL_law_572 rfl ?_ ?_
        · exact b_L_law_1437 hX hT ih v3 s88
        · refine zv_iconst (v := (0 : Int32)) hX dL_law_575 zi_i_0 ?_
          exact zv_none
      refine zv_ite (fun h33_11 => ?_) (fun h33_11 => ?_)
      · refine zv_tabI (tgt := 577) hX dL_law_33 (nI 11) h33_11 (by decide) (by decide) rfl rfl ?_
        refine zv_aload_n hX dL_law_577 1 rfl ?_
        refine zv_aload_n hX dL_law_578 0 rfl ?_
        refine zv_iload_n hX dL_law_579 3 rfl ?_
        refine zv_iconst (v := (1 : Int32)) hX dL_law_580 zi_i_1 ?_
        refine zv_iadd hX dL_law_581 ?_
        refine zv_xld hX hT dL_law_582 (fun x89 => ?_)
        refine zv_aload_n hX dL_law_583 0 rfl ?_
        refine zv_iload_n hX dL_law_584 3 rfl ?_
        refine zv_iconst (v := (nI 2)) hX dL_law_585 zi_i_2 ?_
        refine zv_iadd hX dL_law_586 ?_
        refine zv_xld hX hT dL_law_587 (fun x90 => ?_)
        refine zv_lVI [.int x89, .int x90] (rest := []) hX hT (c_X7_judge (zx_Y X) x89 x90 s) wv_X7_judge c9_7 zd_0 wm_Lw_60 rfl (Nat.le_of_ble_eq_true rfl) (Nat.le_of_ble_eq_true rfl) rfl (Nat.le_of_ble_eq_true rfl) dL_law_588 (fun r91 s92 => ?_)
        refine zv_aload_n hX dL_law_591 2 rfl ?_
        refine zv_aload_n hX dL_law_592 0 rfl ?_
        refine zv_iload_n hX dL_law_593 3 rfl ?_
        refine zv_iconst (v := (1 : Int32)) hX dL_law_594 zi_i_1 ?_
        refine zv_iadd hX dL_law_595 ?_
        refine zv_xld hX hT dL_law_596 (fun x93 => ?_)
        refine zv_aload_n hX dL_law_597 0 rfl ?_
        refine zv_iload_n hX dL_law_598 3 rfl ?_
        refine zv_iconst (v := (nI 2)) hX dL_law_599 zi_i_2 ?_
        refine zv_iadd hX dL_law_600 ?_
        refine zv_xld hX hT dL_law_601 (fun x94 => ?_)
        refine zv_lVI [.int x93, .int x94] (rest := [.int r91]) hX hT (c_X8_judge (zx_Y X) x93 x94 s92) wv_X8_judge c9_8 zd_76 wm_Lw_63 rfl (Nat.le_of_ble_eq_true rfl) (Nat.le_of_ble_eq_true rfl) rfl (Nat.le_of_ble_eq_true rfl) dL_law_602 (fun r95 s96 => ?_)
        refine zv_icmp_eq (tgt := 1437) hX dL_law_605 rfl ?_ ?_
        · exact b_L_law_1437 hX hT ih v3 s96
        · refine zv_iconst (v := (0 : Int32)) hX dL_law_608 zi_i_0 ?_
          exact zv_none
      refine zv_ite (fun h33_12 => ?_) (fun h33_12 => ?_)
      · refine zv_tabI (tgt := 610) hX dL_law_33 (nI 12) h33_12 (by decide) (by decide) rfl rfl ?_
        refine zv_aload_n hX dL_law_610 1 rfl ?_
        refine zv_aload_n hX dL_law_611 0 rfl ?_
        refine zv_iload_n hX dL_law_612 3 rfl ?_
        refine zv_iconst (v := (1 : Int32)) hX dL_law_613 zi_i_1 ?_
        refine zv_iadd hX dL_law_614 ?_
        refine zv_xld hX hT dL_law_615 (fun x97 => ?_)
        refine zv_lVI [.int x97] (rest := []) hX hT (c_X7_perform (zx_Y X) x97 s) wv_X7_perform c9_7 zd_0 wm_Lw_64 rfl (Nat.le_of_ble_eq_true rfl) (Nat.le_of_ble_eq_true rfl) rfl (Nat.le_of_ble_eq_true rfl) dL_law_616 (fun r98 s99 => ?_)
        refine zv_aload_n hX dL_law_619 2 rfl ?_
        refine zv_aload_n hX dL_law_620 0 rfl ?_
        refine zv_iload_n hX dL_law_621 3 rfl ?_
        refine zv_iconst (v := (1 : Int32)) hX dL_law_622 zi_i_1 ?_
        refine zv_iadd hX dL_law_623 ?_
        refine zv_xld hX hT dL_law_624 (fun x100 => ?_)
        refine zv_lVI [.int x100] (rest := [.int r98]) hX hT (c_X8_perform (zx_Y X) x100 s99) wv_X8_perform c9_8 zd_76 wm_Lw_67 rfl (Nat.le_of_ble_eq_true rfl) (Nat.le_of_ble_eq_true rfl) rfl (Nat.le_of_ble_eq_true rfl) dL_law_625 (fun r101 s102 => ?_)
        refine zv_icmp_eq (tgt := 1437) hX dL_law_628 rfl ?_ ?_
        · exact b_L_law_1437 hX hT ih v3 s102
        · refine zv_iconst (v := (0 : Int32)) hX dL_law_631 zi_i_0 ?_
          exact zv_none
      refine zv_ite (fun h33_13 => ?_) (fun h33_13 => ?_)
      · refine zv_tabI (tgt := 633) hX dL_law_33 (nI 13) h33_13 (by decide) (by decide) rfl rfl ?_
        refine zv_aload_n hX dL_law_633 1 rfl ?_
        refine zv_aload_n hX dL_law_634 0 rfl ?_
        refine zv_iload_n hX dL_law_635 3 rfl ?_
        refine zv_iconst (v := (1 : Int32)) hX dL_law_636 zi_i_1 ?_
        refine zv_iadd hX dL_law_637 ?_
        refine zv_xld hX hT dL_law_638 (fun x103 => ?_)
        refine zv_aload_n hX dL_law_639 0 rfl ?_
        refine zv_iload_n hX dL_law_640 3 rfl ?_
        refine zv_iconst (v := (nI 2)) hX dL_law_641 zi_i_2 ?_
        refine zv_iadd hX dL_law_642 ?_
        refine zv_xld hX hT dL_law_643 (fun x104 => ?_)
        refine zv_lVI [.int x103, .int x104] (rest := []) hX hT (c_X7_year (zx_Y X) x103 x104 s) wv_X7_year c9_7 zd_0 wm_Lw_68 rfl (Nat.le_of_ble_eq_true rfl) (Nat.le_of_ble_eq_true rfl) rfl (Nat.le_of_ble_eq_true rfl) dL_law_644 (fun r105 s106 => ?_)
        refine zv_aload_n hX dL_law_647 2 rfl ?_
        refine zv_aload_n hX dL_law_648 0 rfl ?_
        refine zv_iload_n hX dL_law_649 3 rfl ?_
        refine zv_iconst (v := (1 : Int32)) hX dL_law_650 zi_i_1 ?_
        refine zv_iadd hX dL_law_651 ?_
        refine zv_xld hX hT dL_law_652 (fun x107 => ?_)
        refine zv_aload_n hX dL_law_653 0 rfl ?_
        refine zv_iload_n hX dL_law_654 3 rfl ?_
        refine zv_iconst (v := (nI 2)) hX dL_law_655 zi_i_2 ?_
        refine zv_iadd hX dL_law_656 ?_
        refine zv_xld hX hT dL_law_657 (fun x108 => ?_)
        refine zv_lVI [.int x107, .int x108] (rest := [.int r105]) hX hT (c_X8_year (zx_Y X) x107 x108 s106) wv_X8_year c9_8 zd_76 wm_Lw_71 rfl (Nat.le_of_ble_eq_true rfl) (Nat.le_of_ble_eq_true rfl) rfl (Nat.le_of_ble_eq_true rfl) dL_law_658 (fun r109 s110 => ?_)
        refine zv_icmp_eq (tgt := 1437) hX dL_law_661 rfl ?_ ?_
        · exact b_L_law_1437 hX hT ih v3 s110
        · refine zv_iconst (v := (0 : Int32)) hX dL_law_664 zi_i_0 ?_
          exact zv_none
      refine zv_ite (fun h33_14 => ?_) (fun h33_14 => ?_)
      · refine zv_tabI (tgt := 666) hX dL_law_33 (nI 14) h33_14 (by decide) (by decide) rfl rfl ?_
        refine zv_aload_n hX dL_law_666 1 rfl ?_
        refine zv_lVI [] (rest := []) hX hT (c_X7_holds (zx_Y X) s) wv_X7_holds c9_7 zd_0 wm_Lw_72 rfl (Nat.le_of_ble_eq_true rfl) (Nat.le_of_ble_eq_true rfl) rfl (Nat.le_of_ble_eq_true rfl) dL_law_667 (fun r111 s112 => ?_)
        refine zv_aload_n hX dL_law_670 2 rfl ?_
        refine zv_lVI [] (rest := [.int r111]) hX hT (c_X8_holds (zx_Y X) s112) wv_X8_holds c9_8 zd_76 wm_Lw_76 rfl (Nat.le_of_ble_eq_true rfl) (Nat.le_of_ble_eq_true rfl) rfl (Nat.le_of_ble_eq_true rfl) dL_law_671 (fun r113 s114 => ?_)
        refine zv_icmp_eq (tgt := 1437) hX dL_law_674 rfl ?_ ?_
        · exact b_L_law_1437 hX hT ih v3 s114
        · refine zv_iconst (v := (0 : Int32)) hX dL_law_677 zi_i_0 ?_
          exact zv_none
      refine zv_ite (fun h33_15 => ?_) (fun h33_15 => ?_)
      · refine zv_tabI (tgt := 679) hX dL_law_33 (nI 15) h33_15 (by decide) (by decide) rfl rfl ?_
        refine zv_aload_n hX dL_law_679 1 rfl ?_
        refine zv_lVI [] (rest := []) hX hT (c_X7_breaks (zx_Y X) s) wv_X7_breaks c9_7 zd_0 wm_Lw_77 rfl (Nat.le_of_ble_eq_true rfl) (Nat.le_of_ble_eq_true rfl) rfl (Nat.le_of_ble_eq_true rfl) dL_law_680 (fun r115 s116 => ?_)
        refine zv_aload_n hX dL_law_683 2 rfl ?_
        refine zv_lVI [] (rest := [.int r115]) hX hT (c_X8_breaks (zx_Y X) s116) wv_X8_breaks c9_8 zd_76 wm_Lw_80 rfl (Nat.le_of_ble_eq_true rfl) (Nat.le_of_ble_eq_true rfl) rfl (Nat.le_of_ble_eq_true rfl) dL_law_684 (fun r117 s118 => ?_)
        refine zv_icmp_eq (tgt := 1437) hX dL_law_687 rfl ?_ ?_
        · exact b_L_law_1437 hX hT ih v3 s118
        · refine zv_iconst (v := (0 : Int32)) hX dL_law_690 zi_i_0 ?_
          exact zv_none
      refine zv_ite (fun h33_16 => ?_) (fun h33_16 => ?_)
      · refine zv_tabI (tgt := 692) hX dL_law_33 (nI 16) h33_16 (by decide) (by decide) rfl rfl ?_
        refine zv_aload_n hX dL_law_692 1 rfl ?_
        refine zv_lVI [] (rest := []) hX hT (c_X7_breaking (zx_Y X) s) wv_X7_breaking c9_7 zd_0 wm_Lw_81 rfl (Nat.le_of_ble_eq_true rfl) (Nat.le_of_ble_eq_true rfl) rfl (Nat.le_of_ble_eq_true rfl) dL_law_693 (fun r119 s120 => ?_)
        refine zv_aload_n hX dL_law_696 2 rfl ?_
        refine zv_lVI [] (rest := [.int r119]) hX hT (c_X8_breaking (zx_Y X) s120) wv_X8_breaking c9_8 zd_76 wm_Lw_84 rfl (Nat.le_of_ble_eq_true rfl) (Nat.le_of_ble_eq_true rfl) rfl (Nat.le_of_ble_eq_true rfl) dL_law_697 (fun r121 s122 => ?_)
        refine zv_icmp_eq (tgt := 1437) hX dL_law_700 rfl ?_ ?_
        · exact b_L_law_1437 hX hT ih v3 s122
        · refine zv_iconst (v := (0 : Int32)) hX dL_law_703 zi_i_0 ?_
          exact zv_none
      refine zv_ite (fun h33_17 => ?_) (fun h33_17 => ?_)
      · refine zv_tabI (tgt := 705) hX dL_law_33 (nI 17) h33_17 (by decide) (by decide) rfl rfl ?_
        refine zv_aload_n hX dL_law_705 1 rfl ?_
        refine zv_lVI [] (rest := []) hX hT (c_X7_pairings (zx_Y X) s) wv_X7_pairings c9_7 zd_0 wm_Lw_85 rfl (Nat.le_of_ble_eq_true rfl) (Nat.le_of_ble_eq_true rfl) rfl (Nat.le_of_ble_eq_true rfl) dL_law_706 (fun r123 s124 => ?_)
        refine zv_aload_n hX dL_law_709 2 rfl ?_
        refine zv_lVI [] (rest := [.int r123]) hX hT (c_X8_pairings (zx_Y X) s124) wv_X8_pairings c9_8 zd_76 wm_Lw_88 rfl (Nat.le_of_ble_eq_true rfl) (Nat.le_of_ble_eq_true rfl) rfl (Nat.le_of_ble_eq_true rfl) dL_law_710 (fun r125 s126 => ?_)
        refine zv_icmp_eq (tgt := 1437) hX dL_law_713 rfl ?_ ?_
        · exact b_L_law_1437 hX hT ih v3 s126
        · refine zv_iconst (v := (0 : Int32)) hX dL_law_716 zi_i_0 ?_
          exact zv_none
      refine zv_ite (fun h33_18 => ?_) (fun h33_18 => ?_)
      · refine zv_tabI (tgt := 718) hX dL_law_33 (nI 18) h33_18 (by decide) (by decide) rfl rfl ?_
        refine zv_aload_n hX dL_law_718 1 rfl ?_
        refine zv_aload_n hX dL_law_719 0 rfl ?_
        refine zv_iload_n hX dL_law_720 3 rfl ?_
        refine zv_iconst (v := (1 : Int32)) hX dL_law_721 zi_i_1 ?_
        refine zv_iadd hX dL_law_722 ?_
        refine zv_xld hX hT dL_law_723 (fun x127 => ?_)
        refine zv_aload_n hX dL_law_724 0 rfl ?_
        refine zv_iload_n hX dL_law_725 3 rfl ?_
        refine zv_iconst (v := (nI 2)) hX dL_law_726 zi_i_2 ?_
        refine zv_iadd hX dL_law_727 ?_
        refine zv_xld hX hT dL_law_728 (fun x128 => ?_)
        refine zv_lVI [.int x127, .int x128] (rest := []) hX hT (c_X7_partner (zx_Y X) x127 x128 s) wv_X7_partner c9_7 zd_0 wm_Lw_89 rfl (Nat.le_of_ble_eq_true rfl) (Nat.le_of_ble_eq_true rfl) rfl (Nat.le_of_ble_eq_true rfl) dL_law_729 (fun r129 s130 => ?_)
        refine zv_aload_n hX dL_law_732 2 rfl ?_
        refine zv_aload_n hX dL_law_733 0 rfl ?_
        refine zv_iload_n hX dL_law_734 3 rfl ?_
        refine zv_iconst (v := (1 : Int32)) hX dL_law_735 zi_i_1 ?_
        refine zv_iadd hX dL_law_736 ?_
        refine zv_xld hX hT dL_law_737 (fun x131 => ?_)
        refine zv_aload_n hX dL_law_738 0 rfl ?_
        refine zv_iload_n hX dL_law_739 3 rfl ?_
        refine zv_iconst (v := (nI 2)) hX dL_law_740 zi_i_2 ?_
        refine zv_iadd hX dL_law_741 ?_
        refine zv_xld hX hT dL_law_742 (fun x132 => ?_)
        refine zv_lVI [.int x131, .int x132] (rest := [.int r129]) hX hT (c_X8_partner (zx_Y X) x131 x132 s130) wv_X8_partner c9_8 zd_76 wm_Lw_92 rfl (Nat.le_of_ble_eq_true rfl) (Nat.le_of_ble_eq_true rfl) rfl (Nat.le_of_ble_eq_true rfl) dL_law_743 (fun r133 s134 => ?_)
        refine zv_icmp_eq (tgt := 1437) hX dL_law_746 rfl ?_ ?_
        · exact b_L_law_1437 hX hT ih v3 s134
        · refine zv_iconst (v := (0 : Int32)) hX dL_law_749 zi_i_0 ?_
          exact zv_none
      refine zv_ite (fun h33_19 => ?_) (fun h33_19 => ?_)
      · refine zv_tabI (tgt := 751) hX dL_law_33 (nI 19) h33_19 (by decide) (by decide) rfl rfl ?_
        refine zv_aload_n hX dL_law_751 1 rfl ?_
        refine zv_aload_n hX dL_law_752 0 rfl ?_
        refine zv_iload_n hX dL_law_753 3 rfl ?_
        refine zv_iconst (v := (1 : Int32)) hX dL_law_754 zi_i_1 ?_
        refine zv_iadd hX dL_law_755 ?_
        refine zv_xld hX hT dL_law_756 (fun x135 => ?_)
        refine zv_lVI [.int x135] (rest := []) hX hT (c_X7_can (zx_Y X) x135 s) wv_X7_can c9_7 zd_0 wm_Lw_93 rfl (Nat.le_of_ble_eq_true rfl) (Nat.le_of_ble_eq_true rfl) rfl (Nat.le_of_ble_eq_true rfl) dL_law_757 (fun r136 s137 => ?_)
        refine zv_aload_n hX dL_law_760 2 rfl ?_
        refine zv_aload_n hX dL_law_761 0 rfl ?_
        refine zv_iload_n hX dL_law_762 3 rfl ?_
        refine zv_iconst (v := (1 : Int32)) hX dL_law_763 zi_i_1 ?_
        refine zv_iadd hX dL_law_764 ?_
        refine zv_xld hX hT dL_law_765 (fun x138 => ?_)
        refine zv_lVI [.int x138] (rest := [.int r136]) hX hT (c_X8_can (zx_Y X) x138 s137) wv_X8_can c9_8 zd_76 wm_Lw_96 rfl (Nat.le_of_ble_eq_true rfl) (Nat.le_of_ble_eq_true rfl) rfl (Nat.le_of_ble_eq_true rfl) dL_law_766 (fun r139 s140 => ?_)
        refine zv_icmp_eq (tgt := 1437) hX dL_law_769 rfl ?_ ?_
        · exact b_L_law_1437 hX hT ih v3 s140
        · refine zv_iconst (v := (0 : Int32)) hX dL_law_772 zi_i_0 ?_
          exact zv_none
      refine zv_ite (fun h33_20 => ?_) (fun h33_20 => ?_)
      · refine zv_tabI (tgt := 774) hX dL_law_33 (nI 20) h33_20 (by decide) (by decide) rfl rfl ?_
        refine zv_aload_n hX dL_law_774 1 rfl ?_
        refine zv_lVI [] (rest := []) hX hT (c_X7_sure (zx_Y X) s) wv_X7_sure c9_7 zd_0 wm_Lw_97 rfl (Nat.le_of_ble_eq_true rfl) (Nat.le_of_ble_eq_true rfl) rfl (Nat.le_of_ble_eq_true rfl) dL_law_775 (fun r141 s142 => ?_)
        refine zv_aload_n hX dL_law_778 2 rfl ?_
        refine zv_lVI [] (rest := [.int r141]) hX hT (c_X8_sure (zx_Y X) s142) wv_X8_sure c9_8 zd_76 wm_Lw_100 rfl (Nat.le_of_ble_eq_true rfl) (Nat.le_of_ble_eq_true rfl) rfl (Nat.le_of_ble_eq_true rfl) dL_law_779 (fun r143 s144 => ?_)
        refine zv_icmp_eq (tgt := 1437) hX dL_law_782 rfl ?_ ?_
        · exact b_L_law_1437 hX hT ih v3 s144
        · refine zv_iconst (v := (0 : Int32)) hX dL_law_785 zi_i_0 ?_
          exact zv_none
      refine zv_ite (fun h33_21 => ?_) (fun h33_21 => ?_)
      · refine zv_tabI (tgt := 787) hX dL_law_33 (nI 21) h33_21 (by decide) (by decide) rfl rfl ?_
        refine zv_aload_n hX dL_law_787 1 rfl ?_
        refine zv_lVI [] (rest := []) hX hT (c_X7_most (zx_Y X) s) wv_X7_most c9_7 zd_0 wm_Lw_101 rfl (Nat.le_of_ble_eq_true rfl) (Nat.le_of_ble_eq_true rfl) rfl (Nat.le_of_ble_eq_true rfl) dL_law_788 (fun r145 s146 => ?_)
        refine zv_aload_n hX dL_law_791 2 rfl ?_
        refine zv_lVI [] (rest := [.int r145]) hX hT (c_X8_most (zx_Y X) s146) wv_X8_most c9_8 zd_76 wm_Lw_104 rfl (Nat.le_of_ble_eq_true rfl) (Nat.le_of_ble_eq_true rfl) rfl (Nat.le_of_ble_eq_true rfl) dL_law_792 (fun r147 s148 => ?_)
        refine zv_icmp_eq (tgt := 1437) hX dL_law_795 rfl ?_ ?_
        · exact b_L_law_1437 hX hT ih v3 s148
        · refine zv_iconst (v := (0 : Int32)) hX dL_law_798 zi_i_0 ?_
          exact zv_none
      refine zv_ite (fun h33_22 => ?_) (fun h33_22 => ?_)
      · refine zv_tabI (tgt := 800) hX dL_law_33 (nI 22) h33_22 (by decide) (by decide) rfl rfl ?_
        refine zv_aload_n hX dL_law_800 1 rfl ?_
        refine zv_lVI [] (rest := []) hX hT (c_X7_triangle (zx_Y X) s) wv_X7_triangle c9_7 zd_0 wm_Lw_105 rfl (Nat.le_of_ble_eq_true rfl) (Nat.le_of_ble_eq_true rfl) rfl (Nat.le_of_ble_eq_true rfl) dL_law_801 (fun r149 s150 => ?_)
        refine zv_aload_n hX dL_law_804 2 rfl ?_
        refine zv_lVI [] (rest := [.int r149]) hX hT (c_X8_triangle (zx_Y X) s150) wv_X8_triangle c9_8 zd_76 wm_Lw_108 rfl (Nat.le_of_ble_eq_true rfl) (Nat.le_of_ble_eq_true rfl) rfl (Nat.le_of_ble_eq_true rfl) dL_law_805 (fun r151 s152 => ?_)
        refine zv_icmp_eq (tgt := 1437) hX dL_law_808 rfl ?_ ?_
        · exact b_L_law_1437 hX hT ih v3 s152
        · refine zv_iconst (v := (0 : Int32)) hX dL_law_811 zi_i_0 ?_
          exact zv_none
      refine zv_ite (fun h33_23 => ?_) (fun h33_23 => ?_)
      · refine zv_tabI (tgt := 813) hX dL_law_33 (nI 23) h33_23 (by decide) (by decide) rfl rfl ?_
        refine zv_aload_n hX dL_law_813 1 rfl ?_
        refine zv_aload_n hX dL_law_814 0 rfl ?_
        refine zv_iload_n hX dL_law_815 3 rfl ?_
        refine zv_iconst (v := (1 : Int32)) hX dL_law_816 zi_i_1 ?_
        refine zv_iadd hX dL_law_817 ?_
        refine zv_xld hX hT dL_law_818 (fun x153 => ?_)
        refine zv_aload_n hX dL_law_819 0 rfl ?_
        refine zv_iload_n hX dL_law_820 3 rfl ?_
        refine zv_iconst (v := (nI 2)) hX dL_law_821 zi_i_2 ?_
        refine zv_iadd hX dL_law_822 ?_
        refine zv_xld hX hT dL_law_823 (fun x154 => ?_)
        refine zv_lVI [.int x153, .int x154] (rest := []) hX hT (c_X7_monogram (zx_Y X) x153 x154 s) wv_X7_monogram c9_7 zd_0 wm_Lw_109 rfl (Nat.le_of_ble_eq_true rfl) (Nat.le_of_ble_eq_true rfl) rfl (Nat.le_of_ble_eq_true rfl) dL_law_824 (fun r155 s156 => ?_)
        refine zv_aload_n hX dL_law_827 2 rfl ?_
        refine zv_aload_n hX dL_law_828 0 rfl ?_
        refine zv_iload_n hX dL_law_829 3 rfl ?_
        refine zv_iconst (v := (1 : Int32)) hX dL_law_830 zi_i_1 ?_
        refine zv_iadd hX dL_law_831 ?_
        refine zv_xld hX hT dL_law_832 (fun x157 => ?_)
        refine zv_aload_n hX dL_law_833 0 rfl ?_
        refine zv_iload_n hX dL_law_834 3 rfl ?_
        refine zv_iconst (v := (nI 2)) hX dL_law_835 zi_i_2 ?_
        refine zv_iadd hX dL_law_836 ?_
        refine zv_xld hX hT dL_law_837 (fun x158 => ?_)
        refine zv_lVI [.int x157, .int x158] (rest := [.int r155]) hX hT (c_X8_monogram (zx_Y X) x157 x158 s156) wv_X8_monogram c9_8 zd_76 wm_Lw_112 rfl (Nat.le_of_ble_eq_true rfl) (Nat.le_of_ble_eq_true rfl) rfl (Nat.le_of_ble_eq_true rfl) dL_law_838 (fun r159 s160 => ?_)
        refine zv_icmp_eq (tgt := 1437) hX dL_law_841 rfl ?_ ?_
        · exact b_L_law_1437 hX hT ih v3 s160
        · refine zv_iconst (v := (0 : Int32)) hX dL_law_844 zi_i_0 ?_
          exact zv_none
      refine zv_ite (fun h33_24 => ?_) (fun h33_24 => ?_)
      · refine zv_tabI (tgt := 846) hX dL_law_33 (nI 24) h33_24 (by decide) (by decide) rfl rfl ?_
        refine zv_aload_n hX dL_law_846 1 rfl ?_
        refine zv_aload_n hX dL_law_847 0 rfl ?_
        refine zv_iload_n hX dL_law_848 3 rfl ?_
        refine zv_iconst (v := (1 : Int32)) hX dL_law_849 zi_i_1 ?_
        refine zv_iadd hX dL_law_850 ?_
        refine zv_xld hX hT dL_law_851 (fun x161 => ?_)
        refine zv_lVI [.int x161] (rest := []) hX hT (c_X7_fits (zx_Y X) x161 s) wv_X7_fits c9_7 zd_0 wm_Lw_113 rfl (Nat.le_of_ble_eq_true rfl) (Nat.le_of_ble_eq_true rfl) rfl (Nat.le_of_ble_eq_true rfl) dL_law_852 (fun r162 s163 => ?_)
        refine zv_aload_n hX dL_law_855 2 rfl ?_
        refine zv_aload_n hX dL_law_856 0 rfl ?_
        refine zv_iload_n hX dL_law_857 3 rfl ?_
        refine zv_iconst (v := (1 : Int32)) hX dL_law_858 zi_i_1 ?_
        refine zv_iadd hX dL_law_859 ?_
        refine zv_xld hX hT dL_law_860 (fun x164 => ?_)
        refine zv_lVI [.int x164] (rest := [.int r162]) hX hT (c_X8_fits (zx_Y X) x164 s163) wv_X8_fits c9_8 zd_76 wm_Lw_116 rfl (Nat.le_of_ble_eq_true rfl) (Nat.le_of_ble_eq_true rfl) rfl (Nat.le_of_ble_eq_true rfl) dL_law_861 (fun r165 s166 => ?_)
        refine zv_icmp_eq (tgt := 1437) hX dL_law_864 rfl ?_ ?_
        · exact b_L_law_1437 hX hT ih v3 s166
        · refine zv_iconst (v := (0 : Int32)) hX dL_law_867 zi_i_0 ?_
          exact zv_none
      refine zv_ite (fun h33_25 => ?_) (fun h33_25 => ?_)
      · refine zv_tabI (tgt := 869) hX dL_law_33 (nI 25) h33_25 (by decide) (by decide) rfl rfl ?_
        refine zv_aload_n hX dL_law_869 1 rfl ?_
        refine zv_lVI [] (rest := []) hX hT (c_X7_largest (zx_Y X) s) wv_X7_largest c9_7 zd_0 wm_Lw_117 rfl (Nat.le_of_ble_eq_true rfl) (Nat.le_of_ble_eq_true rfl) rfl (Nat.le_of_ble_eq_true rfl) dL_law_870 (fun r167 s168 => ?_)
        refine zv_aload_n hX dL_law_873 2 rfl ?_
        refine zv_lVI [] (rest := [.int r167]) hX hT (c_X8_largest (zx_Y X) s168) wv_X8_largest c9_8 zd_76 wm_Lw_120 rfl (Nat.le_of_ble_eq_true rfl) (Nat.le_of_ble_eq_true rfl) rfl (Nat.le_of_ble_eq_true rfl) dL_law_874 (fun r169 s170 => ?_)
        refine zv_icmp_eq (tgt := 1437) hX dL_law_877 rfl ?_ ?_
        · exact b_L_law_1437 hX hT ih v3 s170
        · refine zv_iconst (v := (0 : Int32)) hX dL_law_880 zi_i_0 ?_
          exact zv_none
      refine zv_ite (fun h33_26 => ?_) (fun h33_26 => ?_)
      · refine zv_tabI (tgt := 882) hX dL_law_33 (nI 26) h33_26 (by decide) (by decide) rfl rfl ?_
        refine zv_aload_n hX dL_law_882 1 rfl ?_
        refine zv_lVI [] (rest := []) hX hT (c_X7_misfits (zx_Y X) s) wv_X7_misfits c9_7 zd_0 wm_Lw_121 rfl (Nat.le_of_ble_eq_true rfl) (Nat.le_of_ble_eq_true rfl) rfl (Nat.le_of_ble_eq_true rfl) dL_law_883 (fun r171 s172 => ?_)
        refine zv_aload_n hX dL_law_886 2 rfl ?_
        refine zv_lVI [] (rest := [.int r171]) hX hT (c_X8_misfits (zx_Y X) s172) wv_X8_misfits c9_8 zd_76 wm_Lw_124 rfl (Nat.le_of_ble_eq_true rfl) (Nat.le_of_ble_eq_true rfl) rfl (Nat.le_of_ble_eq_true rfl) dL_law_887 (fun r173 s174 => ?_)
        refine zv_icmp_eq (tgt := 1437) hX dL_law_890 rfl ?_ ?_
        · exact b_L_law_1437 hX hT ih v3 s174
        · refine zv_iconst (v := (0 : Int32)) hX dL_law_893 zi_i_0 ?_
          exact zv_none
      refine zv_ite (fun h33_27 => ?_) (fun h33_27 => ?_)
      · refine zv_tabI (tgt := 895) hX dL_law_33 (nI 27) h33_27 (by decide) (by decide) rfl rfl ?_
        refine zv_aload_n hX dL_law_895 1 rfl ?_
        refine zv_aload_n hX dL_law_896 0 rfl ?_
        refine zv_iload_n hX dL_law_897 3 rfl ?_
        refine zv_iconst (v := (1 : Int32)) hX dL_law_898 zi_i_1 ?_
        refine zv_iadd hX dL_law_899 ?_
        refine zv_xld hX hT dL_law_900 (fun x175 => ?_)
        refine zv_aload_n hX dL_law_901 0 rfl ?_
        refine zv_iload_n hX dL_law_902 3 rfl ?_
        refine zv_iconst (v := (nI 2)) hX dL_law_903 zi_i_2 ?_
        refine zv_iadd hX dL_law_904 ?_
        refine zv_xld hX hT dL_law_905 (fun x176 => ?_)
        refine zv_aload_n hX dL_law_906 0 rfl ?_
        refine zv_iload_n hX dL_law_907 3 rfl ?_
        refine zv_iconst (v := (nI 3)) hX dL_law_908 zi_i_3 ?_
        refine zv_iadd hX dL_law_909 ?_
        refine zv_xld hX hT dL_law_910 (fun x177 => ?_)
        refine zv_lVI [.int x175, .int x176, .int x177] (rest := []) hX hT (c_X7_change (zx_Y X) x175 x176 x177 s) wv_X7_change c9_7 zd_0 wm_Lw_125 rfl (Nat.le_of_ble_eq_true rfl) (Nat.le_of_ble_eq_true rfl) rfl (Nat.le_of_ble_eq_true rfl) dL_law_911 (fun r178 s179 => ?_)
        refine zv_aload_n hX dL_law_914 2 rfl ?_
        refine zv_aload_n hX dL_law_915 0 rfl ?_
        refine zv_iload_n hX dL_law_916 3 rfl ?_
        refine zv_iconst (v := (1 : Int32)) hX dL_law_917 zi_i_1 ?_
        refine zv_iadd hX dL_law_918 ?_
        refine zv_xld hX hT dL_law_919 (fun x180 => ?_)
        refine zv_aload_n hX dL_law_920 0 rfl ?_
        refine zv_iload_n hX dL_law_921 3 rfl ?_
        refine zv_iconst (v := (nI 2)) hX dL_law_922 zi_i_2 ?_
        refine zv_iadd hX dL_law_923 ?_
        refine zv_xld hX hT dL_law_924 (fun x181 => ?_)
        refine zv_aload_n hX dL_law_925 0 rfl ?_
        refine zv_iload_n hX dL_law_926 3 rfl ?_
        refine zv_iconst (v := (nI 3)) hX dL_law_927 zi_i_3 ?_
        refine zv_iadd hX dL_law_928 ?_
        refine zv_xld hX hT dL_law_929 (fun x182 => ?_)
        refine zv_lVI [.int x180, .int x181, .int x182] (rest := [.int r178]) hX hT (c_X8_change (zx_Y X) x180 x181 x182 s179) wv_X8_change c9_8 zd_76 wm_Lw_129 rfl (Nat.le_of_ble_eq_true rfl) (Nat.le_of_ble_eq_true rfl) rfl (Nat.le_of_ble_eq_true rfl) dL_law_930 (fun r183 s184 => ?_)
        refine zv_icmp_eq (tgt := 1437) hX dL_law_933 rfl ?_ ?_
        · exact b_L_law_1437 hX hT ih v3 s184
        · refine zv_iconst (v := (0 : Int32)) hX dL_law_936 zi_i_0 ?_
          exact zv_none
      refine zv_ite (fun h33_28 => ?_) (fun h33_28 => ?_)
      · refine zv_tabI (tgt := 938) hX dL_law_33 (nI 28) h33_28 (by decide) (by decide) rfl rfl ?_
        refine zv_aload_n hX dL_law_938 1 rfl ?_
        refine zv_aload_n hX dL_law_939 0 rfl ?_
        refine zv_iload_n hX dL_law_940 3 rfl ?_
        refine zv_iconst (v := (1 : Int32)) hX dL_law_941 zi_i_1 ?_
        refine zv_iadd hX dL_law_942 ?_
        refine zv_xld hX hT dL_law_943 (fun x185 => ?_)
        refine zv_lVI [.int x185] (rest := []) hX hT (c_X7_blot (zx_Y X) x185 s) wv_X7_blot c9_7 zd_0 wm_Lw_130 rfl (Nat.le_of_ble_eq_true rfl) (Nat.le_of_ble_eq_true rfl) rfl (Nat.le_of_ble_eq_true rfl) dL_law_944 (fun r186 s187 => ?_)
        refine zv_aload_n hX dL_law_947 2 rfl ?_
        refine zv_aload_n hX dL_law_948 0 rfl ?_
        refine zv_iload_n hX dL_law_949 3 rfl ?_
        refine zv_iconst (v := (1 : Int32)) hX dL_law_950 zi_i_1 ?_
        refine zv_iadd hX dL_law_951 ?_
        refine zv_xld hX hT dL_law_952 (fun x188 => ?_)
        refine zv_lVI [.int x188] (rest := [.int r186]) hX hT (c_X8_blot (zx_Y X) x188 s187) wv_X8_blot c9_8 zd_76 wm_Lw_133 rfl (Nat.le_of_ble_eq_true rfl) (Nat.le_of_ble_eq_true rfl) rfl (Nat.le_of_ble_eq_true rfl) dL_law_953 (fun r189 s190 => ?_)
        refine zv_icmp_eq (tgt := 1437) hX dL_law_956 rfl ?_ ?_
        · exact b_L_law_1437 hX hT ih v3 s190
        · refine zv_iconst (v := (0 : Int32)) hX dL_law_959 zi_i_0 ?_
          exact zv_none
      refine zv_ite (fun h33_29 => ?_) (fun h33_29 => ?_)
      · refine zv_tabI (tgt := 961) hX dL_law_33 (nI 29) h33_29 (by decide) (by decide) rfl rfl ?_
        refine zv_aload_n hX dL_law_961 1 rfl ?_
        refine zv_aload_n hX dL_law_962 0 rfl ?_
        refine zv_iload_n hX dL_law_963 3 rfl ?_
        refine zv_iconst (v := (1 : Int32)) hX dL_law_964 zi_i_1 ?_
        refine zv_iadd hX dL_law_965 ?_
        refine zv_xld hX hT dL_law_966 (fun x191 => ?_)
        refine zv_aload_n hX dL_law_967 0 rfl ?_
        refine zv_iload_n hX dL_law_968 3 rfl ?_
        refine zv_iconst (v := (nI 2)) hX dL_law_969 zi_i_2 ?_
        refine zv_iadd hX dL_law_970 ?_
        refine zv_xld hX hT dL_law_971 (fun x192 => ?_)
        refine zv_aload_n hX dL_law_972 0 rfl ?_
        refine zv_iload_n hX dL_law_973 3 rfl ?_
        refine zv_iconst (v := (nI 3)) hX dL_law_974 zi_i_3 ?_
        refine zv_iadd hX dL_law_975 ?_
        refine zv_xld hX hT dL_law_976 (fun x193 => ?_)
        refine zv_lVI [.int x191, .int x192, .int x193] (rest := []) hX hT (c_X7_likely (zx_Y X) x191 x192 x193 s) wv_X7_likely c9_7 zd_0 wm_Lw_134 rfl (Nat.le_of_ble_eq_true rfl) (Nat.le_of_ble_eq_true rfl) rfl (Nat.le_of_ble_eq_true rfl) dL_law_977 (fun r194 s195 => ?_)
        refine zv_aload_n hX dL_law_980 2 rfl ?_
        refine zv_aload_n hX dL_law_981 0 rfl ?_
        refine zv_iload_n hX dL_law_982 3 rfl ?_
        refine zv_iconst (v := (1 : Int32)) hX dL_law_983 zi_i_1 ?_
        refine zv_iadd hX dL_law_984 ?_
        refine zv_xld hX hT dL_law_985 (fun x196 => ?_)
        refine zv_aload_n hX dL_law_986 0 rfl ?_
        refine zv_iload_n hX dL_law_987 3 rfl ?_
        refine zv_iconst (v := (nI 2)) hX dL_law_988 zi_i_2 ?_
        refine zv_iadd hX dL_law_989 ?_
        refine zv_xld hX hT dL_law_990 (fun x197 => ?_)
        refine zv_aload_n hX dL_law_991 0 rfl ?_
        refine zv_iload_n hX dL_law_992 3 rfl ?_
        refine zv_iconst (v := (nI 3)) hX dL_law_993 zi_i_3 ?_
        refine zv_iadd hX dL_law_994 ?_
        refine zv_xld hX hT dL_law_995 (fun x198 => ?_)
        refine zv_lVI [.int x196, .int x197, .int x198] (rest := [.int r194]) hX hT (c_X8_likely (zx_Y X) x196 x197 x198 s195) wv_X8_likely c9_8 zd_76 wm_Lw_137 rfl (Nat.le_of_ble_eq_true rfl) (Nat.le_of_ble_eq_true rfl) rfl (Nat.le_of_ble_eq_true rfl) dL_law_996 (fun r199 s200 => ?_)
        refine zv_icmp_eq (tgt := 1437) hX dL_law_999 rfl ?_ ?_
        · exact b_L_law_1437 hX hT ih v3 s200
        · refine zv_iconst (v := (0 : Int32)) hX dL_law_1002 zi_i_0 ?_
          exact zv_none
      refine zv_ite (fun h33_30 => ?_) (fun h33_30 => ?_)
      · refine zv_tabI (tgt := 1004) hX dL_law_33 (nI 30) h33_30 (by decide) (by decide) rfl rfl ?_
        refine zv_aload_n hX dL_law_1004 1 rfl ?_
        refine zv_aload_n hX dL_law_1005 0 rfl ?_
        refine zv_iload_n hX dL_law_1006 3 rfl ?_
        refine zv_iconst (v := (1 : Int32)) hX dL_law_1007 zi_i_1 ?_
        refine zv_iadd hX dL_law_1008 ?_
        refine zv_xld hX hT dL_law_1009 (fun x201 => ?_)
        refine zv_lVI [.int x201] (rest := []) hX hT (c_X7_look (zx_Y X) x201 s) wv_X7_look c9_7 zd_0 wm_Lw_138 rfl (Nat.le_of_ble_eq_true rfl) (Nat.le_of_ble_eq_true rfl) rfl (Nat.le_of_ble_eq_true rfl) dL_law_1010 (fun r202 s203 => ?_)
        refine zv_aload_n hX dL_law_1013 2 rfl ?_
        refine zv_aload_n hX dL_law_1014 0 rfl ?_
        refine zv_iload_n hX dL_law_1015 3 rfl ?_
        refine zv_iconst (v := (1 : Int32)) hX dL_law_1016 zi_i_1 ?_
        refine zv_iadd hX dL_law_1017 ?_
        refine zv_xld hX hT dL_law_1018 (fun x204 => ?_)
        refine zv_lVI [.int x204] (rest := [.int r202]) hX hT (c_X8_look (zx_Y X) x204 s203) wv_X8_look c9_8 zd_76 wm_Lw_141 rfl (Nat.le_of_ble_eq_true rfl) (Nat.le_of_ble_eq_true rfl) rfl (Nat.le_of_ble_eq_true rfl) dL_law_1019 (fun r205 s206 => ?_)
        refine zv_icmp_eq (tgt := 1437) hX dL_law_1022 rfl ?_ ?_
        · exact b_L_law_1437 hX hT ih v3 s206
        · refine zv_iconst (v := (0 : Int32)) hX dL_law_1025 zi_i_0 ?_
          exact zv_none
      refine zv_ite (fun h33_31 => ?_) (fun h33_31 => ?_)
      · refine zv_tabI (tgt := 1027) hX dL_law_33 (nI 31) h33_31 (by decide) (by decide) rfl rfl ?_
        refine zv_aload_n hX dL_law_1027 1 rfl ?_
        refine zv_aload_n hX dL_law_1028 0 rfl ?_
        refine zv_iload_n hX dL_law_1029 3 rfl ?_
        refine zv_iconst (v := (1 : Int32)) hX dL_law_1030 zi_i_1 ?_
        refine zv_iadd hX dL_law_1031 ?_
        refine zv_xld hX hT dL_law_1032 (fun x207 => ?_)
        refine zv_aload_n hX dL_law_1033 0 rfl ?_
        refine zv_iload_n hX dL_law_1034 3 rfl ?_
        refine zv_iconst (v := (nI 2)) hX dL_law_1035 zi_i_2 ?_
        refine zv_iadd hX dL_law_1036 ?_
        refine zv_xld hX hT dL_law_1037 (fun x208 => ?_)
        refine zv_lVI [.int x207, .int x208] (rest := []) hX hT (c_X7_marks (zx_Y X) x207 x208 s) wv_X7_marks c9_7 zd_0 wm_Lw_142 rfl (Nat.le_of_ble_eq_true rfl) (Nat.le_of_ble_eq_true rfl) rfl (Nat.le_of_ble_eq_true rfl) dL_law_1038 (fun r209 s210 => ?_)
        refine zv_aload_n hX dL_law_1041 2 rfl ?_
        refine zv_aload_n hX dL_law_1042 0 rfl ?_
        refine zv_iload_n hX dL_law_1043 3 rfl ?_
        refine zv_iconst (v := (1 : Int32)) hX dL_law_1044 zi_i_1 ?_
        refine zv_iadd hX dL_law_1045 ?_
        refine zv_xld hX hT dL_law_1046 (fun x211 => ?_)
        refine zv_aload_n hX dL_law_1047 0 rfl ?_
        refine zv_iload_n hX dL_law_1048 3 rfl ?_
        refine zv_iconst (v := (nI 2)) hX dL_law_1049 zi_i_2 ?_
        refine zv_iadd hX dL_law_1050 ?_
        refine zv_xld hX hT dL_law_1051 (fun x212 => ?_)
        refine zv_lVI [.int x211, .int x212] (rest := [.int r209]) hX hT (c_X8_marks (zx_Y X) x211 x212 s210) wv_X8_marks c9_8 zd_76 wm_Lw_145 rfl (Nat.le_of_ble_eq_true rfl) (Nat.le_of_ble_eq_true rfl) rfl (Nat.le_of_ble_eq_true rfl) dL_law_1052 (fun r213 s214 => ?_)
        refine zv_icmp_eq (tgt := 1437) hX dL_law_1055 rfl ?_ ?_
        · exact b_L_law_1437 hX hT ih v3 s214
        · refine zv_iconst (v := (0 : Int32)) hX dL_law_1058 zi_i_0 ?_
          exact zv_none
      refine zv_ite (fun h33_32 => ?_) (fun h33_32 => ?_)
      · refine zv_tabI (tgt := 1060) hX dL_law_33 (nI 32) h33_32 (by decide) (by decide) rfl rfl ?_
        refine zv_aload_n hX dL_law_1060 1 rfl ?_
        refine zv_aload_n hX dL_law_1061 0 rfl ?_
        refine zv_iload_n hX dL_law_1062 3 rfl ?_
        refine zv_iconst (v := (1 : Int32)) hX dL_law_1063 zi_i_1 ?_
        refine zv_iadd hX dL_law_1064 ?_
        refine zv_xld hX hT dL_law_1065 (fun x215 => ?_)
        refine zv_aload_n hX dL_law_1066 0 rfl ?_
        refine zv_iload_n hX dL_law_1067 3 rfl ?_
        refine zv_iconst (v := (nI 2)) hX dL_law_1068 zi_i_2 ?_
        refine zv_iadd hX dL_law_1069 ?_
        refine zv_xld hX hT dL_law_1070 (fun x216 => ?_)
        refine zv_lVI [.int x215, .int x216] (rest := []) hX hT (c_X7_ask (zx_Y X) x215 x216 s) wv_X7_ask c9_7 zd_0 wm_Lw_146 rfl (Nat.le_of_ble_eq_true rfl) (Nat.le_of_ble_eq_true rfl) rfl (Nat.le_of_ble_eq_true rfl) dL_law_1071 (fun r217 s218 => ?_)
        refine zv_aload_n hX dL_law_1074 2 rfl ?_
        refine zv_aload_n hX dL_law_1075 0 rfl ?_
        refine zv_iload_n hX dL_law_1076 3 rfl ?_
        refine zv_iconst (v := (1 : Int32)) hX dL_law_1077 zi_i_1 ?_
        refine zv_iadd hX dL_law_1078 ?_
        refine zv_xld hX hT dL_law_1079 (fun x219 => ?_)
        refine zv_aload_n hX dL_law_1080 0 rfl ?_
        refine zv_iload_n hX dL_law_1081 3 rfl ?_
        refine zv_iconst (v := (nI 2)) hX dL_law_1082 zi_i_2 ?_
        refine zv_iadd hX dL_law_1083 ?_
        refine zv_xld hX hT dL_law_1084 (fun x220 => ?_)
        refine zv_lVI [.int x219, .int x220] (rest := [.int r217]) hX hT (c_X8_ask (zx_Y X) x219 x220 s218) wv_X8_ask c9_8 zd_76 wm_Lw_149 rfl (Nat.le_of_ble_eq_true rfl) (Nat.le_of_ble_eq_true rfl) rfl (Nat.le_of_ble_eq_true rfl) dL_law_1085 (fun r221 s222 => ?_)
        refine zv_icmp_eq (tgt := 1437) hX dL_law_1088 rfl ?_ ?_
        · exact b_L_law_1437 hX hT ih v3 s222
        · refine zv_iconst (v := (0 : Int32)) hX dL_law_1091 zi_i_0 ?_
          exact zv_none
      refine zv_ite (fun h33_33 => ?_) (fun h33_33 => ?_)
      · refine zv_tabI (tgt := 1093) hX dL_law_33 (nI 33) h33_33 (by decide) (by decide) rfl rfl ?_
        refine zv_aload_n hX dL_law_1093 1 rfl ?_
        refine zv_aload_n hX dL_law_1094 0 rfl ?_
        refine zv_iload_n hX dL_law_1095 3 rfl ?_
        refine zv_iconst (v := (1 : Int32)) hX dL_law_1096 zi_i_1 ?_
        refine zv_iadd hX dL_law_1097 ?_
        refine zv_xld hX hT dL_law_1098 (fun x223 => ?_)
        refine zv_lVI [.int x223] (rest := []) hX hT (c_X7_wins (zx_Y X) x223 s) wv_X7_wins c9_7 zd_0 wm_Lw_150 rfl (Nat.le_of_ble_eq_true rfl) (Nat.le_of_ble_eq_true rfl) rfl (Nat.le_of_ble_eq_true rfl) dL_law_1099 (fun r224 s225 => ?_)
        refine zv_aload_n hX dL_law_1102 2 rfl ?_
        refine zv_aload_n hX dL_law_1103 0 rfl ?_
        refine zv_iload_n hX dL_law_1104 3 rfl ?_
        refine zv_iconst (v := (1 : Int32)) hX dL_law_1105 zi_i_1 ?_
        refine zv_iadd hX dL_law_1106 ?_
        refine zv_xld hX hT dL_law_1107 (fun x226 => ?_)
        refine zv_lVI [.int x226] (rest := [.int r224]) hX hT (c_X8_wins (zx_Y X) x226 s225) wv_X8_wins c9_8 zd_76 wm_Lw_153 rfl (Nat.le_of_ble_eq_true rfl) (Nat.le_of_ble_eq_true rfl) rfl (Nat.le_of_ble_eq_true rfl) dL_law_1108 (fun r227 s228 => ?_)
        refine zv_icmp_eq (tgt := 1437) hX dL_law_1111 rfl ?_ ?_
        · exact b_L_law_1437 hX hT ih v3 s228
        · refine zv_iconst (v := (0 : Int32)) hX dL_law_1114 zi_i_0 ?_
          exact zv_none
      refine zv_ite (fun h33_34 => ?_) (fun h33_34 => ?_)
      · refine zv_tabI (tgt := 1116) hX dL_law_33 (nI 34) h33_34 (by decide) (by decide) rfl rfl ?_
        refine zv_aload_n hX dL_law_1116 1 rfl ?_
        refine zv_aload_n hX dL_law_1117 0 rfl ?_
        refine zv_iload_n hX dL_law_1118 3 rfl ?_
        refine zv_iconst (v := (1 : Int32)) hX dL_law_1119 zi_i_1 ?_
        refine zv_iadd hX dL_law_1120 ?_
        refine zv_xld hX hT dL_law_1121 (fun x229 => ?_)
        refine zv_lVI [.int x229] (rest := []) hX hT (c_X7_best (zx_Y X) x229 s) wv_X7_best c9_7 zd_0 wm_Lw_154 rfl (Nat.le_of_ble_eq_true rfl) (Nat.le_of_ble_eq_true rfl) rfl (Nat.le_of_ble_eq_true rfl) dL_law_1122 (fun r230 s231 => ?_)
        refine zv_aload_n hX dL_law_1125 2 rfl ?_
        refine zv_aload_n hX dL_law_1126 0 rfl ?_
        refine zv_iload_n hX dL_law_1127 3 rfl ?_
        refine zv_iconst (v := (1 : Int32)) hX dL_law_1128 zi_i_1 ?_
        refine zv_iadd hX dL_law_1129 ?_
        refine zv_xld hX hT dL_law_1130 (fun x232 => ?_)
        refine zv_lVI [.int x232] (rest := [.int r230]) hX hT (c_X8_best (zx_Y X) x232 s231) wv_X8_best c9_8 zd_76 wm_Lw_157 rfl (Nat.le_of_ble_eq_true rfl) (Nat.le_of_ble_eq_true rfl) rfl (Nat.le_of_ble_eq_true rfl) dL_law_1131 (fun r233 s234 => ?_)
        refine zv_icmp_eq (tgt := 1437) hX dL_law_1134 rfl ?_ ?_
        · exact b_L_law_1437 hX hT ih v3 s234
        · refine zv_iconst (v := (0 : Int32)) hX dL_law_1137 zi_i_0 ?_
          exact zv_none
      refine zv_ite (fun h33_35 => ?_) (fun h33_35 => ?_)
      · refine zv_tabI (tgt := 1139) hX dL_law_33 (nI 35) h33_35 (by decide) (by decide) rfl rfl ?_
        refine zv_aload_n hX dL_law_1139 1 rfl ?_
        refine zv_aload_n hX dL_law_1140 0 rfl ?_
        refine zv_iload_n hX dL_law_1141 3 rfl ?_
        refine zv_iconst (v := (1 : Int32)) hX dL_law_1142 zi_i_1 ?_
        refine zv_iadd hX dL_law_1143 ?_
        refine zv_xld hX hT dL_law_1144 (fun x235 => ?_)
        refine zv_lVI [.int x235] (rest := []) hX hT (c_X7_lasts (zx_Y X) x235 s) wv_X7_lasts c9_7 zd_0 wm_Lw_158 rfl (Nat.le_of_ble_eq_true rfl) (Nat.le_of_ble_eq_true rfl) rfl (Nat.le_of_ble_eq_true rfl) dL_law_1145 (fun r236 s237 => ?_)
        refine zv_aload_n hX dL_law_1148 2 rfl ?_
        refine zv_aload_n hX dL_law_1149 0 rfl ?_
        refine zv_iload_n hX dL_law_1150 3 rfl ?_
        refine zv_iconst (v := (1 : Int32)) hX dL_law_1151 zi_i_1 ?_
        refine zv_iadd hX dL_law_1152 ?_
        refine zv_xld hX hT dL_law_1153 (fun x238 => ?_)
        refine zv_lVI [.int x238] (rest := [.int r236]) hX hT (c_X8_lasts (zx_Y X) x238 s237) wv_X8_lasts c9_8 zd_76 wm_Lw_161 rfl (Nat.le_of_ble_eq_true rfl) (Nat.le_of_ble_eq_true rfl) rfl (Nat.le_of_ble_eq_true rfl) dL_law_1154 (fun r239 s240 => ?_)
        refine zv_icmp_eq (tgt := 1437) hX dL_law_1157 rfl ?_ ?_
        · exact b_L_law_1437 hX hT ih v3 s240
        · refine zv_iconst (v := (0 : Int32)) hX dL_law_1160 zi_i_0 ?_
          exact zv_none
      refine zv_ite (fun h33_36 => ?_) (fun h33_36 => ?_)
      · refine zv_tabI (tgt := 1162) hX dL_law_33 (nI 36) h33_36 (by decide) (by decide) rfl rfl ?_
        refine zv_aload_n hX dL_law_1162 1 rfl ?_
        refine zv_aload_n hX dL_law_1163 0 rfl ?_
        refine zv_iload_n hX dL_law_1164 3 rfl ?_
        refine zv_iconst (v := (1 : Int32)) hX dL_law_1165 zi_i_1 ?_
        refine zv_iadd hX dL_law_1166 ?_
        refine zv_xld hX hT dL_law_1167 (fun x241 => ?_)
        refine zv_aload_n hX dL_law_1168 0 rfl ?_
        refine zv_iload_n hX dL_law_1169 3 rfl ?_
        refine zv_iconst (v := (nI 2)) hX dL_law_1170 zi_i_2 ?_
        refine zv_iadd hX dL_law_1171 ?_
        refine zv_xld hX hT dL_law_1172 (fun x242 => ?_)
        refine zv_lVI [.int x241, .int x242] (rest := []) hX hT (c_X7_chance (zx_Y X) x241 x242 s) wv_X7_chance c9_7 zd_0 wm_Lw_162 rfl (Nat.le_of_ble_eq_true rfl) (Nat.le_of_ble_eq_true rfl) rfl (Nat.le_of_ble_eq_true rfl) dL_law_1173 (fun r243 s244 => ?_)
        refine zv_aload_n hX dL_law_1176 2 rfl ?_
        refine zv_aload_n hX dL_law_1177 0 rfl ?_
        refine zv_iload_n hX dL_law_1178 3 rfl ?_
        refine zv_iconst (v := (1 : Int32)) hX dL_law_1179 zi_i_1 ?_
        refine zv_iadd hX dL_law_1180 ?_
        refine zv_xld hX hT dL_law_1181 (fun x245 => ?_)
        refine zv_aload_n hX dL_law_1182 0 rfl ?_
        refine zv_iload_n hX dL_law_1183 3 rfl ?_
        refine zv_iconst (v := (nI 2)) hX dL_law_1184 zi_i_2 ?_
        refine zv_iadd hX dL_law_1185 ?_
        refine zv_xld hX hT dL_law_1186 (fun x246 => ?_)
        refine zv_lVI [.int x245, .int x246] (rest := [.int r243]) hX hT (c_X8_chance (zx_Y X) x245 x246 s244) wv_X8_chance c9_8 zd_76 wm_Lw_165 rfl (Nat.le_of_ble_eq_true rfl) (Nat.le_of_ble_eq_true rfl) rfl (Nat.le_of_ble_eq_true rfl) dL_law_1187 (fun r247 s248 => ?_)
        refine zv_icmp_eq (tgt := 1437) hX dL_law_1190 rfl ?_ ?_
        · exact b_L_law_1437 hX hT ih v3 s248
        · refine zv_iconst (v := (0 : Int32)) hX dL_law_1193 zi_i_0 ?_
          exact zv_none
      refine zv_ite (fun h33_37 => ?_) (fun h33_37 => ?_)
      · refine zv_tabI (tgt := 1195) hX dL_law_33 (nI 37) h33_37 (by decide) (by decide) rfl rfl ?_
        refine zv_aload_n hX dL_law_1195 1 rfl ?_
        refine zv_aload_n hX dL_law_1196 0 rfl ?_
        refine zv_iload_n hX dL_law_1197 3 rfl ?_
        refine zv_iconst (v := (1 : Int32)) hX dL_law_1198 zi_i_1 ?_
        refine zv_iadd hX dL_law_1199 ?_
        refine zv_xld hX hT dL_law_1200 (fun x249 => ?_)
        refine zv_lVI [.int x249] (rest := []) hX hT (c_X7_likeliest (zx_Y X) x249 s) wv_X7_likeliest c9_7 zd_0 wm_Lw_166 rfl (Nat.le_of_ble_eq_true rfl) (Nat.le_of_ble_eq_true rfl) rfl (Nat.le_of_ble_eq_true rfl) dL_law_1201 (fun r250 s251 => ?_)
        refine zv_aload_n hX dL_law_1204 2 rfl ?_
        refine zv_aload_n hX dL_law_1205 0 rfl ?_
        refine zv_iload_n hX dL_law_1206 3 rfl ?_
        refine zv_iconst (v := (1 : Int32)) hX dL_law_1207 zi_i_1 ?_
        refine zv_iadd hX dL_law_1208 ?_
        refine zv_xld hX hT dL_law_1209 (fun x252 => ?_)
        refine zv_lVI [.int x252] (rest := [.int r250]) hX hT (c_X8_likeliest (zx_Y X) x252 s251) wv_X8_likeliest c9_8 zd_76 wm_Lw_169 rfl (Nat.le_of_ble_eq_true rfl) (Nat.le_of_ble_eq_true rfl) rfl (Nat.le_of_ble_eq_true rfl) dL_law_1210 (fun r253 s254 => ?_)
        refine zv_icmp_eq (tgt := 1437) hX dL_law_1213 rfl ?_ ?_
        · exact b_L_law_1437 hX hT ih v3 s254
        · refine zv_iconst (v := (0 : Int32)) hX dL_law_1216 zi_i_0 ?_
          exact zv_none
      refine zv_ite (fun h33_38 => ?_) (fun h33_38 => ?_)
      · refine zv_tabI (tgt := 1218) hX dL_law_33 (nI 38) h33_38 (by decide) (by decide) rfl rfl ?_
        refine zv_aload_n hX dL_law_1218 1 rfl ?_
        refine zv_aload_n hX dL_law_1219 0 rfl ?_
        refine zv_iload_n hX dL_law_1220 3 rfl ?_
        refine zv_iconst (v := (1 : Int32)) hX dL_law_1221 zi_i_1 ?_
        refine zv_iadd hX dL_law_1222 ?_
        refine zv_xld hX hT dL_law_1223 (fun x255 => ?_)
        refine zv_aload_n hX dL_law_1224 0 rfl ?_
        refine zv_iload_n hX dL_law_1225 3 rfl ?_
        refine zv_iconst (v := (nI 2)) hX dL_law_1226 zi_i_2 ?_
        refine zv_iadd hX dL_law_1227 ?_
        refine zv_xld hX hT dL_law_1228 (fun x256 => ?_)
        refine zv_aload_n hX dL_law_1229 0 rfl ?_
        refine zv_iload_n hX dL_law_1230 3 rfl ?_
        refine zv_iconst (v := (nI 3)) hX dL_law_1231 zi_i_3 ?_
        refine zv_iadd hX dL_law_1232 ?_
        refine zv_xld hX hT dL_law_1233 (fun x257 => ?_)
        refine zv_lVI [.int x255, .int x256, .int x257] (rest := []) hX hT (c_X7_numbers (zx_Y X) x255 x256 x257 s) wv_X7_numbers c9_7 zd_0 wm_Lw_170 rfl (Nat.le_of_ble_eq_true rfl) (Nat.le_of_ble_eq_true rfl) rfl (Nat.le_of_ble_eq_true rfl) dL_law_1234 (fun r258 s259 => ?_)
        refine zv_aload_n hX dL_law_1237 2 rfl ?_
        refine zv_aload_n hX dL_law_1238 0 rfl ?_
        refine zv_iload_n hX dL_law_1239 3 rfl ?_
        refine zv_iconst (v := (1 : Int32)) hX dL_law_1240 zi_i_1 ?_
        refine zv_iadd hX dL_law_1241 ?_
        refine zv_xld hX hT dL_law_1242 (fun x260 => ?_)
        refine zv_aload_n hX dL_law_1243 0 rfl ?_
        refine zv_iload_n hX dL_law_1244 3 rfl ?_
        refine zv_iconst (v := (nI 2)) hX dL_law_1245 zi_i_2 ?_
        refine zv_iadd hX dL_law_1246 ?_
        refine zv_xld hX hT dL_law_1247 (fun x261 => ?_)
        refine zv_aload_n hX dL_law_1248 0 rfl ?_
        refine zv_iload_n hX dL_law_1249 3 rfl ?_
        refine zv_iconst (v := (nI 3)) hX dL_law_1250 zi_i_3 ?_
        refine zv_iadd hX dL_law_1251 ?_
        refine zv_xld hX hT dL_law_1252 (fun x262 => ?_)
        refine zv_lVI [.int x260, .int x261, .int x262] (rest := [.int r258]) hX hT (c_X8_numbers (zx_Y X) x260 x261 x262 s259) wv_X8_numbers c9_8 zd_76 wm_Lw_173 rfl (Nat.le_of_ble_eq_true rfl) (Nat.le_of_ble_eq_true rfl) rfl (Nat.le_of_ble_eq_true rfl) dL_law_1253 (fun r263 s264 => ?_)
        refine zv_icmp_eq (tgt := 1437) hX dL_law_1256 rfl ?_ ?_
        · exact b_L_law_1437 hX hT ih v3 s264
        · refine zv_iconst (v := (0 : Int32)) hX dL_law_1259 zi_i_0 ?_
          exact zv_none
      refine zv_ite (fun h33_39 => ?_) (fun h33_39 => ?_)
      · refine zv_tabI (tgt := 1261) hX dL_law_33 (nI 39) h33_39 (by decide) (by decide) rfl rfl ?_
        refine zv_aload_n hX dL_law_1261 1 rfl ?_
        refine zv_aload_n hX dL_law_1262 0 rfl ?_
        refine zv_iload_n hX dL_law_1263 3 rfl ?_
        refine zv_iconst (v := (1 : Int32)) hX dL_law_1264 zi_i_1 ?_
        refine zv_iadd hX dL_law_1265 ?_
        refine zv_xld hX hT dL_law_1266 (fun x265 => ?_)
        refine zv_aload_n hX dL_law_1267 0 rfl ?_
        refine zv_iload_n hX dL_law_1268 3 rfl ?_
        refine zv_iconst (v := (nI 2)) hX dL_law_1269 zi_i_2 ?_
        refine zv_iadd hX dL_law_1270 ?_
        refine zv_xld hX hT dL_law_1271 (fun x266 => ?_)
        refine zv_aload_n hX dL_law_1272 0 rfl ?_
        refine zv_iload_n hX dL_law_1273 3 rfl ?_
        refine zv_iconst (v := (nI 3)) hX dL_law_1274 zi_i_3 ?_
        refine zv_iadd hX dL_law_1275 ?_
        refine zv_xld hX hT dL_law_1276 (fun x267 => ?_)
        refine zv_i2l hX dL_law_1277 ?_
        refine zv_bipush (v := (nI 32)) hX dL_law_1278 zi_b_32 ?_
        refine zv_lshl hX dL_law_1280 ?_
        refine zv_aload_n hX dL_law_1281 0 rfl ?_
        refine zv_iload_n hX dL_law_1282 3 rfl ?_
        refine zv_iconst (v := (nI 4)) hX dL_law_1283 zi_i_4 ?_
        refine zv_iadd hX dL_law_1284 ?_
        refine zv_xld hX hT dL_law_1285 (fun x268 => ?_)
        refine zv_i2l hX dL_law_1286 ?_
        refine zv_ldc2 hX wn_Lw_174 dL_law_1287 ?_
        refine zv_land hX dL_law_1290 ?_
        refine zv_lor hX dL_law_1291 ?_
        refine zv_lVJ [.int x265, .int x266, .long ((zo_lshl (x267.toInt64) (nI 32)) ||| ((x268.toInt64) &&& (4294967295 : Int64)))] (rest := []) hX hT (c_X7_write (zx_Y X) x265 x266 ((zo_lshl (x267.toInt64) (nI 32)) ||| ((x268.toInt64) &&& (4294967295 : Int64))) s) wv_X7_write c9_7 zd_0 wm_Lw_176 rfl (Nat.le_of_ble_eq_true rfl) (Nat.le_of_ble_eq_true rfl) rfl (Nat.le_of_ble_eq_true rfl) dL_law_1292 (fun r269 s270 => ?_)
        refine zv_aload_n hX dL_law_1295 2 rfl ?_
        refine zv_aload_n hX dL_law_1296 0 rfl ?_
        refine zv_iload_n hX dL_law_1297 3 rfl ?_
        refine zv_iconst (v := (1 : Int32)) hX dL_law_1298 zi_i_1 ?_
        refine zv_iadd hX dL_law_1299 ?_
        refine zv_xld hX hT dL_law_1300 (fun x271 => ?_)
        refine zv_aload_n hX dL_law_1301 0 rfl ?_
        refine zv_iload_n hX dL_law_1302 3 rfl ?_
        refine zv_iconst (v := (nI 2)) hX dL_law_1303 zi_i_2 ?_
        refine zv_iadd hX dL_law_1304 ?_
        refine zv_xld hX hT dL_law_1305 (fun x272 => ?_)
        refine zv_aload_n hX dL_law_1306 0 rfl ?_
        refine zv_iload_n hX dL_law_1307 3 rfl ?_
        refine zv_iconst (v := (nI 3)) hX dL_law_1308 zi_i_3 ?_
        refine zv_iadd hX dL_law_1309 ?_
        refine zv_xld hX hT dL_law_1310 (fun x273 => ?_)
        refine zv_i2l hX dL_law_1311 ?_
        refine zv_bipush (v := (nI 32)) hX dL_law_1312 zi_b_32 ?_
        refine zv_lshl hX dL_law_1314 ?_
        refine zv_aload_n hX dL_law_1315 0 rfl ?_
        refine zv_iload_n hX dL_law_1316 3 rfl ?_
        refine zv_iconst (v := (nI 4)) hX dL_law_1317 zi_i_4 ?_
        refine zv_iadd hX dL_law_1318 ?_
        refine zv_xld hX hT dL_law_1319 (fun x274 => ?_)
        refine zv_i2l hX dL_law_1320 ?_
        refine zv_ldc2 hX wn_Lw_174 dL_law_1321 ?_
        refine zv_land hX dL_law_1324 ?_
        refine zv_lor hX dL_law_1325 ?_
        refine zv_lVJ [.int x271, .int x272, .long ((zo_lshl (x273.toInt64) (nI 32)) ||| ((x274.toInt64) &&& (4294967295 : Int64)))] (rest := [.long r269]) hX hT (c_X8_write (zx_Y X) x271 x272 ((zo_lshl (x273.toInt64) (nI 32)) ||| ((x274.toInt64) &&& (4294967295 : Int64))) s270) wv_X8_write c9_8 zd_76 wm_Lw_180 rfl (Nat.le_of_ble_eq_true rfl) (Nat.le_of_ble_eq_true rfl) rfl (Nat.le_of_ble_eq_true rfl) dL_law_1326 (fun r275 s276 => ?_)
        refine zv_lcmp hX dL_law_1329 ?_
        refine zv_if_eq (tgt := 1437) hX dL_law_1330 rfl ?_ ?_
        · exact b_L_law_1437 hX hT ih v3 s276
        · refine zv_iconst (v := (0 : Int32)) hX dL_law_1333 zi_i_0 ?_
          exact zv_none
      refine zv_ite (fun h33_40 => ?_) (fun h33_40 => ?_)
      · refine zv_tabI (tgt := 1335) hX dL_law_33 (nI 40) h33_40 (by decide) (by decide) rfl rfl ?_
        refine zv_aload_n hX dL_law_1335 1 rfl ?_
        refine zv_aload_n hX dL_law_1336 0 rfl ?_
        refine zv_iload_n hX dL_law_1337 3 rfl ?_
        refine zv_iconst (v := (1 : Int32)) hX dL_law_1338 zi_i_1 ?_
        refine zv_iadd hX dL_law_1339 ?_
        refine zv_xld hX hT dL_law_1340 (fun x277 => ?_)
        refine zv_aload_n hX dL_law_1341 0 rfl ?_
        refine zv_iload_n hX dL_law_1342 3 rfl ?_
        refine zv_iconst (v := (nI 2)) hX dL_law_1343 zi_i_2 ?_
        refine zv_iadd hX dL_law_1344 ?_
        refine zv_xld hX hT dL_law_1345 (fun x278 => ?_)
        refine zv_lVI [.int x277, .int x278] (rest := []) hX hT (c_X7_lists (zx_Y X) x277 x278 s) wv_X7_lists c9_7 zd_0 wm_Lw_181 rfl (Nat.le_of_ble_eq_true rfl) (Nat.le_of_ble_eq_true rfl) rfl (Nat.le_of_ble_eq_true rfl) dL_law_1346 (fun r279 s280 => ?_)
        refine zv_aload_n hX dL_law_1349 2 rfl ?_
        refine zv_aload_n hX dL_law_1350 0 rfl ?_
        refine zv_iload_n hX dL_law_1351 3 rfl ?_
        refine zv_iconst (v := (1 : Int32)) hX dL_law_1352 zi_i_1 ?_
        refine zv_iadd hX dL_law_1353 ?_
        refine zv_xld hX hT dL_law_1354 (fun x281 => ?_)
        refine zv_aload_n hX dL_law_1355 0 rfl ?_
        refine zv_iload_n hX dL_law_1356 3 rfl ?_
        refine zv_iconst (v := (nI 2)) hX dL_law_1357 zi_i_2 ?_
        refine zv_iadd hX dL_law_1358 ?_
        refine zv_xld hX hT dL_law_1359 (fun x282 => ?_)
        refine zv_lVI [.int x281, .int x282] (rest := [.int r279]) hX hT (c_X8_lists (zx_Y X) x281 x282 s280) wv_X8_lists c9_8 zd_76 wm_Lw_184 rfl (Nat.le_of_ble_eq_true rfl) (Nat.le_of_ble_eq_true rfl) rfl (Nat.le_of_ble_eq_true rfl) dL_law_1360 (fun r283 s284 => ?_)
        refine zv_icmp_eq (tgt := 1437) hX dL_law_1363 rfl ?_ ?_
        · exact b_L_law_1437 hX hT ih v3 s284
        · refine zv_iconst (v := (0 : Int32)) hX dL_law_1366 zi_i_0 ?_
          exact zv_none
      refine zv_ite (fun h33_41 => ?_) (fun h33_41 => ?_)
      · refine zv_tabI (tgt := 1368) hX dL_law_33 (nI 41) h33_41 (by decide) (by decide) rfl rfl ?_
        refine zv_aload_n hX dL_law_1368 1 rfl ?_
        refine zv_aload_n hX dL_law_1369 0 rfl ?_
        refine zv_iload_n hX dL_law_1370 3 rfl ?_
        refine zv_iconst (v := (1 : Int32)) hX dL_law_1371 zi_i_1 ?_
        refine zv_iadd hX dL_law_1372 ?_
        refine zv_xld hX hT dL_law_1373 (fun x285 => ?_)
        refine zv_lVI [.int x285] (rest := []) hX hT (c_X7_image (zx_Y X) x285 s) wv_X7_image c9_7 zd_0 wm_Lw_185 rfl (Nat.le_of_ble_eq_true rfl) (Nat.le_of_ble_eq_true rfl) rfl (Nat.le_of_ble_eq_true rfl) dL_law_1374 (fun r286 s287 => ?_)
        refine zv_aload_n hX dL_law_1377 2 rfl ?_
        refine zv_aload_n hX dL_law_1378 0 rfl ?_
        refine zv_iload_n hX dL_law_1379 3 rfl ?_
        refine zv_iconst (v := (1 : Int32)) hX dL_law_1380 zi_i_1 ?_
        refine zv_iadd hX dL_law_1381 ?_
        refine zv_xld hX hT dL_law_1382 (fun x288 => ?_)
        refine zv_lVI [.int x288] (rest := [.int r286]) hX hT (c_X8_image (zx_Y X) x288 s287) wv_X8_image c9_8 zd_76 wm_Lw_188 rfl (Nat.le_of_ble_eq_true rfl) (Nat.le_of_ble_eq_true rfl) rfl (Nat.le_of_ble_eq_true rfl) dL_law_1383 (fun r289 s290 => ?_)
        refine zv_icmp_eq (tgt := 1437) hX dL_law_1386 rfl ?_ ?_
        · exact b_L_law_1437 hX hT ih v3 s290
        · refine zv_iconst (v := (0 : Int32)) hX dL_law_1389 zi_i_0 ?_
          exact zv_none
      refine zv_ite (fun h33_42 => ?_) (fun h33_42 => ?_)
      · refine zv_tabI (tgt := 1391) hX dL_law_33 (nI 42) h33_42 (by decide) (by decide) rfl rfl ?_
        refine zv_aload_n hX dL_law_1391 1 rfl ?_
        refine zv_aload_n hX dL_law_1392 0 rfl ?_
        refine zv_iload_n hX dL_law_1393 3 rfl ?_
        refine zv_iconst (v := (1 : Int32)) hX dL_law_1394 zi_i_1 ?_
        refine zv_iadd hX dL_law_1395 ?_
        refine zv_xld hX hT dL_law_1396 (fun x291 => ?_)
        refine zv_lVI [.int x291] (rest := []) hX hT (c_X7_restore (zx_Y X) x291 s) wv_X7_restore c9_7 zd_0 wm_Lw_189 rfl (Nat.le_of_ble_eq_true rfl) (Nat.le_of_ble_eq_true rfl) rfl (Nat.le_of_ble_eq_true rfl) dL_law_1397 (fun r292 s293 => ?_)
        refine zv_aload_n hX dL_law_1400 2 rfl ?_
        refine zv_aload_n hX dL_law_1401 0 rfl ?_
        refine zv_iload_n hX dL_law_1402 3 rfl ?_
        refine zv_iconst (v := (1 : Int32)) hX dL_law_1403 zi_i_1 ?_
        refine zv_iadd hX dL_law_1404 ?_
        refine zv_xld hX hT dL_law_1405 (fun x294 => ?_)
        refine zv_lVI [.int x294] (rest := [.int r292]) hX hT (c_X8_restore (zx_Y X) x294 s293) wv_X8_restore c9_8 zd_76 wm_Lw_192 rfl (Nat.le_of_ble_eq_true rfl) (Nat.le_of_ble_eq_true rfl) rfl (Nat.le_of_ble_eq_true rfl) dL_law_1406 (fun r295 s296 => ?_)
        refine zv_icmp_eq (tgt := 1437) hX dL_law_1409 rfl ?_ ?_
        · exact b_L_law_1437 hX hT ih v3 s296
        · refine zv_iconst (v := (0 : Int32)) hX dL_law_1412 zi_i_0 ?_
          exact zv_none
      refine zv_ite (fun h33_43 => ?_) (fun h33_43 => ?_)
      · refine zv_tabI (tgt := 1414) hX dL_law_33 (nI 43) h33_43 (by decide) (by decide) rfl rfl ?_
        refine zv_aload_n hX dL_law_1414 1 rfl ?_
        refine zv_aload_n hX dL_law_1415 0 rfl ?_
        refine zv_iload_n hX dL_law_1416 3 rfl ?_
        refine zv_iconst (v := (1 : Int32)) hX dL_law_1417 zi_i_1 ?_
        refine zv_iadd hX dL_law_1418 ?_
        refine zv_xld hX hT dL_law_1419 (fun x297 => ?_)
        refine zv_lVI [.int x297] (rest := []) hX hT (c_X7_count (zx_Y X) x297 s) wv_X7_count c9_7 zd_0 wm_Lw_193 rfl (Nat.le_of_ble_eq_true rfl) (Nat.le_of_ble_eq_true rfl) rfl (Nat.le_of_ble_eq_true rfl) dL_law_1420 (fun r298 s299 => ?_)
        refine zv_aload_n hX dL_law_1423 2 rfl ?_
        refine zv_aload_n hX dL_law_1424 0 rfl ?_
        refine zv_iload_n hX dL_law_1425 3 rfl ?_
        refine zv_iconst (v := (1 : Int32)) hX dL_law_1426 zi_i_1 ?_
        refine zv_iadd hX dL_law_1427 ?_
        refine zv_xld hX hT dL_law_1428 (fun x300 => ?_)
        refine zv_lVI [.int x300] (rest := [.int r298]) hX hT (c_X8_count (zx_Y X) x300 s299) wv_X8_count c9_8 zd_76 wm_Lw_196 rfl (Nat.le_of_ble_eq_true rfl) (Nat.le_of_ble_eq_true rfl) rfl (Nat.le_of_ble_eq_true rfl) dL_law_1429 (fun r301 s302 => ?_)
        refine zv_icmp_eq (tgt := 1437) hX dL_law_1432 rfl ?_ ?_
        · exact b_L_law_1437 hX hT ih v3 s302
        · refine zv_iconst (v := (0 : Int32)) hX dL_law_1435 zi_i_0 ?_
          exact zv_none
      refine zv_tabO (tgt := 1437) hX dL_law_33 (zt_out 0 44 (by decide) (fun j hj => by match j, hj with | 0, _ => exact h33_0 | 1, _ => exact h33_1 | 2, _ => exact h33_2 | 3, _ => exact h33_3 | 4, _ => exact h33_4 | 5, _ => exact h33_5 | 6, _ => exact h33_6 | 7, _ => exact h33_7 | 8, _ => exact h33_8 | 9, _ => exact h33_9 | 10, _ => exact h33_10 | 11, _ => exact h33_11 | 12, _ => exact h33_12 | 13, _ => exact h33_13 | 14, _ => exact h33_14 | 15, _ => exact h33_15 | 16, _ => exact h33_16 | 17, _ => exact h33_17 | 18, _ => exact h33_18 | 19, _ => exact h33_19 | 20, _ => exact h33_20 | 21, _ => exact h33_21 | 22, _ => exact h33_22 | 23, _ => exact h33_23 | 24, _ => exact h33_24 | 25, _ => exact h33_25 | 26, _ => exact h33_26 | 27, _ => exact h33_27 | 28, _ => exact h33_28 | 29, _ => exact h33_29 | 30, _ => exact h33_30 | 31, _ => exact h33_31 | 32, _ => exact h33_32 | 33, _ => exact h33_33 | 34, _ => exact h33_34 | 35, _ => exact h33_35 | 36, _ => exact h33_36 | 37, _ => exact h33_37 | 38, _ => exact h33_38 | 39, _ => exact h33_39 | 40, _ => exact h33_40 | 41, _ => exact h33_41 | 42, _ => exact h33_42 | 43, _ => exact h33_43 | n + 44, h => exact absurd h (by omega))) rfl ?_
      exact b_L_law_1437 hX hT ih v3 s
def f_L_law (xs : Nat → Int32) (L : Nat) (s : zS) : Option (Unit × zS) :=
  f_L_law_18 xs L zFU (0 : Int32) s
set_option maxRecDepth 20000 in
theorem b_L_law {X : zX} {b L : Nat} {xs : Nat → Int32} (hX : zx_ok X code RLw 4) (hT : zl_t X b L xs) (s : zS) : zV X (zl_q X b) 4 16 [(0, .ref b), (1, .ref (zx_ad X 0)), (2, .ref (zx_ad X 76))] [] s (f_L_law xs L s) := by
  unfold f_L_law
  refine zv_iconst (v := (0 : Int32)) hX dL_law_16 zi_i_0 ?_
  refine zv_istore_n (lv' := [(3, .int (0 : Int32)), (0, .ref b), (1, .ref (zx_ad X 0)), (2, .ref (zx_ad X 76))]) hX dL_law_17 (by decide) rfl ?_
  exact zv_sub [1, 2, 3, 0] rfl (b_L_law_18 hX hT zFU (0 : Int32) s)
