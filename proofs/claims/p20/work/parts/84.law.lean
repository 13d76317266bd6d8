/-! The law -/
def LawQ : QT := fun v _ c s => v = some (.int 1) ∧ c ≤ 600000 ∧ s ≤ 7302250
abbrev alL (i : Nat) : AL := [(0, .long 1), (1, .ref 0), (2, .ref 41), (3, .int (Int32.ofNat i))]
set_option maxRecDepth 100000 in
theorem lk_0 {xs : List Int32} {i c s : Nat} {E : Value} {T : List SH} {M : Mem} (hi : i + 8 ≤ xs.length) (hx : xs.length ≤ 4096) (hI : INV E T M) (K : ∀ E1 T1 M1 c1 s1, INV E1 T1 M1 → c1 ≤ c + 2 → s1 ≤ s + 25 → Go xs 11 (some .boolean) tabL_law 749 (alL i) [] (hp (zz E1 T1) M1) c1 s1 LawQ) : Go xs 11 (some .boolean) tabL_law 132 (alL i) [] (hp (zz E T) M) c s LawQ := by
  refine g_aload_n (n := 133) rfl rfl rfl ?_
  refine g_aloadL (n := 134) rfl rfl rfl rfl ?_
  refine g_iload_n (n := 135) rfl rfl rfl ?_
  refine g_const (n := 136) rfl rfl (s_iconst (v := 1) (by decide)) ?_
  refine g_iadd (n := 137) rfl rfl ?_
  refine g_ialdX (j := i + 1) (n := 138) rfl rfl (jn_add i 1) (by omega) (by omega) ?_
  refine g_cG2 (n := 141) rfl rfl rfl rfl mt_X8_end rfl rfl (r_k z_0) (pair_end hI) ?_
  rintro v h1 c1 s1 ⟨hc1, hs1, x, E1, T1, M1, rfl, rfl, ev⟩
  refine g_pop (n := 142) rfl rfl ?_
  refine g_aload_n (n := 143) rfl rfl rfl ?_
  refine g_aloadL (n := 144) rfl rfl rfl rfl ?_
  refine g_iload_n (n := 145) rfl rfl rfl ?_
  refine g_const (n := 146) rfl rfl (s_iconst (v := 1) (by decide)) ?_
  refine g_iadd (n := 147) rfl rfl ?_
  refine g_ialdX (j := i + 1) (n := 148) rfl rfl (jn_add i 1) (by omega) (by omega) ?_
  refine g_cI2 (n := 151) rfl rfl rfl rfl mt_X9_end rfl rfl (r_k z_41) ev ?_
  rintro y M2 ⟨hI2, hA⟩
  refine g_pop (n := 152) rfl rfl ?_
  refine g_goto rfl ?_
  exact K E1 T1 M2 _ _ hI2 (by omega) (by omega)
set_option maxRecDepth 100000 in
theorem lk_1 {xs : List Int32} {i c s : Nat} {E : Value} {T : List SH} {M : Mem} (hi : i + 8 ≤ xs.length) (hx : xs.length ≤ 4096) (hI : INV E T M) (K : ∀ E1 T1 M1 c1 s1, INV E1 T1 M1 → c1 ≤ c + 2 → s1 ≤ s + 25 → Go xs 11 (some .boolean) tabL_law 749 (alL i) [] (hp (zz E1 T1) M1) c1 s1 LawQ) : Go xs 11 (some .boolean) tabL_law 155 (alL i) [] (hp (zz E T) M) c s LawQ := by
  refine g_aload_n (n := 156) rfl rfl rfl ?_
  refine g_aloadL (n := 157) rfl rfl rfl rfl ?_
  refine g_iload_n (n := 158) rfl rfl rfl ?_
  refine g_const (n := 159) rfl rfl (s_iconst (v := 1) (by decide)) ?_
  refine g_iadd (n := 160) rfl rfl ?_
  refine g_ialdX (j := i + 1) (n := 161) rfl rfl (jn_add i 1) (by omega) (by omega) ?_
  refine g_aloadL (n := 162) rfl rfl rfl rfl ?_
  refine g_iload_n (n := 163) rfl rfl rfl ?_
  refine g_const (n := 164) rfl rfl (s_iconst (v := 2) (by decide)) ?_
  refine g_iadd (n := 165) rfl rfl ?_
  refine g_ialdX (j := i + 2) (n := 166) rfl rfl (jn_add i 2) (by omega) (by omega) ?_
  refine g_aloadL (n := 167) rfl rfl rfl rfl ?_
  refine g_iload_n (n := 168) rfl rfl rfl ?_
  refine g_const (n := 169) rfl rfl (s_iconst (v := 3) (by decide)) ?_
  refine g_iadd (n := 170) rfl rfl ?_
  refine g_ialdX (j := i + 3) (n := 171) rfl rfl (jn_add i 3) (by omega) (by omega) ?_
  refine g_aloadL (n := 172) rfl rfl rfl rfl ?_
  refine g_iload_n (n := 173) rfl rfl rfl ?_
  refine g_const (n := 174) rfl rfl (s_iconst (v := 4) (by decide)) ?_
  refine g_iadd (n := 175) rfl rfl ?_
  refine g_ialdX (j := i + 4) (n := 176) rfl rfl (jn_add i 4) (by omega) (by omega) ?_
  refine g_aloadL (n := 177) rfl rfl rfl rfl ?_
  refine g_iload_n (n := 178) rfl rfl rfl ?_
  refine g_const (n := 179) rfl rfl (s_iconst (v := 5) (by decide)) ?_
  refine g_iadd (n := 180) rfl rfl ?_
  refine g_ialdX (j := i + 5) (n := 181) rfl rfl (jn_add i 5) (by omega) (by omega) ?_
  refine g_aloadL (n := 182) rfl rfl rfl rfl ?_
  refine g_iload_n (n := 183) rfl rfl rfl ?_
  refine g_const (n := 185) rfl rfl (s_bipush (v := 6) (by decide)) ?_
  refine g_iadd (n := 186) rfl rfl ?_
  refine g_ialdX (j := i + 6) (n := 187) rfl rfl (jn_add i 6) (by omega) (by omega) ?_
  refine g_aloadL (n := 188) rfl rfl rfl rfl ?_
  refine g_iload_n (n := 189) rfl rfl rfl ?_
  refine g_const (n := 191) rfl rfl (s_bipush (v := 7) (by decide)) ?_
  refine g_iadd (n := 192) rfl rfl ?_
  refine g_ialdX (j := i + 7) (n := 193) rfl rfl (jn_add i 7) (by omega) (by omega) ?_
  refine g_cG8 (n := 196) rfl rfl rfl rfl mt_X8_rule rfl rfl (r_k z_0) (pair_rule hI) ?_
  rintro v h1 c1 s1 ⟨hc1, hs1, x, E1, T1, M1, rfl, rfl, ev⟩
  refine g_pop (n := 197) rfl rfl ?_
  refine g_aload_n (n := 198) rfl rfl rfl ?_
  refine g_aloadL (n := 199) rfl rfl rfl rfl ?_
  refine g_iload_n (n := 200) rfl rfl rfl ?_
  refine g_const (n := 201) rfl rfl (s_iconst (v := 1) (by decide)) ?_
  refine g_iadd (n := 202) rfl rfl ?_
  refine g_ialdX (j := i + 1) (n := 203) rfl rfl (jn_add i 1) (by omega) (by omega) ?_
  refine g_aloadL (n := 204) rfl rfl rfl rfl ?_
  refine g_iload_n (n := 205) rfl rfl rfl ?_
  refine g_const (n := 206) rfl rfl (s_iconst (v := 2) (by decide)) ?_
  refine g_iadd (n := 207) rfl rfl ?_
  refine g_ialdX (j := i + 2) (n := 208) rfl rfl (jn_add i 2) (by omega) (by omega) ?_
  refine g_aloadL (n := 209) rfl rfl rfl rfl ?_
  refine g_iload_n (n := 210) rfl rfl rfl ?_
  refine g_const (n := 211) rfl rfl (s_iconst (v := 3) (by decide)) ?_
  refine g_iadd (n := 212) rfl rfl ?_
  refine g_ialdX (j := i + 3) (n := 213) rfl rfl (jn_add i 3) (by omega) (by omega) ?_
  refine g_aloadL (n := 214) rfl rfl rfl rfl ?_
  refine g_iload_n (n := 215) rfl rfl rfl ?_
  refine g_const (n := 216) rfl rfl (s_iconst (v := 4) (by decide)) ?_
  refine g_iadd (n := 217) rfl rfl ?_
  refine g_ialdX (j := i + 4) (n := 218) rfl rfl (jn_add i 4) (by omega) (by omega) ?_
  refine g_aloadL (n := 219) rfl rfl rfl rfl ?_
  refine g_iload_n (n := 220) rfl rfl rfl ?_
  refine g_const (n := 221) rfl rfl (s_iconst (v := 5) (by decide)) ?_
  refine g_iadd (n := 222) rfl rfl ?_
  refine g_ialdX (j := i + 5) (n := 223) rfl rfl (jn_add i 5) (by omega) (by omega) ?_
  refine g_aloadL (n := 224) rfl rfl rfl rfl ?_
  refine g_iload_n (n := 225) rfl rfl rfl ?_
  refine g_const (n := 227) rfl rfl (s_bipush (v := 6) (by decide)) ?_
  refine g_iadd (n := 228) rfl rfl ?_
  refine g_ialdX (j := i + 6) (n := 229) rfl rfl (jn_add i 6) (by omega) (by omega) ?_
  refine g_aloadL (n := 230) rfl rfl rfl rfl ?_
  refine g_iload_n (n := 231) rfl rfl rfl ?_
  refine g_const (n := 233) rfl rfl (s_bipush (v := 7) (by decide)) ?_
  refine g_iadd (n := 234) rfl rfl ?_
  refine g_ialdX (j := i + 7) (n := 235) rfl rfl (jn_add i 7) (by omega) (by omega) ?_
  refine g_cI8 (n := 238) rfl rfl rfl rfl mt_X9_rule rfl rfl (r_k z_41) ev ?_
  rintro y M2 ⟨hI2, hA⟩
  refine g_pop (n := 239) rfl rfl ?_
  refine g_goto rfl ?_
  exact K E1 T1 M2 _ _ hI2 (by omega) (by omega)
set_option maxRecDepth 100000 in
theorem lk_2 {xs : List Int32} {i c s : Nat} {E : Value} {T : List SH} {M : Mem} (hi : i + 8 ≤ xs.length) (hx : xs.length ≤ 4096) (hI : INV E T M) (K : ∀ E1 T1 M1 c1 s1, INV E1 T1 M1 → c1 ≤ c + 2 → s1 ≤ s + 25 → Go xs 11 (some .boolean) tabL_law 749 (alL i) [] (hp (zz E1 T1) M1) c1 s1 LawQ) : Go xs 11 (some .boolean) tabL_law 242 (alL i) [] (hp (zz E T) M) c s LawQ := by
  refine g_aload_n (n := 243) rfl rfl rfl ?_
  refine g_aloadL (n := 244) rfl rfl rfl rfl ?_
  refine g_iload_n (n := 245) rfl rfl rfl ?_
  refine g_const (n := 246) rfl rfl (s_iconst (v := 1) (by decide)) ?_
  refine g_iadd (n := 247) rfl rfl ?_
  refine g_ialdX (j := i + 1) (n := 248) rfl rfl (jn_add i 1) (by omega) (by omega) ?_
  refine g_aloadL (n := 249) rfl rfl rfl rfl ?_
  refine g_iload_n (n := 250) rfl rfl rfl ?_
  refine g_const (n := 251) rfl rfl (s_iconst (v := 2) (by decide)) ?_
  refine g_iadd (n := 252) rfl rfl ?_
  refine g_ialdX (j := i + 2) (n := 253) rfl rfl (jn_add i 2) (by omega) (by omega) ?_
  refine g_cG3 (n := 256) rfl rfl rfl rfl mt_X8_spare rfl rfl (r_k z_0) (pair_spare hI) ?_
  rintro v h1 c1 s1 ⟨hc1, hs1, x, E1, T1, M1, rfl, rfl, ev⟩
  refine g_pop (n := 257) rfl rfl ?_
  refine g_aload_n (n := 258) rfl rfl rfl ?_
  refine g_aloadL (n := 259) rfl rfl rfl rfl ?_
  refine g_iload_n (n := 260) rfl rfl rfl ?_
  refine g_const (n := 261) rfl rfl (s_iconst (v := 1) (by decide)) ?_
  refine g_iadd (n := 262) rfl rfl ?_
  refine g_ialdX (j := i + 1) (n := 263) rfl rfl (jn_add i 1) (by omega) (by omega) ?_
  refine g_aloadL (n := 264) rfl rfl rfl rfl ?_
  refine g_iload_n (n := 265) rfl rfl rfl ?_
  refine g_const (n := 266) rfl rfl (s_iconst (v := 2) (by decide)) ?_
  refine g_iadd (n := 267) rfl rfl ?_
  refine g_ialdX (j := i + 2) (n := 268) rfl rfl (jn_add i 2) (by omega) (by omega) ?_
  refine g_cI3 (n := 271) rfl rfl rfl rfl mt_X9_spare rfl rfl (r_k z_41) ev ?_
  rintro y M2 ⟨hI2, hA⟩
  refine g_pop (n := 272) rfl rfl ?_
  refine g_goto rfl ?_
  exact K E1 T1 M2 _ _ hI2 (by omega) (by omega)
set_option maxRecDepth 100000 in
theorem lk_3 {xs : List Int32} {i c s : Nat} {E : Value} {T : List SH} {M : Mem} (hi : i + 8 ≤ xs.length) (hx : xs.length ≤ 4096) (hI : INV E T M) (K : ∀ E1 T1 M1 c1 s1, INV E1 T1 M1 → c1 ≤ c + 2 → s1 ≤ s + 25 → Go xs 11 (some .boolean) tabL_law 749 (alL i) [] (hp (zz E1 T1) M1) c1 s1 LawQ) : Go xs 11 (some .boolean) tabL_law 275 (alL i) [] (hp (zz E T) M) c s LawQ := by
  refine g_aload_n (n := 276) rfl rfl rfl ?_
  refine g_aloadL (n := 277) rfl rfl rfl rfl ?_
  refine g_iload_n (n := 278) rfl rfl rfl ?_
  refine g_const (n := 279) rfl rfl (s_iconst (v := 1) (by decide)) ?_
  refine g_iadd (n := 280) rfl rfl ?_
  refine g_ialdX (j := i + 1) (n := 281) rfl rfl (jn_add i 1) (by omega) (by omega) ?_
  refine g_aloadL (n := 282) rfl rfl rfl rfl ?_
  refine g_iload_n (n := 283) rfl rfl rfl ?_
  refine g_const (n := 284) rfl rfl (s_iconst (v := 2) (by decide)) ?_
  refine g_iadd (n := 285) rfl rfl ?_
  refine g_ialdX (j := i + 2) (n := 286) rfl rfl (jn_add i 2) (by omega) (by omega) ?_
  refine g_aloadL (n := 287) rfl rfl rfl rfl ?_
  refine g_iload_n (n := 288) rfl rfl rfl ?_
  refine g_const (n := 289) rfl rfl (s_iconst (v := 3) (by decide)) ?_
  refine g_iadd (n := 290) rfl rfl ?_
  refine g_ialdX (j := i + 3) (n := 291) rfl rfl (jn_add i 3) (by omega) (by omega) ?_
  refine g_cG4 (n := 294) rfl rfl rfl rfl mt_X8_first rfl rfl (r_k z_0) (pair_first hI) ?_
  rintro v h1 c1 s1 ⟨hc1, hs1, x, E1, T1, M1, rfl, rfl, ev⟩
  refine g_pop (n := 295) rfl rfl ?_
  refine g_aload_n (n := 296) rfl rfl rfl ?_
  refine g_aloadL (n := 297) rfl rfl rfl rfl ?_
  refine g_iload_n (n := 298) rfl rfl rfl ?_
  refine g_const (n := 299) rfl rfl (s_iconst (v := 1) (by decide)) ?_
  refine g_iadd (n := 300) rfl rfl ?_
  refine g_ialdX (j := i + 1) (n := 301) rfl rfl (jn_add i 1) (by omega) (by omega) ?_
  refine g_aloadL (n := 302) rfl rfl rfl rfl ?_
  refine g_iload_n (n := 303) rfl rfl rfl ?_
  refine g_const (n := 304) rfl rfl (s_iconst (v := 2) (by decide)) ?_
  refine g_iadd (n := 305) rfl rfl ?_
  refine g_ialdX (j := i + 2) (n := 306) rfl rfl (jn_add i 2) (by omega) (by omega) ?_
  refine g_aloadL (n := 307) rfl rfl rfl rfl ?_
  refine g_iload_n (n := 308) rfl rfl rfl ?_
  refine g_const (n := 309) rfl rfl (s_iconst (v := 3) (by decide)) ?_
  refine g_iadd (n := 310) rfl rfl ?_
  refine g_ialdX (j := i + 3) (n := 311) rfl rfl (jn_add i 3) (by omega) (by omega) ?_
  refine g_cI4 (n := 314) rfl rfl rfl rfl mt_X9_first rfl rfl (r_k z_41) ev ?_
  rintro y M2 ⟨hI2, hA⟩
  refine g_pop (n := 315) rfl rfl ?_
  refine g_goto rfl ?_
  exact K E1 T1 M2 _ _ hI2 (by omega) (by omega)
set_option maxRecDepth 100000 in
theorem lk_4 {xs : List Int32} {i c s : Nat} {E : Value} {T : List SH} {M : Mem} (hi : i + 8 ≤ xs.length) (hx : xs.length ≤ 4096) (hI : INV E T M) (K : ∀ E1 T1 M1 c1 s1, INV E1 T1 M1 → c1 ≤ c + 2 → s1 ≤ s + 25 → Go xs 11 (some .boolean) tabL_law 749 (alL i) [] (hp (zz E1 T1) M1) c1 s1 LawQ) : Go xs 11 (some .boolean) tabL_law 318 (alL i) [] (hp (zz E T) M) c s LawQ := by
  refine g_aload_n (n := 319) rfl rfl rfl ?_
  refine g_aloadL (n := 320) rfl rfl rfl rfl ?_
  refine g_iload_n (n := 321) rfl rfl rfl ?_
  refine g_const (n := 322) rfl rfl (s_iconst (v := 1) (by decide)) ?_
  refine g_iadd (n := 323) rfl rfl ?_
  refine g_ialdX (j := i + 1) (n := 324) rfl rfl (jn_add i 1) (by omega) (by omega) ?_
  refine g_aloadL (n := 325) rfl rfl rfl rfl ?_
  refine g_iload_n (n := 326) rfl rfl rfl ?_
  refine g_const (n := 327) rfl rfl (s_iconst (v := 2) (by decide)) ?_
  refine g_iadd (n := 328) rfl rfl ?_
  refine g_ialdX (j := i + 2) (n := 329) rfl rfl (jn_add i 2) (by omega) (by omega) ?_
  refine g_aloadL (n := 330) rfl rfl rfl rfl ?_
  refine g_iload_n (n := 331) rfl rfl rfl ?_
  refine g_const (n := 332) rfl rfl (s_iconst (v := 3) (by decide)) ?_
  refine g_iadd (n := 333) rfl rfl ?_
  refine g_ialdX (j := i + 3) (n := 334) rfl rfl (jn_add i 3) (by omega) (by omega) ?_
  refine g_aloadL (n := 335) rfl rfl rfl rfl ?_
  refine g_iload_n (n := 336) rfl rfl rfl ?_
  refine g_const (n := 337) rfl rfl (s_iconst (v := 4) (by decide)) ?_
  refine g_iadd (n := 338) rfl rfl ?_
  refine g_ialdX (j := i + 4) (n := 339) rfl rfl (jn_add i 4) (by omega) (by omega) ?_
  refine g_cG5 (n := 342) rfl rfl rfl rfl mt_X8_promise rfl rfl (r_k z_0) (pair_promise hI) ?_
  rintro v h1 c1 s1 ⟨hc1, hs1, x, E1, T1, M1, rfl, rfl, ev⟩
  refine g_pop (n := 343) rfl rfl ?_
  refine g_aload_n (n := 344) rfl rfl rfl ?_
  refine g_aloadL (n := 345) rfl rfl rfl rfl ?_
  refine g_iload_n (n := 346) rfl rfl rfl ?_
  refine g_const (n := 347) rfl rfl (s_iconst (v := 1) (by decide)) ?_
  refine g_iadd (n := 348) rfl rfl ?_
  refine g_ialdX (j := i + 1) (n := 349) rfl rfl (jn_add i 1) (by omega) (by omega) ?_
  refine g_aloadL (n := 350) rfl rfl rfl rfl ?_
  refine g_iload_n (n := 351) rfl rfl rfl ?_
  refine g_const (n := 352) rfl rfl (s_iconst (v := 2) (by decide)) ?_
  refine g_iadd (n := 353) rfl rfl ?_
  refine g_ialdX (j := i + 2) (n := 354) rfl rfl (jn_add i 2) (by omega) (by omega) ?_
  refine g_aloadL (n := 355) rfl rfl rfl rfl ?_
  refine g_iload_n (n := 356) rfl rfl rfl ?_
  refine g_const (n := 357) rfl rfl (s_iconst (v := 3) (by decide)) ?_
  refine g_iadd (n := 358) rfl rfl ?_
  refine g_ialdX (j := i + 3) (n := 359) rfl rfl (jn_add i 3) (by omega) (by omega) ?_
  refine g_aloadL (n := 360) rfl rfl rfl rfl ?_
  refine g_iload_n (n := 361) rfl rfl rfl ?_
  refine g_const (n := 362) rfl rfl (s_iconst (v := 4) (by decide)) ?_
  refine g_iadd (n := 363) rfl rfl ?_
  refine g_ialdX (j := i + 4) (n := 364) rfl rfl (jn_add i 4) (by omega) (by omega) ?_
  refine g_cI5 (n := 367) rfl rfl rfl rfl mt_X9_promise rfl rfl (r_k z_41) ev ?_
  rintro y M2 ⟨hI2, hA⟩
  refine g_pop (n := 368) rfl rfl ?_
  refine g_goto rfl ?_
  exact K E1 T1 M2 _ _ hI2 (by omega) (by omega)
set_option maxRecDepth 100000 in
theorem lk_5 {xs : List Int32} {i c s : Nat} {E : Value} {T : List SH} {M : Mem} (hi : i + 8 ≤ xs.length) (hx : xs.length ≤ 4096) (hI : INV E T M) (K : ∀ E1 T1 M1 c1 s1, INV E1 T1 M1 → c1 ≤ c + 2 → s1 ≤ s + 25 → Go xs 11 (some .boolean) tabL_law 749 (alL i) [] (hp (zz E1 T1) M1) c1 s1 LawQ) : Go xs 11 (some .boolean) tabL_law 371 (alL i) [] (hp (zz E T) M) c s LawQ := by
  refine g_aload_n (n := 372) rfl rfl rfl ?_
  refine g_aloadL (n := 373) rfl rfl rfl rfl ?_
  refine g_iload_n (n := 374) rfl rfl rfl ?_
  refine g_const (n := 375) rfl rfl (s_iconst (v := 1) (by decide)) ?_
  refine g_iadd (n := 376) rfl rfl ?_
  refine g_ialdX (j := i + 1) (n := 377) rfl rfl (jn_add i 1) (by omega) (by omega) ?_
  refine g_aloadL (n := 378) rfl rfl rfl rfl ?_
  refine g_iload_n (n := 379) rfl rfl rfl ?_
  refine g_const (n := 380) rfl rfl (s_iconst (v := 2) (by decide)) ?_
  refine g_iadd (n := 381) rfl rfl ?_
  refine g_ialdX (j := i + 2) (n := 382) rfl rfl (jn_add i 2) (by omega) (by omega) ?_
  refine g_aloadL (n := 383) rfl rfl rfl rfl ?_
  refine g_iload_n (n := 384) rfl rfl rfl ?_
  refine g_const (n := 385) rfl rfl (s_iconst (v := 3) (by decide)) ?_
  refine g_iadd (n := 386) rfl rfl ?_
  refine g_ialdX (j := i + 3) (n := 387) rfl rfl (jn_add i 3) (by omega) (by omega) ?_
  refine g_cG4 (n := 390) rfl rfl rfl rfl mt_X8_bounds rfl rfl (r_k z_0) (pair_bounds hI) ?_
  rintro v h1 c1 s1 ⟨hc1, hs1, x, E1, T1, M1, rfl, rfl, ev⟩
  refine g_pop (n := 391) rfl rfl ?_
  refine g_aload_n (n := 392) rfl rfl rfl ?_
  refine g_aloadL (n := 393) rfl rfl rfl rfl ?_
  refine g_iload_n (n := 394) rfl rfl rfl ?_
  refine g_const (n := 395) rfl rfl (s_iconst (v := 1) (by decide)) ?_
  refine g_iadd (n := 396) rfl rfl ?_
  refine g_ialdX (j := i + 1) (n := 397) rfl rfl (jn_add i 1) (by omega) (by omega) ?_
  refine g_aloadL (n := 398) rfl rfl rfl rfl ?_
  refine g_iload_n (n := 399) rfl rfl rfl ?_
  refine g_const (n := 400) rfl rfl (s_iconst (v := 2) (by decide)) ?_
  refine g_iadd (n := 401) rfl rfl ?_
  refine g_ialdX (j := i + 2) (n := 402) rfl rfl (jn_add i 2) (by omega) (by omega) ?_
  refine g_aloadL (n := 403) rfl rfl rfl rfl ?_
  refine g_iload_n (n := 404) rfl rfl rfl ?_
  refine g_const (n := 405) rfl rfl (s_iconst (v := 3) (by decide)) ?_
  refine g_iadd (n := 406) rfl rfl ?_
  refine g_ialdX (j := i + 3) (n := 407) rfl rfl (jn_add i 3) (by omega) (by omega) ?_
  refine g_cI4 (n := 410) rfl rfl rfl rfl mt_X9_bounds rfl rfl (r_k z_41) ev ?_
  rintro y M2 ⟨hI2, hA⟩
  refine g_pop (n := 411) rfl rfl ?_
  refine g_goto rfl ?_
  exact K E1 T1 M2 _ _ hI2 (by omega) (by omega)
set_option maxRecDepth 100000 in
theorem lk_6 {xs : List Int32} {i c s : Nat} {E : Value} {T : List SH} {M : Mem} (hi : i + 8 ≤ xs.length) (hx : xs.length ≤ 4096) (hI : INV E T M) (K : ∀ E1 T1 M1 c1 s1, INV E1 T1 M1 → c1 ≤ c + 2 → s1 ≤ s + 25 → Go xs 11 (some .boolean) tabL_law 749 (alL i) [] (hp (zz E1 T1) M1) c1 s1 LawQ) : Go xs 11 (some .boolean) tabL_law 414 (alL i) [] (hp (zz E T) M) c s LawQ := by
  refine g_aload_n (n := 415) rfl rfl rfl ?_
  refine g_aloadL (n := 416) rfl rfl rfl rfl ?_
  refine g_iload_n (n := 417) rfl rfl rfl ?_
  refine g_const (n := 418) rfl rfl (s_iconst (v := 1) (by decide)) ?_
  refine g_iadd (n := 419) rfl rfl ?_
  refine g_ialdX (j := i + 1) (n := 420) rfl rfl (jn_add i 1) (by omega) (by omega) ?_
  refine g_cG2 (n := 423) rfl rfl rfl rfl mt_X8_blow rfl rfl (r_k z_0) (pair_blow hI) ?_
  rintro v h1 c1 s1 ⟨hc1, hs1, x, E1, T1, M1, rfl, rfl, ev⟩
  refine g_pop (n := 424) rfl rfl ?_
  refine g_aload_n (n := 425) rfl rfl rfl ?_
  refine g_aloadL (n := 426) rfl rfl rfl rfl ?_
  refine g_iload_n (n := 427) rfl rfl rfl ?_
  refine g_const (n := 428) rfl rfl (s_iconst (v := 1) (by decide)) ?_
  refine g_iadd (n := 429) rfl rfl ?_
  refine g_ialdX (j := i + 1) (n := 430) rfl rfl (jn_add i 1) (by omega) (by omega) ?_
  refine g_cI2 (n := 433) rfl rfl rfl rfl mt_X9_blow rfl rfl (r_k z_41) ev ?_
  rintro y M2 ⟨hI2, hA⟩
  refine g_pop (n := 434) rfl rfl ?_
  refine g_goto rfl ?_
  exact K E1 T1 M2 _ _ hI2 (by omega) (by omega)
set_option maxRecDepth 100000 in
theorem lk_7 {xs : List Int32} {i c s : Nat} {E : Value} {T : List SH} {M : Mem} (hi : i + 8 ≤ xs.length) (hx : xs.length ≤ 4096) (hI : INV E T M) (K : ∀ E1 T1 M1 c1 s1, INV E1 T1 M1 → c1 ≤ c + 2 → s1 ≤ s + 25 → Go xs 11 (some .boolean) tabL_law 749 (alL i) [] (hp (zz E1 T1) M1) c1 s1 LawQ) : Go xs 11 (some .boolean) tabL_law 437 (alL i) [] (hp (zz E T) M) c s LawQ := by
  refine g_aload_n (n := 438) rfl rfl rfl ?_
  refine g_cG1 (n := 441) rfl rfl rfl rfl mt_X8_clear rfl rfl (r_k z_0) (pair_clear hI) ?_
  rintro v h1 c1 s1 ⟨hc1, hs1, x, E1, T1, M1, rfl, rfl, ev⟩
  refine g_pop (n := 442) rfl rfl ?_
  refine g_aload_n (n := 443) rfl rfl rfl ?_
  refine g_cI1 (n := 446) rfl rfl rfl rfl mt_X9_clear rfl rfl (r_k z_41) ev ?_
  rintro y M2 ⟨hI2, hA⟩
  refine g_pop (n := 447) rfl rfl ?_
  refine g_goto rfl ?_
  exact K E1 T1 M2 _ _ hI2 (by omega) (by omega)
set_option maxRecDepth 100000 in
theorem lk_8 {xs : List Int32} {i c s : Nat} {E : Value} {T : List SH} {M : Mem} (hi : i + 8 ≤ xs.length) (hx : xs.length ≤ 4096) (hI : INV E T M) (K : ∀ E1 T1 M1 c1 s1, INV E1 T1 M1 → c1 ≤ c + 2 → s1 ≤ s + 25 → Go xs 11 (some .boolean) tabL_law 749 (alL i) [] (hp (zz E1 T1) M1) c1 s1 LawQ) : Go xs 11 (some .boolean) tabL_law 450 (alL i) [] (hp (zz E T) M) c s LawQ := by
  refine g_aload_n (n := 451) rfl rfl rfl ?_
  refine g_aloadL (n := 452) rfl rfl rfl rfl ?_
  refine g_iload_n (n := 453) rfl rfl rfl ?_
  refine g_const (n := 454) rfl rfl (s_iconst (v := 1) (by decide)) ?_
  refine g_iadd (n := 455) rfl rfl ?_
  refine g_ialdX (j := i + 1) (n := 456) rfl rfl (jn_add i 1) (by omega) (by omega) ?_
  refine g_aloadL (n := 457) rfl rfl rfl rfl ?_
  refine g_iload_n (n := 458) rfl rfl rfl ?_
  refine g_const (n := 459) rfl rfl (s_iconst (v := 2) (by decide)) ?_
  refine g_iadd (n := 460) rfl rfl ?_
  refine g_ialdX (j := i + 2) (n := 461) rfl rfl (jn_add i 2) (by omega) (by omega) ?_
  refine g_cG3 (n := 464) rfl rfl rfl rfl mt_X8_facts rfl rfl (r_k z_0) (pair_facts hI) ?_
  rintro v h1 c1 s1 ⟨hc1, hs1, x, E1, T1, M1, rfl, rfl, ev⟩
  refine g_pop (n := 465) rfl rfl ?_
  refine g_aload_n (n := 466) rfl rfl rfl ?_
  refine g_aloadL (n := 467) rfl rfl rfl rfl ?_
  refine g_iload_n (n := 468) rfl rfl rfl ?_
  refine g_const (n := 469) rfl rfl (s_iconst (v := 1) (by decide)) ?_
  refine g_iadd (n := 470) rfl rfl ?_
  refine g_ialdX (j := i + 1) (n := 471) rfl rfl (jn_add i 1) (by omega) (by omega) ?_
  refine g_aloadL (n := 472) rfl rfl rfl rfl ?_
  refine g_iload_n (n := 473) rfl rfl rfl ?_
  refine g_const (n := 474) rfl rfl (s_iconst (v := 2) (by decide)) ?_
  refine g_iadd (n := 475) rfl rfl ?_
  refine g_ialdX (j := i + 2) (n := 476) rfl rfl (jn_add i 2) (by omega) (by omega) ?_
  refine g_cI3 (n := 479) rfl rfl rfl rfl mt_X9_facts rfl rfl (r_k z_41) ev ?_
  rintro y M2 ⟨hI2, hA⟩
  refine g_pop (n := 480) rfl rfl ?_
  refine g_goto rfl ?_
  exact K E1 T1 M2 _ _ hI2 (by omega) (by omega)
set_option maxRecDepth 100000 in
theorem lk_9 {xs : List Int32} {i c s : Nat} {E : Value} {T : List SH} {M : Mem} (hi : i + 8 ≤ xs.length) (hx : xs.length ≤ 4096) (hI : INV E T M) (K : ∀ E1 T1 M1 c1 s1, INV E1 T1 M1 → c1 ≤ c + 2 → s1 ≤ s + 25 → Go xs 11 (some .boolean) tabL_law 749 (alL i) [] (hp (zz E1 T1) M1) c1 s1 LawQ) : Go xs 11 (some .boolean) tabL_law 483 (alL i) [] (hp (zz E T) M) c s LawQ := by
  refine g_aload_n (n := 484) rfl rfl rfl ?_
  refine g_aloadL (n := 485) rfl rfl rfl rfl ?_
  refine g_iload_n (n := 486) rfl rfl rfl ?_
  refine g_const (n := 487) rfl rfl (s_iconst (v := 1) (by decide)) ?_
  refine g_iadd (n := 488) rfl rfl ?_
  refine g_ialdX (j := i + 1) (n := 489) rfl rfl (jn_add i 1) (by omega) (by omega) ?_
  refine g_aloadL (n := 490) rfl rfl rfl rfl ?_
  refine g_iload_n (n := 491) rfl rfl rfl ?_
  refine g_const (n := 492) rfl rfl (s_iconst (v := 2) (by decide)) ?_
  refine g_iadd (n := 493) rfl rfl ?_
  refine g_ialdX (j := i + 2) (n := 494) rfl rfl (jn_add i 2) (by omega) (by omega) ?_
  refine g_aloadL (n := 495) rfl rfl rfl rfl ?_
  refine g_iload_n (n := 496) rfl rfl rfl ?_
  refine g_const (n := 497) rfl rfl (s_iconst (v := 3) (by decide)) ?_
  refine g_iadd (n := 498) rfl rfl ?_
  refine g_ialdX (j := i + 3) (n := 499) rfl rfl (jn_add i 3) (by omega) (by omega) ?_
  refine g_cG4 (n := 502) rfl rfl rfl rfl mt_X8_letters rfl rfl (r_k z_0) (pair_letters hI) ?_
  rintro v h1 c1 s1 ⟨hc1, hs1, x, E1, T1, M1, rfl, rfl, ev⟩
  refine g_pop (n := 503) rfl rfl ?_
  refine g_aload_n (n := 504) rfl rfl rfl ?_
  refine g_aloadL (n := 505) rfl rfl rfl rfl ?_
  refine g_iload_n (n := 506) rfl rfl rfl ?_
  refine g_const (n := 507) rfl rfl (s_iconst (v := 1) (by decide)) ?_
  refine g_iadd (n := 508) rfl rfl ?_
  refine g_ialdX (j := i + 1) (n := 509) rfl rfl (jn_add i 1) (by omega) (by omega) ?_
  refine g_aloadL (n := 510) rfl rfl rfl rfl ?_
  refine g_iload_n (n := 511) rfl rfl rfl ?_
  refine g_const (n := 512) rfl rfl (s_iconst (v := 2) (by decide)) ?_
  refine g_iadd (n := 513) rfl rfl ?_
  refine g_ialdX (j := i + 2) (n := 514) rfl rfl (jn_add i 2) (by omega) (by omega) ?_
  refine g_aloadL (n := 515) rfl rfl rfl rfl ?_
  refine g_iload_n (n := 516) rfl rfl rfl ?_
  refine g_const (n := 517) rfl rfl (s_iconst (v := 3) (by decide)) ?_
  refine g_iadd (n := 518) rfl rfl ?_
  refine g_ialdX (j := i + 3) (n := 519) rfl rfl (jn_add i 3) (by omega) (by omega) ?_
  refine g_cI4 (n := 522) rfl rfl rfl rfl mt_X9_letters rfl rfl (r_k z_41) ev ?_
  rintro y M2 ⟨hI2, hA⟩
  refine g_pop (n := 523) rfl rfl ?_
  refine g_goto rfl ?_
  exact K E1 T1 M2 _ _ hI2 (by omega) (by omega)
set_option maxRecDepth 100000 in
theorem lk_10 {xs : List Int32} {i c s : Nat} {E : Value} {T : List SH} {M : Mem} (hi : i + 8 ≤ xs.length) (hx : xs.length ≤ 4096) (hI : INV E T M) (K : ∀ E1 T1 M1 c1 s1, INV E1 T1 M1 → c1 ≤ c + 2 → s1 ≤ s + 25 → Go xs 11 (some .boolean) tabL_law 749 (alL i) [] (hp (zz E1 T1) M1) c1 s1 LawQ) : Go xs 11 (some .boolean) tabL_law 526 (alL i) [] (hp (zz E T) M) c s LawQ := by
  refine g_aload_n (n := 527) rfl rfl rfl ?_
  refine g_cG1 (n := 530) rfl rfl rfl rfl mt_X8_broken rfl rfl (r_k z_0) (pair_broken hI) ?_
  rintro v h1 c1 s1 ⟨hc1, hs1, x, E1, T1, M1, rfl, rfl, ev⟩
  refine g_pop (n := 531) rfl rfl ?_
  refine g_aload_n (n := 532) rfl rfl rfl ?_
  refine g_cI1 (n := 535) rfl rfl rfl rfl mt_X9_broken rfl rfl (r_k z_41) ev ?_
  rintro y M2 ⟨hI2, hA⟩
  refine g_pop (n := 536) rfl rfl ?_
  refine g_goto rfl ?_
  exact K E1 T1 M2 _ _ hI2 (by omega) (by omega)
set_option maxRecDepth 100000 in
theorem lk_11 {xs : List Int32} {i c s : Nat} {E : Value} {T : List SH} {M : Mem} (hi : i + 8 ≤ xs.length) (hx : xs.length ≤ 4096) (hI : INV E T M) (K : ∀ E1 T1 M1 c1 s1, INV E1 T1 M1 → c1 ≤ c + 2 → s1 ≤ s + 25 → Go xs 11 (some .boolean) tabL_law 749 (alL i) [] (hp (zz E1 T1) M1) c1 s1 LawQ) : Go xs 11 (some .boolean) tabL_law 539 (alL i) [] (hp (zz E T) M) c s LawQ := by
  refine g_aload_n (n := 540) rfl rfl rfl ?_
  refine g_aloadL (n := 541) rfl rfl rfl rfl ?_
  refine g_iload_n (n := 542) rfl rfl rfl ?_
  refine g_const (n := 543) rfl rfl (s_iconst (v := 1) (by decide)) ?_
  refine g_iadd (n := 544) rfl rfl ?_
  refine g_ialdX (j := i + 1) (n := 545) rfl rfl (jn_add i 1) (by omega) (by omega) ?_
  refine g_aloadL (n := 546) rfl rfl rfl rfl ?_
  refine g_iload_n (n := 547) rfl rfl rfl ?_
  refine g_const (n := 548) rfl rfl (s_iconst (v := 2) (by decide)) ?_
  refine g_iadd (n := 549) rfl rfl ?_
  refine g_ialdX (j := i + 2) (n := 550) rfl rfl (jn_add i 2) (by omega) (by omega) ?_
  refine g_aloadL (n := 551) rfl rfl rfl rfl ?_
  refine g_iload_n (n := 552) rfl rfl rfl ?_
  refine g_const (n := 553) rfl rfl (s_iconst (v := 3) (by decide)) ?_
  refine g_iadd (n := 554) rfl rfl ?_
  refine g_ialdX (j := i + 3) (n := 555) rfl rfl (jn_add i 3) (by omega) (by omega) ?_
  refine g_cG4 (n := 558) rfl rfl rfl rfl mt_X8_why rfl rfl (r_k z_0) (pair_why hI) ?_
  rintro v h1 c1 s1 ⟨hc1, hs1, x, E1, T1, M1, rfl, rfl, ev⟩
  refine g_pop (n := 559) rfl rfl ?_
  refine g_aload_n (n := 560) rfl rfl rfl ?_
  refine g_aloadL (n := 561) rfl rfl rfl rfl ?_
  refine g_iload_n (n := 562) rfl rfl rfl ?_
  refine g_const (n := 563) rfl rfl (s_iconst (v := 1) (by decide)) ?_
  refine g_iadd (n := 564) rfl rfl ?_
  refine g_ialdX (j := i + 1) (n := 565) rfl rfl (jn_add i 1) (by omega) (by omega) ?_
  refine g_aloadL (n := 566) rfl rfl rfl rfl ?_
  refine g_iload_n (n := 567) rfl rfl rfl ?_
  refine g_const (n := 568) rfl rfl (s_iconst (v := 2) (by decide)) ?_
  refine g_iadd (n := 569) rfl rfl ?_
  refine g_ialdX (j := i + 2) (n := 570) rfl rfl (jn_add i 2) (by omega) (by omega) ?_
  refine g_aloadL (n := 571) rfl rfl rfl rfl ?_
  refine g_iload_n (n := 572) rfl rfl rfl ?_
  refine g_const (n := 573) rfl rfl (s_iconst (v := 3) (by decide)) ?_
  refine g_iadd (n := 574) rfl rfl ?_
  refine g_ialdX (j := i + 3) (n := 575) rfl rfl (jn_add i 3) (by omega) (by omega) ?_
  refine g_cI4 (n := 578) rfl rfl rfl rfl mt_X9_why rfl rfl (r_k z_41) ev ?_
  rintro y M2 ⟨hI2, hA⟩
  refine g_pop (n := 579) rfl rfl ?_
  refine g_goto rfl ?_
  exact K E1 T1 M2 _ _ hI2 (by omega) (by omega)
set_option maxRecDepth 100000 in
theorem lk_12 {xs : List Int32} {i c s : Nat} {E : Value} {T : List SH} {M : Mem} (hi : i + 8 ≤ xs.length) (hx : xs.length ≤ 4096) (hI : INV E T M) (K : ∀ E1 T1 M1 c1 s1, INV E1 T1 M1 → c1 ≤ c + 2 → s1 ≤ s + 25 → Go xs 11 (some .boolean) tabL_law 749 (alL i) [] (hp (zz E1 T1) M1) c1 s1 LawQ) : Go xs 11 (some .boolean) tabL_law 582 (alL i) [] (hp (zz E T) M) c s LawQ := by
  refine g_aload_n (n := 583) rfl rfl rfl ?_
  refine g_aloadL (n := 584) rfl rfl rfl rfl ?_
  refine g_iload_n (n := 585) rfl rfl rfl ?_
  refine g_const (n := 586) rfl rfl (s_iconst (v := 1) (by decide)) ?_
  refine g_iadd (n := 587) rfl rfl ?_
  refine g_ialdX (j := i + 1) (n := 588) rfl rfl (jn_add i 1) (by omega) (by omega) ?_
  refine g_cG2 (n := 591) rfl rfl rfl rfl mt_X8_layer rfl rfl (r_k z_0) (pair_layer hI) ?_
  rintro v h1 c1 s1 ⟨hc1, hs1, x, E1, T1, M1, rfl, rfl, ev⟩
  refine g_pop (n := 592) rfl rfl ?_
  refine g_aload_n (n := 593) rfl rfl rfl ?_
  refine g_aloadL (n := 594) rfl rfl rfl rfl ?_
  refine g_iload_n (n := 595) rfl rfl rfl ?_
  refine g_const (n := 596) rfl rfl (s_iconst (v := 1) (by decide)) ?_
  refine g_iadd (n := 597) rfl rfl ?_
  refine g_ialdX (j := i + 1) (n := 598) rfl rfl (jn_add i 1) (by omega) (by omega) ?_
  refine g_cI2 (n := 601) rfl rfl rfl rfl mt_X9_layer rfl rfl (r_k z_41) ev ?_
  rintro y M2 ⟨hI2, hA⟩
  refine g_pop (n := 602) rfl rfl ?_
  refine g_goto rfl ?_
  exact K E1 T1 M2 _ _ hI2 (by omega) (by omega)
set_option maxRecDepth 100000 in
theorem lk_13 {xs : List Int32} {i c s : Nat} {E : Value} {T : List SH} {M : Mem} (hi : i + 8 ≤ xs.length) (hx : xs.length ≤ 4096) (hI : INV E T M) (K : ∀ E1 T1 M1 c1 s1, INV E1 T1 M1 → c1 ≤ c + 2 → s1 ≤ s + 25 → Go xs 11 (some .boolean) tabL_law 749 (alL i) [] (hp (zz E1 T1) M1) c1 s1 LawQ) : Go xs 11 (some .boolean) tabL_law 605 (alL i) [] (hp (zz E T) M) c s LawQ := by
  refine g_aload_n (n := 606) rfl rfl rfl ?_
  refine g_cG1 (n := 609) rfl rfl rfl rfl mt_X8_seek rfl rfl (r_k z_0) (pair_seek hI) ?_
  rintro v h1 c1 s1 ⟨hc1, hs1, x, E1, T1, M1, rfl, rfl, ev⟩
  refine g_pop (n := 610) rfl rfl ?_
  refine g_aload_n (n := 611) rfl rfl rfl ?_
  refine g_cI1 (n := 614) rfl rfl rfl rfl mt_X9_seek rfl rfl (r_k z_41) ev ?_
  rintro y M2 ⟨hI2, hA⟩
  refine g_pop (n := 615) rfl rfl ?_
  refine g_goto rfl ?_
  exact K E1 T1 M2 _ _ hI2 (by omega) (by omega)
set_option maxRecDepth 100000 in
theorem lk_14 {xs : List Int32} {i c s : Nat} {E : Value} {T : List SH} {M : Mem} (hi : i + 8 ≤ xs.length) (hx : xs.length ≤ 4096) (hI : INV E T M) (K : ∀ E1 T1 M1 c1 s1, INV E1 T1 M1 → c1 ≤ c + 2 → s1 ≤ s + 25 → Go xs 11 (some .boolean) tabL_law 749 (alL i) [] (hp (zz E1 T1) M1) c1 s1 LawQ) : Go xs 11 (some .boolean) tabL_law 618 (alL i) [] (hp (zz E T) M) c s LawQ := by
  refine g_aload_n (n := 619) rfl rfl rfl ?_
  refine g_aloadL (n := 620) rfl rfl rfl rfl ?_
  refine g_iload_n (n := 621) rfl rfl rfl ?_
  refine g_const (n := 622) rfl rfl (s_iconst (v := 1) (by decide)) ?_
  refine g_iadd (n := 623) rfl rfl ?_
  refine g_ialdX (j := i + 1) (n := 624) rfl rfl (jn_add i 1) (by omega) (by omega) ?_
  refine g_cG2 (n := 627) rfl rfl rfl rfl mt_X8_found rfl rfl (r_k z_0) (pair_found hI) ?_
  rintro v h1 c1 s1 ⟨hc1, hs1, x, E1, T1, M1, rfl, rfl, ev⟩
  refine g_pop (n := 628) rfl rfl ?_
  refine g_aload_n (n := 629) rfl rfl rfl ?_
  refine g_aloadL (n := 630) rfl rfl rfl rfl ?_
  refine g_iload_n (n := 631) rfl rfl rfl ?_
  refine g_const (n := 632) rfl rfl (s_iconst (v := 1) (by decide)) ?_
  refine g_iadd (n := 633) rfl rfl ?_
  refine g_ialdX (j := i + 1) (n := 634) rfl rfl (jn_add i 1) (by omega) (by omega) ?_
  refine g_cI2 (n := 637) rfl rfl rfl rfl mt_X9_found rfl rfl (r_k z_41) ev ?_
  rintro y M2 ⟨hI2, hA⟩
  refine g_pop (n := 638) rfl rfl ?_
  refine g_goto rfl ?_
  exact K E1 T1 M2 _ _ hI2 (by omega) (by omega)
set_option maxRecDepth 100000 in
theorem lk_15 {xs : List Int32} {i c s : Nat} {E : Value} {T : List SH} {M : Mem} (hi : i + 8 ≤ xs.length) (hx : xs.length ≤ 4096) (hI : INV E T M) (K : ∀ E1 T1 M1 c1 s1, INV E1 T1 M1 → c1 ≤ c + 2 → s1 ≤ s + 25 → Go xs 11 (some .boolean) tabL_law 749 (alL i) [] (hp (zz E1 T1) M1) c1 s1 LawQ) : Go xs 11 (some .boolean) tabL_law 641 (alL i) [] (hp (zz E T) M) c s LawQ := by
  refine g_aload_n (n := 642) rfl rfl rfl ?_
  refine g_cG1 (n := 645) rfl rfl rfl rfl mt_X8_sets rfl rfl (r_k z_0) (pair_sets hI) ?_
  rintro v h1 c1 s1 ⟨hc1, hs1, x, E1, T1, M1, rfl, rfl, ev⟩
  refine g_pop (n := 646) rfl rfl ?_
  refine g_aload_n (n := 647) rfl rfl rfl ?_
  refine g_cI1 (n := 650) rfl rfl rfl rfl mt_X9_sets_ rfl rfl (r_k z_41) ev ?_
  rintro y M2 ⟨hI2, hA⟩
  refine g_pop (n := 651) rfl rfl ?_
  refine g_goto rfl ?_
  exact K E1 T1 M2 _ _ hI2 (by omega) (by omega)
set_option maxRecDepth 100000 in
theorem lk_16 {xs : List Int32} {i c s : Nat} {E : Value} {T : List SH} {M : Mem} (hi : i + 8 ≤ xs.length) (hx : xs.length ≤ 4096) (hI : INV E T M) (K : ∀ E1 T1 M1 c1 s1, INV E1 T1 M1 → c1 ≤ c + 2 → s1 ≤ s + 25 → Go xs 11 (some .boolean) tabL_law 749 (alL i) [] (hp (zz E1 T1) M1) c1 s1 LawQ) : Go xs 11 (some .boolean) tabL_law 654 (alL i) [] (hp (zz E T) M) c s LawQ := by
  refine g_aload_n (n := 655) rfl rfl rfl ?_
  refine g_aloadL (n := 656) rfl rfl rfl rfl ?_
  refine g_iload_n (n := 657) rfl rfl rfl ?_
  refine g_const (n := 658) rfl rfl (s_iconst (v := 1) (by decide)) ?_
  refine g_iadd (n := 659) rfl rfl ?_
  refine g_ialdX (j := i + 1) (n := 660) rfl rfl (jn_add i 1) (by omega) (by omega) ?_
  refine g_cG2 (n := 663) rfl rfl rfl rfl mt_X8_weak rfl rfl (r_k z_0) (pair_weak hI) ?_
  rintro v h1 c1 s1 ⟨hc1, hs1, x, E1, T1, M1, rfl, rfl, ev⟩
  refine g_pop (n := 664) rfl rfl ?_
  refine g_aload_n (n := 665) rfl rfl rfl ?_
  refine g_aloadL (n := 666) rfl rfl rfl rfl ?_
  refine g_iload_n (n := 667) rfl rfl rfl ?_
  refine g_const (n := 668) rfl rfl (s_iconst (v := 1) (by decide)) ?_
  refine g_iadd (n := 669) rfl rfl ?_
  refine g_ialdX (j := i + 1) (n := 670) rfl rfl (jn_add i 1) (by omega) (by omega) ?_
  refine g_cI2 (n := 673) rfl rfl rfl rfl mt_X9_weak rfl rfl (r_k z_41) ev ?_
  rintro y M2 ⟨hI2, hA⟩
  refine g_pop (n := 674) rfl rfl ?_
  refine g_goto rfl ?_
  exact K E1 T1 M2 _ _ hI2 (by omega) (by omega)
set_option maxRecDepth 100000 in
theorem lk_17 {xs : List Int32} {i c s : Nat} {E : Value} {T : List SH} {M : Mem} (hi : i + 8 ≤ xs.length) (hx : xs.length ≤ 4096) (hI : INV E T M) (K : ∀ E1 T1 M1 c1 s1, INV E1 T1 M1 → c1 ≤ c + 2 → s1 ≤ s + 25 → Go xs 11 (some .boolean) tabL_law 749 (alL i) [] (hp (zz E1 T1) M1) c1 s1 LawQ) : Go xs 11 (some .boolean) tabL_law 677 (alL i) [] (hp (zz E T) M) c s LawQ := by
  refine g_aload_n (n := 678) rfl rfl rfl ?_
  refine g_cG1 (n := 681) rfl rfl rfl rfl mt_X8_shrink rfl rfl (r_k z_0) (pair_shrink hI) ?_
  rintro v h1 c1 s1 ⟨hc1, hs1, x, E1, T1, M1, rfl, rfl, ev⟩
  refine g_pop (n := 682) rfl rfl ?_
  refine g_aload_n (n := 683) rfl rfl rfl ?_
  refine g_cI1 (n := 686) rfl rfl rfl rfl mt_X9_shrink rfl rfl (r_k z_41) ev ?_
  rintro y M2 ⟨hI2, hA⟩
  refine g_pop (n := 687) rfl rfl ?_
  refine g_goto rfl ?_
  exact K E1 T1 M2 _ _ hI2 (by omega) (by omega)
set_option maxRecDepth 100000 in
theorem lk_18 {xs : List Int32} {i c s : Nat} {E : Value} {T : List SH} {M : Mem} (hi : i + 8 ≤ xs.length) (hx : xs.length ≤ 4096) (hI : INV E T M) (K : ∀ E1 T1 M1 c1 s1, INV E1 T1 M1 → c1 ≤ c + 2 → s1 ≤ s + 25 → Go xs 11 (some .boolean) tabL_law 749 (alL i) [] (hp (zz E1 T1) M1) c1 s1 LawQ) : Go xs 11 (some .boolean) tabL_law 690 (alL i) [] (hp (zz E T) M) c s LawQ := by
  refine g_aload_n (n := 691) rfl rfl rfl ?_
  refine g_cG1 (n := 694) rfl rfl rfl rfl mt_X8_mend rfl rfl (r_k z_0) (pair_mend hI) ?_
  rintro v h1 c1 s1 ⟨hc1, hs1, x, E1, T1, M1, rfl, rfl, ev⟩
  refine g_aload_n (n := 695) rfl rfl rfl ?_
  refine g_cI1 (n := 698) rfl rfl rfl rfl mt_X9_mend rfl rfl (r_k z_41) ev ?_
  rintro y M2 ⟨hI2, hA⟩
  refine g_ieq (n := 701) rfl rfl (fun _ => ?_) (fun hne => absurd hA hne)
  exact K E1 T1 M2 _ _ hI2 (by omega) (by omega)
set_option maxRecDepth 100000 in
theorem lk_19 {xs : List Int32} {i c s : Nat} {E : Value} {T : List SH} {M : Mem} (hi : i + 8 ≤ xs.length) (hx : xs.length ≤ 4096) (hI : INV E T M) (K : ∀ E1 T1 M1 c1 s1, INV E1 T1 M1 → c1 ≤ c + 2 → s1 ≤ s + 25 → Go xs 11 (some .boolean) tabL_law 749 (alL i) [] (hp (zz E1 T1) M1) c1 s1 LawQ) : Go xs 11 (some .boolean) tabL_law 703 (alL i) [] (hp (zz E T) M) c s LawQ := by
  refine g_aload_n (n := 704) rfl rfl rfl ?_
  refine g_aloadL (n := 705) rfl rfl rfl rfl ?_
  refine g_iload_n (n := 706) rfl rfl rfl ?_
  refine g_const (n := 707) rfl rfl (s_iconst (v := 1) (by decide)) ?_
  refine g_iadd (n := 708) rfl rfl ?_
  refine g_ialdX (j := i + 1) (n := 709) rfl rfl (jn_add i 1) (by omega) (by omega) ?_
  refine g_cG2 (n := 712) rfl rfl rfl rfl mt_X8_count rfl rfl (r_k z_0) (pair_count hI) ?_
  rintro v h1 c1 s1 ⟨hc1, hs1, x, E1, T1, M1, rfl, rfl, ev⟩
  refine g_pop (n := 713) rfl rfl ?_
  refine g_aload_n (n := 714) rfl rfl rfl ?_
  refine g_aloadL (n := 715) rfl rfl rfl rfl ?_
  refine g_iload_n (n := 716) rfl rfl rfl ?_
  refine g_const (n := 717) rfl rfl (s_iconst (v := 1) (by decide)) ?_
  refine g_iadd (n := 718) rfl rfl ?_
  refine g_ialdX (j := i + 1) (n := 719) rfl rfl (jn_add i 1) (by omega) (by omega) ?_
  refine g_cI2 (n := 722) rfl rfl rfl rfl mt_X9_count rfl rfl (r_k z_41) ev ?_
  rintro y M2 ⟨hI2, hA⟩
  refine g_pop (n := 723) rfl rfl ?_
  refine g_goto rfl ?_
  exact K E1 T1 M2 _ _ hI2 (by omega) (by omega)
set_option maxRecDepth 100000 in
theorem lk_20 {xs : List Int32} {i c s : Nat} {E : Value} {T : List SH} {M : Mem} (hi : i + 8 ≤ xs.length) (hx : xs.length ≤ 4096) (hI : INV E T M) (K : ∀ E1 T1 M1 c1 s1, INV E1 T1 M1 → c1 ≤ c + 2 → s1 ≤ s + 25 → Go xs 11 (some .boolean) tabL_law 749 (alL i) [] (hp (zz E1 T1) M1) c1 s1 LawQ) : Go xs 11 (some .boolean) tabL_law 726 (alL i) [] (hp (zz E T) M) c s LawQ := by
  refine g_aload_n (n := 727) rfl rfl rfl ?_
  refine g_aloadL (n := 728) rfl rfl rfl rfl ?_
  refine g_iload_n (n := 729) rfl rfl rfl ?_
  refine g_const (n := 730) rfl rfl (s_iconst (v := 1) (by decide)) ?_
  refine g_iadd (n := 731) rfl rfl ?_
  refine g_ialdX (j := i + 1) (n := 732) rfl rfl (jn_add i 1) (by omega) (by omega) ?_
  refine g_cG2 (n := 735) rfl rfl rfl rfl mt_X8_hand rfl rfl (r_k z_0) (pair_hand hI) ?_
  rintro v h1 c1 s1 ⟨hc1, hs1, x, E1, T1, M1, rfl, rfl, ev⟩
  refine g_pop (n := 736) rfl rfl ?_
  refine g_aload_n (n := 737) rfl rfl rfl ?_
  refine g_aloadL (n := 738) rfl rfl rfl rfl ?_
  refine g_iload_n (n := 739) rfl rfl rfl ?_
  refine g_const (n := 740) rfl rfl (s_iconst (v := 1) (by decide)) ?_
  refine g_iadd (n := 741) rfl rfl ?_
  refine g_ialdX (j := i + 1) (n := 742) rfl rfl (jn_add i 1) (by omega) (by omega) ?_
  refine g_cI2 (n := 745) rfl rfl rfl rfl mt_X9_hand rfl rfl (r_k z_41) ev ?_
  rintro y M2 ⟨hI2, hA⟩
  refine g_pop (n := 746) rfl rfl ?_
  refine g_goto rfl ?_
  exact K E1 T1 M2 _ _ hI2 (by omega) (by omega)
set_option maxRecDepth 100000 in
theorem law_loop {xs : List Int32} (hx : xs.length ≤ 4096) : ∀ k, k ≤ xs.length / 8 + 1 → ∀ E T M c s, INV E T M → c ≤ 61 + 2 * k → s ≤ 4137 + 25 * k → Go xs 11 (some .boolean) tabL_law 18 (alL (8 * k)) [] (hp (zz E T) M) c s LawQ := by
  refine loop_up (xs.length / 8 + 1) ?_
  intro k hk ih E T M c s hI hc hs
  refine g_iload_n (n := 19) rfl rfl rfl ?_
  refine g_aloadL (n := 20) rfl rfl rfl rfl ?_
  refine g_alenX (n := 21) rfl rfl ?_
  refine g_const (n := 23) rfl rfl (s_bipush (v := 8) (by decide)) ?_
  refine g_isub (n := 24) rfl rfl ?_
  have e1 : (Int32.ofNat xs.length - 8).toInt = (xs.length : Int) - 8 := by
    rw [Int32.toInt_sub, jn_toInt (by omega), show (8 : Int32).toInt = 8 from rfl, Int.bmod_eq_of_le (by omega) (by omega)]
  refine g_igt (n := 27) rfl rfl (fun h24 => ?_) (fun h24 => ?_)
  · refine g_const (n := 756) rfl rfl (s_iconst (v := 1) (by decide)) ?_
    exact go_ret rfl rfl rfl rfl ⟨rfl, by omega, by omega⟩
  · have g := Int32.le_iff_toInt_le.mp h24
    rw [e1, jn_toInt (by omega)] at g
    have hi : 8 * k + 8 ≤ xs.length := by omega
    have K : ∀ E1 T1 M1 c1 s1, INV E1 T1 M1 → c1 ≤ c + 2 → s1 ≤ s + 25 → Go xs 11 (some .boolean) tabL_law 749 (alL (8 * k)) [] (hp (zz E1 T1) M1) c1 s1 LawQ := by
      intro E1 T1 M1 c1 s1 hI1 hc1 hs1
      refine g_iinc (n := 752) (v := Int32.ofNat (8 * (k + 1))) rfl rfl rfl (jn_add (8 * k) 8) ?_
      refine g_goto rfl ?_
      exact ih (by omega) E1 T1 M1 c1 s1 hI1 (by omega) (by omega)
    refine g_aloadL (n := 28) rfl rfl rfl rfl ?_
    refine g_iload_n (n := 29) rfl rfl rfl ?_
    refine g_ialdX (n := 30) (j := 8 * k) rfl rfl rfl (by omega) (by omega) ?_
    refine g_const (n := 32) rfl rfl (s_bipush (v := 31) (by decide)) ?_
    refine g_iand (n := 33) rfl rfl ?_
    refine g_tsw rfl (by decide) (by decide) (by decide) (fun _ => ?_) (fun j t hj h33 => ?_)
    · refine go_pc (pc2 := 749) rfl ?_
      exact K E T M c s hI (by omega) (by omega)
    · match j, hj, h33 with
      | 0, hj, _ =>
        obtain rfl : (99 : Int) = t := Option.some.inj hj
        exact go_pc (pc2 := 132) rfl (lk_0 hi hx hI K)
      | 1, hj, _ =>
        obtain rfl : (122 : Int) = t := Option.some.inj hj
        exact go_pc (pc2 := 155) rfl (lk_1 hi hx hI K)
      | 2, hj, _ =>
        obtain rfl : (209 : Int) = t := Option.some.inj hj
        exact go_pc (pc2 := 242) rfl (lk_2 hi hx hI K)
      | 3, hj, _ =>
        obtain rfl : (242 : Int) = t := Option.some.inj hj
        exact go_pc (pc2 := 275) rfl (lk_3 hi hx hI K)
      | 4, hj, _ =>
        obtain rfl : (285 : Int) = t := Option.some.inj hj
        exact go_pc (pc2 := 318) rfl (lk_4 hi hx hI K)
      | 5, hj, _ =>
        obtain rfl : (338 : Int) = t := Option.some.inj hj
        exact go_pc (pc2 := 371) rfl (lk_5 hi hx hI K)
      | 6, hj, _ =>
        obtain rfl : (381 : Int) = t := Option.some.inj hj
        exact go_pc (pc2 := 414) rfl (lk_6 hi hx hI K)
      | 7, hj, _ =>
        obtain rfl : (404 : Int) = t := Option.some.inj hj
        exact go_pc (pc2 := 437) rfl (lk_7 hi hx hI K)
      | 8, hj, _ =>
        obtain rfl : (417 : Int) = t := Option.some.inj hj
        exact go_pc (pc2 := 450) rfl (lk_8 hi hx hI K)
      | 9, hj, _ =>
        obtain rfl : (450 : Int) = t := Option.some.inj hj
        exact go_pc (pc2 := 483) rfl (lk_9 hi hx hI K)
      | 10, hj, _ =>
        obtain rfl : (493 : Int) = t := Option.some.inj hj
        exact go_pc (pc2 := 526) rfl (lk_10 hi hx hI K)
      | 11, hj, _ =>
        obtain rfl : (506 : Int) = t := Option.some.inj hj
        exact go_pc (pc2 := 539) rfl (lk_11 hi hx hI K)
      | 12, hj, _ =>
        obtain rfl : (549 : Int) = t := Option.some.inj hj
        exact go_pc (pc2 := 582) rfl (lk_12 hi hx hI K)
      | 13, hj, _ =>
        obtain rfl : (572 : Int) = t := Option.some.inj hj
        exact go_pc (pc2 := 605) rfl (lk_13 hi hx hI K)
      | 14, hj, _ =>
        obtain rfl : (585 : Int) = t := Option.some.inj hj
        exact go_pc (pc2 := 618) rfl (lk_14 hi hx hI K)
      | 15, hj, _ =>
        obtain rfl : (608 : Int) = t := Option.some.inj hj
        exact go_pc (pc2 := 641) rfl (lk_15 hi hx hI K)
      | 16, hj, _ =>
        obtain rfl : (621 : Int) = t := Option.some.inj hj
        exact go_pc (pc2 := 654) rfl (lk_16 hi hx hI K)
      | 17, hj, _ =>
        obtain rfl : (644 : Int) = t := Option.some.inj hj
        exact go_pc (pc2 := 677) rfl (lk_17 hi hx hI K)
      | 18, hj, _ =>
        obtain rfl : (657 : Int) = t := Option.some.inj hj
        exact go_pc (pc2 := 690) rfl (lk_18 hi hx hI K)
      | 19, hj, _ =>
        obtain rfl : (670 : Int) = t := Option.some.inj hj
        exact go_pc (pc2 := 703) rfl (lk_19 hi hx hI K)
      | 20, hj, _ =>
        obtain rfl : (693 : Int) = t := Option.some.inj hj
        exact go_pc (pc2 := 726) rfl (lk_20 hi hx hI K)
      | j + 21, hj, _ => exact absurd hj (by simp)
set_option maxRecDepth 100000 in
theorem law_go {xs : List Int32} (hx : xs.length ≤ 4096) : Go xs 11 (some .boolean) tabL_law 0 [(0, .long 1)] [] [] 0 0 LawQ := by
  refine go_step (pc' := 3) (al' := [(0, .long 1)]) (st' := [.ref 0]) (h' := [aN]) (dc := 1) (ds := 9) rfl rfl ?_
  refine g_dup (n := 4) rfl rfl ?_
  refine g_cG1 (n := 7) rfl rfl rfl rfl mt_X8_init rfl rfl rfl (ev_f ev_new) ?_
  rintro v h1 c1 s1 ⟨rfl, rfl, rfl, rfl⟩
  refine g_astore_n (n := 8) rfl rfl ?_
  refine go_step (pc' := 11) (al' := [(0, .long 1), (1, .ref 0)]) (st' := [.ref 41]) (h' := hC ++ [aO]) (dc := 1) (ds := 33) rfl ?_ ?_
  · show a_snoc hC _ _ = _
    rw [a_snoc_eq]
    rfl
  · refine g_dup (n := 12) rfl rfl ?_
    refine g_cG1 (n := 15) rfl rfl rfl rfl mt_X9_init rfl rfl rfl (ev_f ev_newM) ?_
    rintro v h1 c1 s1 ⟨rfl, rfl, rfl, rfl⟩
    rw [hF_eq]
    refine g_astore_n (n := 16) rfl rfl ?_
    refine g_const (n := 17) rfl rfl (s_iconst (v := 0) (by decide)) ?_
    refine g_istore_n (n := 18) rfl rfl ?_
    exact law_loop hx 0 (by omega) (.long 0) [] M0 _ _ inv_start (by decide) (by decide)
theorem law_ok : lawOK := by
  intro xs hx
  obtain ⟨v, h', c, s, ⟨rfl, hc, hs⟩, K, hK⟩ := law_go hx
  refine ⟨K, h', c, s, ?_, hc, hs⟩
  rw [m_xs xs K 11 (by omega)]
  exact hK K K (Nat.le_refl _) (Nat.le_refl _)
