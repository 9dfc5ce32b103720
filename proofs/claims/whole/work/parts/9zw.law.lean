/-! The law: a case. -/
set_option maxHeartbeats 1000000 in
theorem lwc_state {n : Nat} {Q : XQ} {R : Nat → Nat → Option Nat} {D : KK} {W : Wld} (hJ : JWd W R D) (hok : ∀ j, xok (D 0 j)) (i : Nat) (hi : i + 6 ≤ n) (hn : n ≤ 3072) (kx : ∀ R2 D2 W2, JWd W2 R2 D2 → (∀ j, D2 0 j = D 0 j) → XX (XC 35) 316 Q 1440 [some (.inr (some 0)), some (.inr (some 5)), some (.inr (some 479)), some (.inl (i : Int))] [] (xS n, R2, D2)) : XX (XC 35) 316 Q 192 [some (.inr (some 0)), some (.inr (some 5)), some (.inr (some 479)), some (.inl (i : Int))] [] (xS n, R, D) := by
  obtain ⟨z, R2, D1, D2, W2, x1, x2, hJ2⟩ := b_state (n := n) hJ (D 0 (((i : Int) + 1).toNat)) (hok _) (WI_state hJ.2.2 (hok _))
  have k1 := XC_scr x1
  have k2 := XC_scr x2
  refine xx_aload_n (q := 193) rfl rfl rfl ?_
  refine xx_aload_n (q := 194) rfl rfl rfl ?_
  refine xx_iload_n (q := 195) rfl rfl rfl ?_
  refine xx_iconst (q := 196) rfl rfl (by decide) ?_
  refine xx_iaddR (q := 197) rfl rfl (by omega) (by omega) ?_
  refine xx_saz (q := 198) rfl rfl xS_0 (by omega) (by omega) rfl ?_
  refine xx_callV (q := 201) (As := [_]) (rest := []) rfl rfl rfl (Or.inl rfl) rfl rfl (Nat.le_of_ble_eq_true rfl) xS_5 (XCm x1 rfl) rfl ?_
  refine xx_aload_n (q := 202) rfl rfl rfl ?_
  refine xx_aload_n (q := 203) rfl rfl rfl ?_
  refine xx_iload_n (q := 204) rfl rfl rfl ?_
  refine xx_iconst (q := 205) rfl rfl (by decide) ?_
  refine xx_iaddR (q := 206) rfl rfl (by omega) (by omega) ?_
  refine xx_saz (q := 207) rfl rfl xS_0 (by omega) (by omega) (k1 _) ?_
  refine xx_callV (q := 210) (As := [_]) (rest := [_]) rfl rfl rfl (Or.inl rfl) rfl rfl (Nat.le_of_ble_eq_true rfl) xS_479 (XCm x2 rfl) rfl ?_
  exact xx_icmp_eq (q := 1440) (q2 := 213) rfl rfl rfl (fun _ => kx R2 D2 W2 hJ2 (fun j => (k2 j).trans (k1 j))) (fun h => absurd rfl h)
set_option maxHeartbeats 1000000 in
theorem lwc_canal {n : Nat} {Q : XQ} {R : Nat → Nat → Option Nat} {D : KK} {W : Wld} (hJ : JWd W R D) (hok : ∀ j, xok (D 0 j)) (i : Nat) (hi : i + 6 ≤ n) (hn : n ≤ 3072) (kx : ∀ R2 D2 W2, JWd W2 R2 D2 → (∀ j, D2 0 j = D 0 j) → XX (XC 35) 316 Q 1440 [some (.inr (some 0)), some (.inr (some 5)), some (.inr (some 479)), some (.inl (i : Int))] [] (xS n, R2, D2)) : XX (XC 35) 316 Q 215 [some (.inr (some 0)), some (.inr (some 5)), some (.inr (some 479)), some (.inl (i : Int))] [] (xS n, R, D) := by
  obtain ⟨z, R2, D1, D2, W2, x1, x2, hJ2⟩ := b_canal (n := n) hJ (D 0 (((i : Int) + 1).toNat))
  have k1 := XC_scr x1
  have k2 := XC_scr x2
  refine xx_aload_n (q := 216) rfl rfl rfl ?_
  refine xx_aload_n (q := 217) rfl rfl rfl ?_
  refine xx_iload_n (q := 218) rfl rfl rfl ?_
  refine xx_iconst (q := 219) rfl rfl (by decide) ?_
  refine xx_iaddR (q := 220) rfl rfl (by omega) (by omega) ?_
  refine xx_saz (q := 221) rfl rfl xS_0 (by omega) (by omega) rfl ?_
  refine xx_callV (q := 224) (As := [_]) (rest := []) rfl rfl rfl (Or.inl rfl) rfl rfl (Nat.le_of_ble_eq_true rfl) xS_5 (XCm x1 rfl) rfl ?_
  refine xx_aload_n (q := 225) rfl rfl rfl ?_
  refine xx_aload_n (q := 226) rfl rfl rfl ?_
  refine xx_iload_n (q := 227) rfl rfl rfl ?_
  refine xx_iconst (q := 228) rfl rfl (by decide) ?_
  refine xx_iaddR (q := 229) rfl rfl (by omega) (by omega) ?_
  refine xx_saz (q := 230) rfl rfl xS_0 (by omega) (by omega) (k1 _) ?_
  refine xx_callV (q := 233) (As := [_]) (rest := [_]) rfl rfl rfl (Or.inl rfl) rfl rfl (Nat.le_of_ble_eq_true rfl) xS_479 (XCm x2 rfl) rfl ?_
  exact xx_icmp_eq (q := 1440) (q2 := 236) rfl rfl rfl (fun _ => kx R2 D2 W2 hJ2 (fun j => (k2 j).trans (k1 j))) (fun h => absurd rfl h)
set_option maxHeartbeats 1000000 in
theorem lwc_pool {n : Nat} {Q : XQ} {R : Nat → Nat → Option Nat} {D : KK} {W : Wld} (hJ : JWd W R D) (hok : ∀ j, xok (D 0 j)) (i : Nat) (hi : i + 6 ≤ n) (hn : n ≤ 3072) (kx : ∀ R2 D2 W2, JWd W2 R2 D2 → (∀ j, D2 0 j = D 0 j) → XX (XC 35) 316 Q 1440 [some (.inr (some 0)), some (.inr (some 5)), some (.inr (some 479)), some (.inl (i : Int))] [] (xS n, R2, D2)) : XX (XC 35) 316 Q 238 [some (.inr (some 0)), some (.inr (some 5)), some (.inr (some 479)), some (.inl (i : Int))] [] (xS n, R, D) := by
  obtain ⟨z, R2, D1, D2, W2, x1, x2, hJ2⟩ := b_pool (n := n) hJ (D 0 (((i : Int) + 1).toNat)) (D 0 (((i : Int) + 2).toNat)) (WI_pool hJ.2.2 (D 0 (((i : Int) + 1).toNat)) (D 0 (((i : Int) + 2).toNat)))
  have k1 := XC_scr x1
  have k2 := XC_scr x2
  refine xx_aload_n (q := 239) rfl rfl rfl ?_
  refine xx_aload_n (q := 240) rfl rfl rfl ?_
  refine xx_iload_n (q := 241) rfl rfl rfl ?_
  refine xx_iconst (q := 242) rfl rfl (by decide) ?_
  refine xx_iaddR (q := 243) rfl rfl (by omega) (by omega) ?_
  refine xx_saz (q := 244) rfl rfl xS_0 (by omega) (by omega) rfl ?_
  refine xx_aload_n (q := 245) rfl rfl rfl ?_
  refine xx_iload_n (q := 246) rfl rfl rfl ?_
  refine xx_iconst (q := 247) rfl rfl (by decide) ?_
  refine xx_iaddR (q := 248) rfl rfl (by omega) (by omega) ?_
  refine xx_saz (q := 249) rfl rfl xS_0 (by omega) (by omega) rfl ?_
  refine xx_callV (q := 252) (As := [_, _]) (rest := []) rfl rfl rfl (Or.inl rfl) rfl rfl (Nat.le_of_ble_eq_true rfl) xS_5 (XCm x1 rfl) rfl ?_
  refine xx_aload_n (q := 253) rfl rfl rfl ?_
  refine xx_aload_n (q := 254) rfl rfl rfl ?_
  refine xx_iload_n (q := 255) rfl rfl rfl ?_
  refine xx_iconst (q := 256) rfl rfl (by decide) ?_
  refine xx_iaddR (q := 257) rfl rfl (by omega) (by omega) ?_
  refine xx_saz (q := 258) rfl rfl xS_0 (by omega) (by omega) (k1 _) ?_
  refine xx_aload_n (q := 259) rfl rfl rfl ?_
  refine xx_iload_n (q := 260) rfl rfl rfl ?_
  refine xx_iconst (q := 261) rfl rfl (by decide) ?_
  refine xx_iaddR (q := 262) rfl rfl (by omega) (by omega) ?_
  refine xx_saz (q := 263) rfl rfl xS_0 (by omega) (by omega) (k1 _) ?_
  refine xx_callV (q := 266) (As := [_, _]) (rest := [_]) rfl rfl rfl (Or.inl rfl) rfl rfl (Nat.le_of_ble_eq_true rfl) xS_479 (XCm x2 rfl) rfl ?_
  exact xx_icmp_eq (q := 1440) (q2 := 269) rfl rfl rfl (fun _ => kx R2 D2 W2 hJ2 (fun j => (k2 j).trans (k1 j))) (fun h => absurd rfl h)
set_option maxHeartbeats 1000000 in
theorem lwc_lock {n : Nat} {Q : XQ} {R : Nat → Nat → Option Nat} {D : KK} {W : Wld} (hJ : JWd W R D) (hok : ∀ j, xok (D 0 j)) (i : Nat) (hi : i + 6 ≤ n) (hn : n ≤ 3072) (kx : ∀ R2 D2 W2, JWd W2 R2 D2 → (∀ j, D2 0 j = D 0 j) → XX (XC 35) 316 Q 1440 [some (.inr (some 0)), some (.inr (some 5)), some (.inr (some 479)), some (.inl (i : Int))] [] (xS n, R2, D2)) : XX (XC 35) 316 Q 271 [some (.inr (some 0)), some (.inr (some 5)), some (.inr (some 479)), some (.inl (i : Int))] [] (xS n, R, D) := by
  obtain ⟨z, R2, D1, D2, W2, x1, x2, hJ2⟩ := b_lock (n := n) hJ (D 0 (((i : Int) + 1).toNat)) (D 0 (((i : Int) + 2).toNat)) (D 0 (((i : Int) + 3).toNat)) (WI_lock hJ.2.2 (D 0 (((i : Int) + 1).toNat)) (D 0 (((i : Int) + 2).toNat)) (D 0 (((i : Int) + 3).toNat)))
  have k1 := XC_scr x1
  have k2 := XC_scr x2
  refine xx_aload_n (q := 272) rfl rfl rfl ?_
  refine xx_aload_n (q := 273) rfl rfl rfl ?_
  refine xx_iload_n (q := 274) rfl rfl rfl ?_
  refine xx_iconst (q := 275) rfl rfl (by decide) ?_
  refine xx_iaddR (q := 276) rfl rfl (by omega) (by omega) ?_
  refine xx_saz (q := 277) rfl rfl xS_0 (by omega) (by omega) rfl ?_
  refine xx_aload_n (q := 278) rfl rfl rfl ?_
  refine xx_iload_n (q := 279) rfl rfl rfl ?_
  refine xx_iconst (q := 280) rfl rfl (by decide) ?_
  refine xx_iaddR (q := 281) rfl rfl (by omega) (by omega) ?_
  refine xx_saz (q := 282) rfl rfl xS_0 (by omega) (by omega) rfl ?_
  refine xx_aload_n (q := 283) rfl rfl rfl ?_
  refine xx_iload_n (q := 284) rfl rfl rfl ?_
  refine xx_iconst (q := 285) rfl rfl (by decide) ?_
  refine xx_iaddR (q := 286) rfl rfl (by omega) (by omega) ?_
  refine xx_saz (q := 287) rfl rfl xS_0 (by omega) (by omega) rfl ?_
  refine xx_callV (q := 290) (As := [_, _, _]) (rest := []) rfl rfl rfl (Or.inl rfl) rfl rfl (Nat.le_of_ble_eq_true rfl) xS_5 (XCm x1 rfl) rfl ?_
  refine xx_aload_n (q := 291) rfl rfl rfl ?_
  refine xx_aload_n (q := 292) rfl rfl rfl ?_
  refine xx_iload_n (q := 293) rfl rfl rfl ?_
  refine xx_iconst (q := 294) rfl rfl (by decide) ?_
  refine xx_iaddR (q := 295) rfl rfl (by omega) (by omega) ?_
  refine xx_saz (q := 296) rfl rfl xS_0 (by omega) (by omega) (k1 _) ?_
  refine xx_aload_n (q := 297) rfl rfl rfl ?_
  refine xx_iload_n (q := 298) rfl rfl rfl ?_
  refine xx_iconst (q := 299) rfl rfl (by decide) ?_
  refine xx_iaddR (q := 300) rfl rfl (by omega) (by omega) ?_
  refine xx_saz (q := 301) rfl rfl xS_0 (by omega) (by omega) (k1 _) ?_
  refine xx_aload_n (q := 302) rfl rfl rfl ?_
  refine xx_iload_n (q := 303) rfl rfl rfl ?_
  refine xx_iconst (q := 304) rfl rfl (by decide) ?_
  refine xx_iaddR (q := 305) rfl rfl (by omega) (by omega) ?_
  refine xx_saz (q := 306) rfl rfl xS_0 (by omega) (by omega) (k1 _) ?_
  refine xx_callV (q := 309) (As := [_, _, _]) (rest := [_]) rfl rfl rfl (Or.inl rfl) rfl rfl (Nat.le_of_ble_eq_true rfl) xS_479 (XCm x2 rfl) rfl ?_
  exact xx_icmp_eq (q := 1440) (q2 := 312) rfl rfl rfl (fun _ => kx R2 D2 W2 hJ2 (fun j => (k2 j).trans (k1 j))) (fun h => absurd rfl h)
set_option maxHeartbeats 1000000 in
theorem lwc_boat {n : Nat} {Q : XQ} {R : Nat → Nat → Option Nat} {D : KK} {W : Wld} (hJ : JWd W R D) (hok : ∀ j, xok (D 0 j)) (i : Nat) (hi : i + 6 ≤ n) (hn : n ≤ 3072) (kx : ∀ R2 D2 W2, JWd W2 R2 D2 → (∀ j, D2 0 j = D 0 j) → XX (XC 35) 316 Q 1440 [some (.inr (some 0)), some (.inr (some 5)), some (.inr (some 479)), some (.inl (i : Int))] [] (xS n, R2, D2)) : XX (XC 35) 316 Q 314 [some (.inr (some 0)), some (.inr (some 5)), some (.inr (some 479)), some (.inl (i : Int))] [] (xS n, R, D) := by
  obtain ⟨z, R2, D1, D2, W2, x1, x2, hJ2⟩ := b_boat (n := n) hJ (D 0 (((i : Int) + 1).toNat)) (D 0 (((i : Int) + 2).toNat)) (D 0 (((i : Int) + 3).toNat)) (WI_boat hJ.2.2 (D 0 (((i : Int) + 1).toNat)) (D 0 (((i : Int) + 2).toNat)) (D 0 (((i : Int) + 3).toNat)))
  have k1 := XC_scr x1
  have k2 := XC_scr x2
  refine xx_aload_n (q := 315) rfl rfl rfl ?_
  refine xx_aload_n (q := 316) rfl rfl rfl ?_
  refine xx_iload_n (q := 317) rfl rfl rfl ?_
  refine xx_iconst (q := 318) rfl rfl (by decide) ?_
  refine xx_iaddR (q := 319) rfl rfl (by omega) (by omega) ?_
  refine xx_saz (q := 320) rfl rfl xS_0 (by omega) (by omega) rfl ?_
  refine xx_aload_n (q := 321) rfl rfl rfl ?_
  refine xx_iload_n (q := 322) rfl rfl rfl ?_
  refine xx_iconst (q := 323) rfl rfl (by decide) ?_
  refine xx_iaddR (q := 324) rfl rfl (by omega) (by omega) ?_
  refine xx_saz (q := 325) rfl rfl xS_0 (by omega) (by omega) rfl ?_
  refine xx_aload_n (q := 326) rfl rfl rfl ?_
  refine xx_iload_n (q := 327) rfl rfl rfl ?_
  refine xx_iconst (q := 328) rfl rfl (by decide) ?_
  refine xx_iaddR (q := 329) rfl rfl (by omega) (by omega) ?_
  refine xx_saz (q := 330) rfl rfl xS_0 (by omega) (by omega) rfl ?_
  refine xx_callV (q := 333) (As := [_, _, _]) (rest := []) rfl rfl rfl (Or.inl rfl) rfl rfl (Nat.le_of_ble_eq_true rfl) xS_5 (XCm x1 rfl) rfl ?_
  refine xx_aload_n (q := 334) rfl rfl rfl ?_
  refine xx_aload_n (q := 335) rfl rfl rfl ?_
  refine xx_iload_n (q := 336) rfl rfl rfl ?_
  refine xx_iconst (q := 337) rfl rfl (by decide) ?_
  refine xx_iaddR (q := 338) rfl rfl (by omega) (by omega) ?_
  refine xx_saz (q := 339) rfl rfl xS_0 (by omega) (by omega) (k1 _) ?_
  refine xx_aload_n (q := 340) rfl rfl rfl ?_
  refine xx_iload_n (q := 341) rfl rfl rfl ?_
  refine xx_iconst (q := 342) rfl rfl (by decide) ?_
  refine xx_iaddR (q := 343) rfl rfl (by omega) (by omega) ?_
  refine xx_saz (q := 344) rfl rfl xS_0 (by omega) (by omega) (k1 _) ?_
  refine xx_aload_n (q := 345) rfl rfl rfl ?_
  refine xx_iload_n (q := 346) rfl rfl rfl ?_
  refine xx_iconst (q := 347) rfl rfl (by decide) ?_
  refine xx_iaddR (q := 348) rfl rfl (by omega) (by omega) ?_
  refine xx_saz (q := 349) rfl rfl xS_0 (by omega) (by omega) (k1 _) ?_
  refine xx_callV (q := 352) (As := [_, _, _]) (rest := [_]) rfl rfl rfl (Or.inl rfl) rfl rfl (Nat.le_of_ble_eq_true rfl) xS_479 (XCm x2 rfl) rfl ?_
  exact xx_icmp_eq (q := 1440) (q2 := 355) rfl rfl rfl (fun _ => kx R2 D2 W2 hJ2 (fun j => (k2 j).trans (k1 j))) (fun h => absurd rfl h)
set_option maxHeartbeats 1000000 in
theorem lwc_load {n : Nat} {Q : XQ} {R : Nat → Nat → Option Nat} {D : KK} {W : Wld} (hJ : JWd W R D) (hok : ∀ j, xok (D 0 j)) (i : Nat) (hi : i + 6 ≤ n) (hn : n ≤ 3072) (kx : ∀ R2 D2 W2, JWd W2 R2 D2 → (∀ j, D2 0 j = D 0 j) → XX (XC 35) 316 Q 1440 [some (.inr (some 0)), some (.inr (some 5)), some (.inr (some 479)), some (.inl (i : Int))] [] (xS n, R2, D2)) : XX (XC 35) 316 Q 357 [some (.inr (some 0)), some (.inr (some 5)), some (.inr (some 479)), some (.inl (i : Int))] [] (xS n, R, D) := by
  obtain ⟨z, R2, D1, D2, W2, x1, x2, hJ2⟩ := b_load (n := n) hJ (D 0 (((i : Int) + 1).toNat)) (D 0 (((i : Int) + 2).toNat)) (D 0 (((i : Int) + 3).toNat)) (WI_load hJ.2.2 (D 0 (((i : Int) + 1).toNat)) (D 0 (((i : Int) + 2).toNat)) (D 0 (((i : Int) + 3).toNat)))
  have k1 := XC_scr x1
  have k2 := XC_scr x2
  refine xx_aload_n (q := 358) rfl rfl rfl ?_
  refine xx_aload_n (q := 359) rfl rfl rfl ?_
  refine xx_iload_n (q := 360) rfl rfl rfl ?_
  refine xx_iconst (q := 361) rfl rfl (by decide) ?_
  refine xx_iaddR (q := 362) rfl rfl (by omega) (by omega) ?_
  refine xx_saz (q := 363) rfl rfl xS_0 (by omega) (by omega) rfl ?_
  refine xx_aload_n (q := 364) rfl rfl rfl ?_
  refine xx_iload_n (q := 365) rfl rfl rfl ?_
  refine xx_iconst (q := 366) rfl rfl (by decide) ?_
  refine xx_iaddR (q := 367) rfl rfl (by omega) (by omega) ?_
  refine xx_saz (q := 368) rfl rfl xS_0 (by omega) (by omega) rfl ?_
  refine xx_aload_n (q := 369) rfl rfl rfl ?_
  refine xx_iload_n (q := 370) rfl rfl rfl ?_
  refine xx_iconst (q := 371) rfl rfl (by decide) ?_
  refine xx_iaddR (q := 372) rfl rfl (by omega) (by omega) ?_
  refine xx_saz (q := 373) rfl rfl xS_0 (by omega) (by omega) rfl ?_
  refine xx_callV (q := 376) (As := [_, _, _]) (rest := []) rfl rfl rfl (Or.inl rfl) rfl rfl (Nat.le_of_ble_eq_true rfl) xS_5 (XCm x1 rfl) rfl ?_
  refine xx_aload_n (q := 377) rfl rfl rfl ?_
  refine xx_aload_n (q := 378) rfl rfl rfl ?_
  refine xx_iload_n (q := 379) rfl rfl rfl ?_
  refine xx_iconst (q := 380) rfl rfl (by decide) ?_
  refine xx_iaddR (q := 381) rfl rfl (by omega) (by omega) ?_
  refine xx_saz (q := 382) rfl rfl xS_0 (by omega) (by omega) (k1 _) ?_
  refine xx_aload_n (q := 383) rfl rfl rfl ?_
  refine xx_iload_n (q := 384) rfl rfl rfl ?_
  refine xx_iconst (q := 385) rfl rfl (by decide) ?_
  refine xx_iaddR (q := 386) rfl rfl (by omega) (by omega) ?_
  refine xx_saz (q := 387) rfl rfl xS_0 (by omega) (by omega) (k1 _) ?_
  refine xx_aload_n (q := 388) rfl rfl rfl ?_
  refine xx_iload_n (q := 389) rfl rfl rfl ?_
  refine xx_iconst (q := 390) rfl rfl (by decide) ?_
  refine xx_iaddR (q := 391) rfl rfl (by omega) (by omega) ?_
  refine xx_saz (q := 392) rfl rfl xS_0 (by omega) (by omega) (k1 _) ?_
  refine xx_callV (q := 395) (As := [_, _, _]) (rest := [_]) rfl rfl rfl (Or.inl rfl) rfl rfl (Nat.le_of_ble_eq_true rfl) xS_479 (XCm x2 rfl) rfl ?_
  exact xx_icmp_eq (q := 1440) (q2 := 398) rfl rfl rfl (fun _ => kx R2 D2 W2 hJ2 (fun j => (k2 j).trans (k1 j))) (fun h => absurd rfl h)
set_option maxHeartbeats 1000000 in
theorem lwc_set {n : Nat} {Q : XQ} {R : Nat → Nat → Option Nat} {D : KK} {W : Wld} (hJ : JWd W R D) (hok : ∀ j, xok (D 0 j)) (i : Nat) (hi : i + 6 ≤ n) (hn : n ≤ 3072) (kx : ∀ R2 D2 W2, JWd W2 R2 D2 → (∀ j, D2 0 j = D 0 j) → XX (XC 35) 316 Q 1440 [some (.inr (some 0)), some (.inr (some 5)), some (.inr (some 479)), some (.inl (i : Int))] [] (xS n, R2, D2)) : XX (XC 35) 316 Q 400 [some (.inr (some 0)), some (.inr (some 5)), some (.inr (some 479)), some (.inl (i : Int))] [] (xS n, R, D) := by
  obtain ⟨z, R2, D1, D2, W2, x1, x2, hJ2⟩ := b_set (n := n) hJ (D 0 (((i : Int) + 1).toNat)) (D 0 (((i : Int) + 2).toNat)) (WI_set hJ.2.2 (D 0 (((i : Int) + 1).toNat)) (D 0 (((i : Int) + 2).toNat)))
  have k1 := XC_scr x1
  have k2 := XC_scr x2
  refine xx_aload_n (q := 401) rfl rfl rfl ?_
  refine xx_aload_n (q := 402) rfl rfl rfl ?_
  refine xx_iload_n (q := 403) rfl rfl rfl ?_
  refine xx_iconst (q := 404) rfl rfl (by decide) ?_
  refine xx_iaddR (q := 405) rfl rfl (by omega) (by omega) ?_
  refine xx_saz (q := 406) rfl rfl xS_0 (by omega) (by omega) rfl ?_
  refine xx_aload_n (q := 407) rfl rfl rfl ?_
  refine xx_iload_n (q := 408) rfl rfl rfl ?_
  refine xx_iconst (q := 409) rfl rfl (by decide) ?_
  refine xx_iaddR (q := 410) rfl rfl (by omega) (by omega) ?_
  refine xx_saz (q := 411) rfl rfl xS_0 (by omega) (by omega) rfl ?_
  refine xx_callV (q := 414) (As := [_, _]) (rest := []) rfl rfl rfl (Or.inl rfl) rfl rfl (Nat.le_of_ble_eq_true rfl) xS_5 (XCm x1 rfl) rfl ?_
  refine xx_aload_n (q := 415) rfl rfl rfl ?_
  refine xx_aload_n (q := 416) rfl rfl rfl ?_
  refine xx_iload_n (q := 417) rfl rfl rfl ?_
  refine xx_iconst (q := 418) rfl rfl (by decide) ?_
  refine xx_iaddR (q := 419) rfl rfl (by omega) (by omega) ?_
  refine xx_saz (q := 420) rfl rfl xS_0 (by omega) (by omega) (k1 _) ?_
  refine xx_aload_n (q := 421) rfl rfl rfl ?_
  refine xx_iload_n (q := 422) rfl rfl rfl ?_
  refine xx_iconst (q := 423) rfl rfl (by decide) ?_
  refine xx_iaddR (q := 424) rfl rfl (by omega) (by omega) ?_
  refine xx_saz (q := 425) rfl rfl xS_0 (by omega) (by omega) (k1 _) ?_
  refine xx_callV (q := 428) (As := [_, _]) (rest := [_]) rfl rfl rfl (Or.inl rfl) rfl rfl (Nat.le_of_ble_eq_true rfl) xS_479 (XCm x2 rfl) rfl ?_
  exact xx_icmp_eq (q := 1440) (q2 := 431) rfl rfl rfl (fun _ => kx R2 D2 W2 hJ2 (fun j => (k2 j).trans (k1 j))) (fun h => absurd rfl h)
set_option maxHeartbeats 1000000 in
theorem lwc_feed {n : Nat} {Q : XQ} {R : Nat → Nat → Option Nat} {D : KK} {W : Wld} (hJ : JWd W R D) (hok : ∀ j, xok (D 0 j)) (i : Nat) (hi : i + 6 ≤ n) (hn : n ≤ 3072) (kx : ∀ R2 D2 W2, JWd W2 R2 D2 → (∀ j, D2 0 j = D 0 j) → XX (XC 35) 316 Q 1440 [some (.inr (some 0)), some (.inr (some 5)), some (.inr (some 479)), some (.inl (i : Int))] [] (xS n, R2, D2)) : XX (XC 35) 316 Q 433 [some (.inr (some 0)), some (.inr (some 5)), some (.inr (some 479)), some (.inl (i : Int))] [] (xS n, R, D) := by
  obtain ⟨z, R2, D1, D2, W2, x1, x2, hJ2⟩ := b_feed (n := n) hJ (D 0 (((i : Int) + 1).toNat)) (D 0 (((i : Int) + 2).toNat)) (D 0 (((i : Int) + 3).toNat)) (D 0 (((i : Int) + 4).toNat)) (D 0 (((i : Int) + 5).toNat))
  have k1 := XC_scr x1
  have k2 := XC_scr x2
  refine xx_aload_n (q := 434) rfl rfl rfl ?_
  refine xx_aload_n (q := 435) rfl rfl rfl ?_
  refine xx_iload_n (q := 436) rfl rfl rfl ?_
  refine xx_iconst (q := 437) rfl rfl (by decide) ?_
  refine xx_iaddR (q := 438) rfl rfl (by omega) (by omega) ?_
  refine xx_saz (q := 439) rfl rfl xS_0 (by omega) (by omega) rfl ?_
  refine xx_aload_n (q := 440) rfl rfl rfl ?_
  refine xx_iload_n (q := 441) rfl rfl rfl ?_
  refine xx_iconst (q := 442) rfl rfl (by decide) ?_
  refine xx_iaddR (q := 443) rfl rfl (by omega) (by omega) ?_
  refine xx_saz (q := 444) rfl rfl xS_0 (by omega) (by omega) rfl ?_
  refine xx_aload_n (q := 445) rfl rfl rfl ?_
  refine xx_iload_n (q := 446) rfl rfl rfl ?_
  refine xx_iconst (q := 447) rfl rfl (by decide) ?_
  refine xx_iaddR (q := 448) rfl rfl (by omega) (by omega) ?_
  refine xx_saz (q := 449) rfl rfl xS_0 (by omega) (by omega) rfl ?_
  refine xx_aload_n (q := 450) rfl rfl rfl ?_
  refine xx_iload_n (q := 451) rfl rfl rfl ?_
  refine xx_iconst (q := 452) rfl rfl (by decide) ?_
  refine xx_iaddR (q := 453) rfl rfl (by omega) (by omega) ?_
  refine xx_saz (q := 454) rfl rfl xS_0 (by omega) (by omega) rfl ?_
  refine xx_aload_n (q := 455) rfl rfl rfl ?_
  refine xx_iload_n (q := 456) rfl rfl rfl ?_
  refine xx_iconst (q := 457) rfl rfl (by decide) ?_
  refine xx_iaddR (q := 458) rfl rfl (by omega) (by omega) ?_
  refine xx_saz (q := 459) rfl rfl xS_0 (by omega) (by omega) rfl ?_
  refine xx_callV (q := 462) (As := [_, _, _, _, _]) (rest := []) rfl rfl rfl (Or.inl rfl) rfl rfl (Nat.le_of_ble_eq_true rfl) xS_5 (XCm x1 rfl) rfl ?_
  refine xx_aload_n (q := 463) rfl rfl rfl ?_
  refine xx_aload_n (q := 464) rfl rfl rfl ?_
  refine xx_iload_n (q := 465) rfl rfl rfl ?_
  refine xx_iconst (q := 466) rfl rfl (by decide) ?_
  refine xx_iaddR (q := 467) rfl rfl (by omega) (by omega) ?_
  refine xx_saz (q := 468) rfl rfl xS_0 (by omega) (by omega) (k1 _) ?_
  refine xx_aload_n (q := 469) rfl rfl rfl ?_
  refine xx_iload_n (q := 470) rfl rfl rfl ?_
  refine xx_iconst (q := 471) rfl rfl (by decide) ?_
  refine xx_iaddR (q := 472) rfl rfl (by omega) (by omega) ?_
  refine xx_saz (q := 473) rfl rfl xS_0 (by omega) (by omega) (k1 _) ?_
  refine xx_aload_n (q := 474) rfl rfl rfl ?_
  refine xx_iload_n (q := 475) rfl rfl rfl ?_
  refine xx_iconst (q := 476) rfl rfl (by decide) ?_
  refine xx_iaddR (q := 477) rfl rfl (by omega) (by omega) ?_
  refine xx_saz (q := 478) rfl rfl xS_0 (by omega) (by omega) (k1 _) ?_
  refine xx_aload_n (q := 479) rfl rfl rfl ?_
  refine xx_iload_n (q := 480) rfl rfl rfl ?_
  refine xx_iconst (q := 481) rfl rfl (by decide) ?_
  refine xx_iaddR (q := 482) rfl rfl (by omega) (by omega) ?_
  refine xx_saz (q := 483) rfl rfl xS_0 (by omega) (by omega) (k1 _) ?_
  refine xx_aload_n (q := 484) rfl rfl rfl ?_
  refine xx_iload_n (q := 485) rfl rfl rfl ?_
  refine xx_iconst (q := 486) rfl rfl (by decide) ?_
  refine xx_iaddR (q := 487) rfl rfl (by omega) (by omega) ?_
  refine xx_saz (q := 488) rfl rfl xS_0 (by omega) (by omega) (k1 _) ?_
  refine xx_callV (q := 491) (As := [_, _, _, _, _]) (rest := [_]) rfl rfl rfl (Or.inl rfl) rfl rfl (Nat.le_of_ble_eq_true rfl) xS_479 (XCm x2 rfl) rfl ?_
  exact xx_icmp_eq (q := 1440) (q2 := 494) rfl rfl rfl (fun _ => kx R2 D2 W2 hJ2 (fun j => (k2 j).trans (k1 j))) (fun h => absurd rfl h)
set_option maxHeartbeats 1000000 in
theorem lwc_end {n : Nat} {Q : XQ} {R : Nat → Nat → Option Nat} {D : KK} {W : Wld} (hJ : JWd W R D) (hok : ∀ j, xok (D 0 j)) (i : Nat) (hi : i + 6 ≤ n) (hn : n ≤ 3072) (kx : ∀ R2 D2 W2, JWd W2 R2 D2 → (∀ j, D2 0 j = D 0 j) → XX (XC 35) 316 Q 1440 [some (.inr (some 0)), some (.inr (some 5)), some (.inr (some 479)), some (.inl (i : Int))] [] (xS n, R2, D2)) : XX (XC 35) 316 Q 496 [some (.inr (some 0)), some (.inr (some 5)), some (.inr (some 479)), some (.inl (i : Int))] [] (xS n, R, D) := by
  obtain ⟨z, R2, D1, D2, W2, x1, x2, hJ2⟩ := b_end (n := n) hJ (D 0 (((i : Int) + 1).toNat))
  have k1 := XC_scr x1
  have k2 := XC_scr x2
  refine xx_aload_n (q := 497) rfl rfl rfl ?_
  refine xx_aload_n (q := 498) rfl rfl rfl ?_
  refine xx_iload_n (q := 499) rfl rfl rfl ?_
  refine xx_iconst (q := 500) rfl rfl (by decide) ?_
  refine xx_iaddR (q := 501) rfl rfl (by omega) (by omega) ?_
  refine xx_saz (q := 502) rfl rfl xS_0 (by omega) (by omega) rfl ?_
  refine xx_callV (q := 505) (As := [_]) (rest := []) rfl rfl rfl (Or.inl rfl) rfl rfl (Nat.le_of_ble_eq_true rfl) xS_5 (XCm x1 rfl) rfl ?_
  refine xx_aload_n (q := 506) rfl rfl rfl ?_
  refine xx_aload_n (q := 507) rfl rfl rfl ?_
  refine xx_iload_n (q := 508) rfl rfl rfl ?_
  refine xx_iconst (q := 509) rfl rfl (by decide) ?_
  refine xx_iaddR (q := 510) rfl rfl (by omega) (by omega) ?_
  refine xx_saz (q := 511) rfl rfl xS_0 (by omega) (by omega) (k1 _) ?_
  refine xx_callV (q := 514) (As := [_]) (rest := [_]) rfl rfl rfl (Or.inl rfl) rfl rfl (Nat.le_of_ble_eq_true rfl) xS_479 (XCm x2 rfl) rfl ?_
  exact xx_icmp_eq (q := 1440) (q2 := 517) rfl rfl rfl (fun _ => kx R2 D2 W2 hJ2 (fun j => (k2 j).trans (k1 j))) (fun h => absurd rfl h)
set_option maxHeartbeats 1000000 in
theorem lwc_text {n : Nat} {Q : XQ} {R : Nat → Nat → Option Nat} {D : KK} {W : Wld} (hJ : JWd W R D) (hok : ∀ j, xok (D 0 j)) (i : Nat) (hi : i + 6 ≤ n) (hn : n ≤ 3072) (kx : ∀ R2 D2 W2, JWd W2 R2 D2 → (∀ j, D2 0 j = D 0 j) → XX (XC 35) 316 Q 1440 [some (.inr (some 0)), some (.inr (some 5)), some (.inr (some 479)), some (.inl (i : Int))] [] (xS n, R2, D2)) : XX (XC 35) 316 Q 519 [some (.inr (some 0)), some (.inr (some 5)), some (.inr (some 479)), some (.inl (i : Int))] [] (xS n, R, D) := by
  obtain ⟨z, R2, D1, D2, W2, x1, x2, hJ2⟩ := b_text (n := n) hJ (D 0 (((i : Int) + 1).toNat))
  have k1 := XC_scr x1
  have k2 := XC_scr x2
  refine xx_aload_n (q := 520) rfl rfl rfl ?_
  refine xx_aload_n (q := 521) rfl rfl rfl ?_
  refine xx_iload_n (q := 522) rfl rfl rfl ?_
  refine xx_iconst (q := 523) rfl rfl (by decide) ?_
  refine xx_iaddR (q := 524) rfl rfl (by omega) (by omega) ?_
  refine xx_saz (q := 525) rfl rfl xS_0 (by omega) (by omega) rfl ?_
  refine xx_callV (q := 528) (As := [_]) (rest := []) rfl rfl rfl (Or.inl rfl) rfl rfl (Nat.le_of_ble_eq_true rfl) xS_5 (XCm x1 rfl) rfl ?_
  refine xx_aload_n (q := 529) rfl rfl rfl ?_
  refine xx_aload_n (q := 530) rfl rfl rfl ?_
  refine xx_iload_n (q := 531) rfl rfl rfl ?_
  refine xx_iconst (q := 532) rfl rfl (by decide) ?_
  refine xx_iaddR (q := 533) rfl rfl (by omega) (by omega) ?_
  refine xx_saz (q := 534) rfl rfl xS_0 (by omega) (by omega) (k1 _) ?_
  refine xx_callV (q := 537) (As := [_]) (rest := [_]) rfl rfl rfl (Or.inl rfl) rfl rfl (Nat.le_of_ble_eq_true rfl) xS_479 (XCm x2 rfl) rfl ?_
  exact xx_icmp_eq (q := 1440) (q2 := 540) rfl rfl rfl (fun _ => kx R2 D2 W2 hJ2 (fun j => (k2 j).trans (k1 j))) (fun h => absurd rfl h)
set_option maxHeartbeats 1000000 in
theorem lwc_fault {n : Nat} {Q : XQ} {R : Nat → Nat → Option Nat} {D : KK} {W : Wld} (hJ : JWd W R D) (hok : ∀ j, xok (D 0 j)) (i : Nat) (hi : i + 6 ≤ n) (hn : n ≤ 3072) (kx : ∀ R2 D2 W2, JWd W2 R2 D2 → (∀ j, D2 0 j = D 0 j) → XX (XC 35) 316 Q 1440 [some (.inr (some 0)), some (.inr (some 5)), some (.inr (some 479)), some (.inl (i : Int))] [] (xS n, R2, D2)) : XX (XC 35) 316 Q 542 [some (.inr (some 0)), some (.inr (some 5)), some (.inr (some 479)), some (.inl (i : Int))] [] (xS n, R, D) := by
  obtain ⟨z, R2, D1, D2, W2, x1, x2, hJ2⟩ := b_fault (n := n) hJ (D 0 (((i : Int) + 1).toNat))
  have k1 := XC_scr x1
  have k2 := XC_scr x2
  refine xx_aload_n (q := 543) rfl rfl rfl ?_
  refine xx_aload_n (q := 544) rfl rfl rfl ?_
  refine xx_iload_n (q := 545) rfl rfl rfl ?_
  refine xx_iconst (q := 546) rfl rfl (by decide) ?_
  refine xx_iaddR (q := 547) rfl rfl (by omega) (by omega) ?_
  refine xx_saz (q := 548) rfl rfl xS_0 (by omega) (by omega) rfl ?_
  refine xx_callV (q := 551) (As := [_]) (rest := []) rfl rfl rfl (Or.inl rfl) rfl rfl (Nat.le_of_ble_eq_true rfl) xS_5 (XCm x1 rfl) rfl ?_
  refine xx_aload_n (q := 552) rfl rfl rfl ?_
  refine xx_aload_n (q := 553) rfl rfl rfl ?_
  refine xx_iload_n (q := 554) rfl rfl rfl ?_
  refine xx_iconst (q := 555) rfl rfl (by decide) ?_
  refine xx_iaddR (q := 556) rfl rfl (by omega) (by omega) ?_
  refine xx_saz (q := 557) rfl rfl xS_0 (by omega) (by omega) (k1 _) ?_
  refine xx_callV (q := 560) (As := [_]) (rest := [_]) rfl rfl rfl (Or.inl rfl) rfl rfl (Nat.le_of_ble_eq_true rfl) xS_479 (XCm x2 rfl) rfl ?_
  exact xx_icmp_eq (q := 1440) (q2 := 563) rfl rfl rfl (fun _ => kx R2 D2 W2 hJ2 (fun j => (k2 j).trans (k1 j))) (fun h => absurd rfl h)
set_option maxHeartbeats 1000000 in
theorem lwc_pass {n : Nat} {Q : XQ} {R : Nat → Nat → Option Nat} {D : KK} {W : Wld} (hJ : JWd W R D) (hok : ∀ j, xok (D 0 j)) (i : Nat) (hi : i + 6 ≤ n) (hn : n ≤ 3072) (kx : ∀ R2 D2 W2, JWd W2 R2 D2 → (∀ j, D2 0 j = D 0 j) → XX (XC 35) 316 Q 1440 [some (.inr (some 0)), some (.inr (some 5)), some (.inr (some 479)), some (.inl (i : Int))] [] (xS n, R2, D2)) : XX (XC 35) 316 Q 565 [some (.inr (some 0)), some (.inr (some 5)), some (.inr (some 479)), some (.inl (i : Int))] [] (xS n, R, D) := by
  rcases Classical.em (D 0 (((i : Int) + 2).toNat) = 0) with hb | hb
  · obtain ⟨z, R2, D1, D2, W2, x1, x2, hJ2⟩ := b_pass (n := n) hJ (D 0 (((i : Int) + 1).toNat)) 0 (D 0 (((i : Int) + 3).toNat)) (WI_pass hJ.2.2 _ (D 0 (((i : Int) + 1).toNat)) 0 (D 0 (((i : Int) + 3).toNat)))
    have k1 := XC_scr x1
    have k2 := XC_scr x2
    refine xx_aload_n (q := 566) rfl rfl rfl ?_
    refine xx_aload_n (q := 567) rfl rfl rfl ?_
    refine xx_iload_n (q := 568) rfl rfl rfl ?_
    refine xx_iconst (q := 569) rfl rfl (by decide) ?_
    refine xx_iaddR (q := 570) rfl rfl (by omega) (by omega) ?_
    refine xx_saz (q := 571) rfl rfl xS_0 (by omega) (by omega) rfl ?_
    refine xx_aload_n (q := 572) rfl rfl rfl ?_
    refine xx_iload_n (q := 573) rfl rfl rfl ?_
    refine xx_iconst (q := 574) rfl rfl (by decide) ?_
    refine xx_iaddR (q := 575) rfl rfl (by omega) (by omega) ?_
    refine xx_saz (q := 576) rfl rfl xS_0 (by omega) (by omega) rfl ?_
    refine xx_if_eq (q := 583) (q2 := 579) rfl rfl rfl (fun _ => ?_) (fun h => absurd hb h)
    refine xx_iconst (q := 584) rfl rfl (by decide) ?_
    refine xx_aload_n (q := 585) rfl rfl rfl ?_
    refine xx_iload_n (q := 586) rfl rfl rfl ?_
    refine xx_iconst (q := 587) rfl rfl (by decide) ?_
    refine xx_iaddR (q := 588) rfl rfl (by omega) (by omega) ?_
    refine xx_saz (q := 589) rfl rfl xS_0 (by omega) (by omega) rfl ?_
    refine xx_callV (q := 592) (As := [_, _, _]) (rest := []) rfl rfl rfl (Or.inl rfl) rfl rfl (Nat.le_of_ble_eq_true rfl) xS_5 (XCm x1 rfl) rfl ?_
    refine xx_aload_n (q := 593) rfl rfl rfl ?_
    refine xx_aload_n (q := 594) rfl rfl rfl ?_
    refine xx_iload_n (q := 595) rfl rfl rfl ?_
    refine xx_iconst (q := 596) rfl rfl (by decide) ?_
    refine xx_iaddR (q := 597) rfl rfl (by omega) (by omega) ?_
    refine xx_saz (q := 598) rfl rfl xS_0 (by omega) (by omega) (k1 _) ?_
    refine xx_aload_n (q := 599) rfl rfl rfl ?_
    refine xx_iload_n (q := 600) rfl rfl rfl ?_
    refine xx_iconst (q := 601) rfl rfl (by decide) ?_
    refine xx_iaddR (q := 602) rfl rfl (by omega) (by omega) ?_
    refine xx_saz (q := 603) rfl rfl xS_0 (by omega) (by omega) (k1 _) ?_
    refine xx_if_eq (q := 610) (q2 := 606) rfl rfl rfl (fun _ => ?_) (fun h => absurd hb h)
    refine xx_iconst (q := 611) rfl rfl (by decide) ?_
    refine xx_aload_n (q := 612) rfl rfl rfl ?_
    refine xx_iload_n (q := 613) rfl rfl rfl ?_
    refine xx_iconst (q := 614) rfl rfl (by decide) ?_
    refine xx_iaddR (q := 615) rfl rfl (by omega) (by omega) ?_
    refine xx_saz (q := 616) rfl rfl xS_0 (by omega) (by omega) (k1 _) ?_
    refine xx_callV (q := 619) (As := [_, _, _]) (rest := [_]) rfl rfl rfl (Or.inl rfl) rfl rfl (Nat.le_of_ble_eq_true rfl) xS_479 (XCm x2 rfl) rfl ?_
    exact xx_icmp_eq (q := 1440) (q2 := 622) rfl rfl rfl (fun _ => kx R2 D2 W2 hJ2 (fun j => (k2 j).trans (k1 j))) (fun h => absurd rfl h)
  · obtain ⟨z, R2, D1, D2, W2, x1, x2, hJ2⟩ := b_pass (n := n) hJ (D 0 (((i : Int) + 1).toNat)) 1 (D 0 (((i : Int) + 3).toNat)) (WI_pass hJ.2.2 _ (D 0 (((i : Int) + 1).toNat)) 1 (D 0 (((i : Int) + 3).toNat)))
    have k1 := XC_scr x1
    have k2 := XC_scr x2
    refine xx_aload_n (q := 566) rfl rfl rfl ?_
    refine xx_aload_n (q := 567) rfl rfl rfl ?_
    refine xx_iload_n (q := 568) rfl rfl rfl ?_
    refine xx_iconst (q := 569) rfl rfl (by decide) ?_
    refine xx_iaddR (q := 570) rfl rfl (by omega) (by omega) ?_
    refine xx_saz (q := 571) rfl rfl xS_0 (by omega) (by omega) rfl ?_
    refine xx_aload_n (q := 572) rfl rfl rfl ?_
    refine xx_iload_n (q := 573) rfl rfl rfl ?_
    refine xx_iconst (q := 574) rfl rfl (by decide) ?_
    refine xx_iaddR (q := 575) rfl rfl (by omega) (by omega) ?_
    refine xx_saz (q := 576) rfl rfl xS_0 (by omega) (by omega) rfl ?_
    refine xx_if_eq (q := 583) (q2 := 579) rfl rfl rfl (fun h => absurd h hb) (fun _ => ?_)
    refine xx_iconst (q := 580) rfl rfl (by decide) ?_
    refine xx_goto (q := 584) rfl rfl ?_
    refine xx_aload_n (q := 585) rfl rfl rfl ?_
    refine xx_iload_n (q := 586) rfl rfl rfl ?_
    refine xx_iconst (q := 587) rfl rfl (by decide) ?_
    refine xx_iaddR (q := 588) rfl rfl (by omega) (by omega) ?_
    refine xx_saz (q := 589) rfl rfl xS_0 (by omega) (by omega) rfl ?_
    refine xx_callV (q := 592) (As := [_, _, _]) (rest := []) rfl rfl rfl (Or.inl rfl) rfl rfl (Nat.le_of_ble_eq_true rfl) xS_5 (XCm x1 rfl) rfl ?_
    refine xx_aload_n (q := 593) rfl rfl rfl ?_
    refine xx_aload_n (q := 594) rfl rfl rfl ?_
    refine xx_iload_n (q := 595) rfl rfl rfl ?_
    refine xx_iconst (q := 596) rfl rfl (by decide) ?_
    refine xx_iaddR (q := 597) rfl rfl (by omega) (by omega) ?_
    refine xx_saz (q := 598) rfl rfl xS_0 (by omega) (by omega) (k1 _) ?_
    refine xx_aload_n (q := 599) rfl rfl rfl ?_
    refine xx_iload_n (q := 600) rfl rfl rfl ?_
    refine xx_iconst (q := 601) rfl rfl (by decide) ?_
    refine xx_iaddR (q := 602) rfl rfl (by omega) (by omega) ?_
    refine xx_saz (q := 603) rfl rfl xS_0 (by omega) (by omega) (k1 _) ?_
    refine xx_if_eq (q := 610) (q2 := 606) rfl rfl rfl (fun h => absurd h hb) (fun _ => ?_)
    refine xx_iconst (q := 607) rfl rfl (by decide) ?_
    refine xx_goto (q := 611) rfl rfl ?_
    refine xx_aload_n (q := 612) rfl rfl rfl ?_
    refine xx_iload_n (q := 613) rfl rfl rfl ?_
    refine xx_iconst (q := 614) rfl rfl (by decide) ?_
    refine xx_iaddR (q := 615) rfl rfl (by omega) (by omega) ?_
    refine xx_saz (q := 616) rfl rfl xS_0 (by omega) (by omega) (k1 _) ?_
    refine xx_callV (q := 619) (As := [_, _, _]) (rest := [_]) rfl rfl rfl (Or.inl rfl) rfl rfl (Nat.le_of_ble_eq_true rfl) xS_479 (XCm x2 rfl) rfl ?_
    exact xx_icmp_eq (q := 1440) (q2 := 622) rfl rfl rfl (fun _ => kx R2 D2 W2 hJ2 (fun j => (k2 j).trans (k1 j))) (fun h => absurd rfl h)
set_option maxHeartbeats 1000000 in
theorem lwc_give {n : Nat} {Q : XQ} {R : Nat → Nat → Option Nat} {D : KK} {W : Wld} (hJ : JWd W R D) (hok : ∀ j, xok (D 0 j)) (i : Nat) (hi : i + 6 ≤ n) (hn : n ≤ 3072) (kx : ∀ R2 D2 W2, JWd W2 R2 D2 → (∀ j, D2 0 j = D 0 j) → XX (XC 35) 316 Q 1440 [some (.inr (some 0)), some (.inr (some 5)), some (.inr (some 479)), some (.inl (i : Int))] [] (xS n, R2, D2)) : XX (XC 35) 316 Q 624 [some (.inr (some 0)), some (.inr (some 5)), some (.inr (some 479)), some (.inl (i : Int))] [] (xS n, R, D) := by
  obtain ⟨z, R2, D1, D2, W2, x1, x2, hJ2⟩ := b_give (n := n) hJ (D 0 (((i : Int) + 1).toNat)) (D 0 (((i : Int) + 2).toNat)) (D 0 (((i : Int) + 3).toNat)) (D 0 (((i : Int) + 4).toNat)) (WI_give hJ.2.2 _ (D 0 (((i : Int) + 1).toNat)) (D 0 (((i : Int) + 2).toNat)) (D 0 (((i : Int) + 3).toNat)) (D 0 (((i : Int) + 4).toNat)))
  have k1 := XC_scr x1
  have k2 := XC_scr x2
  refine xx_aload_n (q := 625) rfl rfl rfl ?_
  refine xx_aload_n (q := 626) rfl rfl rfl ?_
  refine xx_iload_n (q := 627) rfl rfl rfl ?_
  refine xx_iconst (q := 628) rfl rfl (by decide) ?_
  refine xx_iaddR (q := 629) rfl rfl (by omega) (by omega) ?_
  refine xx_saz (q := 630) rfl rfl xS_0 (by omega) (by omega) rfl ?_
  refine xx_aload_n (q := 631) rfl rfl rfl ?_
  refine xx_iload_n (q := 632) rfl rfl rfl ?_
  refine xx_iconst (q := 633) rfl rfl (by decide) ?_
  refine xx_iaddR (q := 634) rfl rfl (by omega) (by omega) ?_
  refine xx_saz (q := 635) rfl rfl xS_0 (by omega) (by omega) rfl ?_
  refine xx_aload_n (q := 636) rfl rfl rfl ?_
  refine xx_iload_n (q := 637) rfl rfl rfl ?_
  refine xx_iconst (q := 638) rfl rfl (by decide) ?_
  refine xx_iaddR (q := 639) rfl rfl (by omega) (by omega) ?_
  refine xx_saz (q := 640) rfl rfl xS_0 (by omega) (by omega) rfl ?_
  refine xx_aload_n (q := 641) rfl rfl rfl ?_
  refine xx_iload_n (q := 642) rfl rfl rfl ?_
  refine xx_iconst (q := 643) rfl rfl (by decide) ?_
  refine xx_iaddR (q := 644) rfl rfl (by omega) (by omega) ?_
  refine xx_saz (q := 645) rfl rfl xS_0 (by omega) (by omega) rfl ?_
  refine xx_callV (q := 648) (As := [_, _, _, _]) (rest := []) rfl rfl rfl (Or.inl rfl) rfl rfl (Nat.le_of_ble_eq_true rfl) xS_5 (XCm x1 rfl) rfl ?_
  refine xx_aload_n (q := 649) rfl rfl rfl ?_
  refine xx_aload_n (q := 650) rfl rfl rfl ?_
  refine xx_iload_n (q := 651) rfl rfl rfl ?_
  refine xx_iconst (q := 652) rfl rfl (by decide) ?_
  refine xx_iaddR (q := 653) rfl rfl (by omega) (by omega) ?_
  refine xx_saz (q := 654) rfl rfl xS_0 (by omega) (by omega) (k1 _) ?_
  refine xx_aload_n (q := 655) rfl rfl rfl ?_
  refine xx_iload_n (q := 656) rfl rfl rfl ?_
  refine xx_iconst (q := 657) rfl rfl (by decide) ?_
  refine xx_iaddR (q := 658) rfl rfl (by omega) (by omega) ?_
  refine xx_saz (q := 659) rfl rfl xS_0 (by omega) (by omega) (k1 _) ?_
  refine xx_aload_n (q := 660) rfl rfl rfl ?_
  refine xx_iload_n (q := 661) rfl rfl rfl ?_
  refine xx_iconst (q := 662) rfl rfl (by decide) ?_
  refine xx_iaddR (q := 663) rfl rfl (by omega) (by omega) ?_
  refine xx_saz (q := 664) rfl rfl xS_0 (by omega) (by omega) (k1 _) ?_
  refine xx_aload_n (q := 665) rfl rfl rfl ?_
  refine xx_iload_n (q := 666) rfl rfl rfl ?_
  refine xx_iconst (q := 667) rfl rfl (by decide) ?_
  refine xx_iaddR (q := 668) rfl rfl (by omega) (by omega) ?_
  refine xx_saz (q := 669) rfl rfl xS_0 (by omega) (by omega) (k1 _) ?_
  refine xx_callV (q := 672) (As := [_, _, _, _]) (rest := [_]) rfl rfl rfl (Or.inl rfl) rfl rfl (Nat.le_of_ble_eq_true rfl) xS_479 (XCm x2 rfl) rfl ?_
  exact xx_icmp_eq (q := 1440) (q2 := 675) rfl rfl rfl (fun _ => kx R2 D2 W2 hJ2 (fun j => (k2 j).trans (k1 j))) (fun h => absurd rfl h)
set_option maxHeartbeats 1000000 in
theorem lwc_pull {n : Nat} {Q : XQ} {R : Nat → Nat → Option Nat} {D : KK} {W : Wld} (hJ : JWd W R D) (hok : ∀ j, xok (D 0 j)) (i : Nat) (hi : i + 6 ≤ n) (hn : n ≤ 3072) (kx : ∀ R2 D2 W2, JWd W2 R2 D2 → (∀ j, D2 0 j = D 0 j) → XX (XC 35) 316 Q 1440 [some (.inr (some 0)), some (.inr (some 5)), some (.inr (some 479)), some (.inl (i : Int))] [] (xS n, R2, D2)) : XX (XC 35) 316 Q 677 [some (.inr (some 0)), some (.inr (some 5)), some (.inr (some 479)), some (.inl (i : Int))] [] (xS n, R, D) := by
  obtain ⟨z, R2, D1, D2, W2, x1, x2, hJ2⟩ := b_pull (n := n) hJ (D 0 (((i : Int) + 1).toNat)) (D 0 (((i : Int) + 2).toNat)) (WI_pull hJ.2.2 (D 0 (((i : Int) + 1).toNat)) (D 0 (((i : Int) + 2).toNat)))
  have k1 := XC_scr x1
  have k2 := XC_scr x2
  refine xx_aload_n (q := 678) rfl rfl rfl ?_
  refine xx_aload_n (q := 679) rfl rfl rfl ?_
  refine xx_iload_n (q := 680) rfl rfl rfl ?_
  refine xx_iconst (q := 681) rfl rfl (by decide) ?_
  refine xx_iaddR (q := 682) rfl rfl (by omega) (by omega) ?_
  refine xx_saz (q := 683) rfl rfl xS_0 (by omega) (by omega) rfl ?_
  refine xx_aload_n (q := 684) rfl rfl rfl ?_
  refine xx_iload_n (q := 685) rfl rfl rfl ?_
  refine xx_iconst (q := 686) rfl rfl (by decide) ?_
  refine xx_iaddR (q := 687) rfl rfl (by omega) (by omega) ?_
  refine xx_saz (q := 688) rfl rfl xS_0 (by omega) (by omega) rfl ?_
  refine xx_callV (q := 691) (As := [_, _]) (rest := []) rfl rfl rfl (Or.inl rfl) rfl rfl (Nat.le_of_ble_eq_true rfl) xS_5 (XCm x1 rfl) rfl ?_
  refine xx_aload_n (q := 692) rfl rfl rfl ?_
  refine xx_aload_n (q := 693) rfl rfl rfl ?_
  refine xx_iload_n (q := 694) rfl rfl rfl ?_
  refine xx_iconst (q := 695) rfl rfl (by decide) ?_
  refine xx_iaddR (q := 696) rfl rfl (by omega) (by omega) ?_
  refine xx_saz (q := 697) rfl rfl xS_0 (by omega) (by omega) (k1 _) ?_
  refine xx_aload_n (q := 698) rfl rfl rfl ?_
  refine xx_iload_n (q := 699) rfl rfl rfl ?_
  refine xx_iconst (q := 700) rfl rfl (by decide) ?_
  refine xx_iaddR (q := 701) rfl rfl (by omega) (by omega) ?_
  refine xx_saz (q := 702) rfl rfl xS_0 (by omega) (by omega) (k1 _) ?_
  refine xx_callV (q := 705) (As := [_, _]) (rest := [_]) rfl rfl rfl (Or.inl rfl) rfl rfl (Nat.le_of_ble_eq_true rfl) xS_479 (XCm x2 rfl) rfl ?_
  exact xx_icmp_eq (q := 1440) (q2 := 708) rfl rfl rfl (fun _ => kx R2 D2 W2 hJ2 (fun j => (k2 j).trans (k1 j))) (fun h => absurd rfl h)
set_option maxHeartbeats 1000000 in
theorem lwc_hours {n : Nat} {Q : XQ} {R : Nat → Nat → Option Nat} {D : KK} {W : Wld} (hJ : JWd W R D) (hok : ∀ j, xok (D 0 j)) (i : Nat) (hi : i + 6 ≤ n) (hn : n ≤ 3072) (kx : ∀ R2 D2 W2, JWd W2 R2 D2 → (∀ j, D2 0 j = D 0 j) → XX (XC 35) 316 Q 1440 [some (.inr (some 0)), some (.inr (some 5)), some (.inr (some 479)), some (.inl (i : Int))] [] (xS n, R2, D2)) : XX (XC 35) 316 Q 710 [some (.inr (some 0)), some (.inr (some 5)), some (.inr (some 479)), some (.inl (i : Int))] [] (xS n, R, D) := by
  obtain ⟨z, R2, D1, D2, W2, x1, x2, hJ2⟩ := b_hours (n := n) hJ (D 0 (((i : Int) + 1).toNat)) (WI_wai (W := W) (W.K, W.b, W.B, W.U) (D 0 (((i : Int) + 1).toNat)) hJ.2.2)
  have k1 := XC_scr x1
  have k2 := XC_scr x2
  refine xx_aload_n (q := 711) rfl rfl rfl ?_
  refine xx_aload_n (q := 712) rfl rfl rfl ?_
  refine xx_iload_n (q := 713) rfl rfl rfl ?_
  refine xx_iconst (q := 714) rfl rfl (by decide) ?_
  refine xx_iaddR (q := 715) rfl rfl (by omega) (by omega) ?_
  refine xx_saz (q := 716) rfl rfl xS_0 (by omega) (by omega) rfl ?_
  refine xx_callV (q := 719) (As := [_]) (rest := []) rfl rfl rfl (Or.inl rfl) rfl rfl (Nat.le_of_ble_eq_true rfl) xS_5 (XCm x1 rfl) rfl ?_
  refine xx_aload_n (q := 720) rfl rfl rfl ?_
  refine xx_aload_n (q := 721) rfl rfl rfl ?_
  refine xx_iload_n (q := 722) rfl rfl rfl ?_
  refine xx_iconst (q := 723) rfl rfl (by decide) ?_
  refine xx_iaddR (q := 724) rfl rfl (by omega) (by omega) ?_
  refine xx_saz (q := 725) rfl rfl xS_0 (by omega) (by omega) (k1 _) ?_
  refine xx_callV (q := 728) (As := [_]) (rest := [_]) rfl rfl rfl (Or.inl rfl) rfl rfl (Nat.le_of_ble_eq_true rfl) xS_479 (XCm x2 rfl) rfl ?_
  exact xx_icmp_eq (q := 1440) (q2 := 731) rfl rfl rfl (fun _ => kx R2 D2 W2 hJ2 (fun j => (k2 j).trans (k1 j))) (fun h => absurd rfl h)
set_option maxHeartbeats 1000000 in
theorem lwc_run {n : Nat} {Q : XQ} {R : Nat → Nat → Option Nat} {D : KK} {W : Wld} (hJ : JWd W R D) (hok : ∀ j, xok (D 0 j)) (i : Nat) (hi : i + 6 ≤ n) (hn : n ≤ 3072) (kx : ∀ R2 D2 W2, JWd W2 R2 D2 → (∀ j, D2 0 j = D 0 j) → XX (XC 35) 316 Q 1440 [some (.inr (some 0)), some (.inr (some 5)), some (.inr (some 479)), some (.inl (i : Int))] [] (xS n, R2, D2)) : XX (XC 35) 316 Q 733 [some (.inr (some 0)), some (.inr (some 5)), some (.inr (some 479)), some (.inl (i : Int))] [] (xS n, R, D) := by
  obtain ⟨z, R2, D1, D2, W2, x1, x2, hJ2⟩ := b_run (n := n) hJ (WI_car (W := W) _ _ W.P (W.K, W.b, W.B, W.U) 0 0 0 hJ.2.2)
  have k1 := XC_scr x1
  have k2 := XC_scr x2
  refine xx_aload_n (q := 734) rfl rfl rfl ?_
  refine xx_callV (q := 737) (As := []) (rest := []) rfl rfl rfl (Or.inl rfl) rfl rfl (Nat.le_of_ble_eq_true rfl) xS_5 (XCm x1 rfl) rfl ?_
  refine xx_aload_n (q := 738) rfl rfl rfl ?_
  refine xx_callV (q := 741) (As := []) (rest := [_]) rfl rfl rfl (Or.inl rfl) rfl rfl (Nat.le_of_ble_eq_true rfl) xS_479 (XCm x2 rfl) rfl ?_
  exact xx_icmp_eq (q := 1440) (q2 := 744) rfl rfl rfl (fun _ => kx R2 D2 W2 hJ2 (fun j => (k2 j).trans (k1 j))) (fun h => absurd rfl h)
set_option maxHeartbeats 1000000 in
theorem lwc_depth {n : Nat} {Q : XQ} {R : Nat → Nat → Option Nat} {D : KK} {W : Wld} (hJ : JWd W R D) (hok : ∀ j, xok (D 0 j)) (i : Nat) (hi : i + 6 ≤ n) (hn : n ≤ 3072) (kx : ∀ R2 D2 W2, JWd W2 R2 D2 → (∀ j, D2 0 j = D 0 j) → XX (XC 35) 316 Q 1440 [some (.inr (some 0)), some (.inr (some 5)), some (.inr (some 479)), some (.inl (i : Int))] [] (xS n, R2, D2)) : XX (XC 35) 316 Q 746 [some (.inr (some 0)), some (.inr (some 5)), some (.inr (some 479)), some (.inl (i : Int))] [] (xS n, R, D) := by
  obtain ⟨z, R2, D1, D2, W2, x1, x2, hJ2⟩ := b_depth (n := n) hJ (D 0 (((i : Int) + 1).toNat))
  have k1 := XC_scr x1
  have k2 := XC_scr x2
  refine xx_aload_n (q := 747) rfl rfl rfl ?_
  refine xx_aload_n (q := 748) rfl rfl rfl ?_
  refine xx_iload_n (q := 749) rfl rfl rfl ?_
  refine xx_iconst (q := 750) rfl rfl (by decide) ?_
  refine xx_iaddR (q := 751) rfl rfl (by omega) (by omega) ?_
  refine xx_saz (q := 752) rfl rfl xS_0 (by omega) (by omega) rfl ?_
  refine xx_callV (q := 755) (As := [_]) (rest := []) rfl rfl rfl (Or.inl rfl) rfl rfl (Nat.le_of_ble_eq_true rfl) xS_5 (XCm x1 rfl) rfl ?_
  refine xx_aload_n (q := 756) rfl rfl rfl ?_
  refine xx_aload_n (q := 757) rfl rfl rfl ?_
  refine xx_iload_n (q := 758) rfl rfl rfl ?_
  refine xx_iconst (q := 759) rfl rfl (by decide) ?_
  refine xx_iaddR (q := 760) rfl rfl (by omega) (by omega) ?_
  refine xx_saz (q := 761) rfl rfl xS_0 (by omega) (by omega) (k1 _) ?_
  refine xx_callV (q := 764) (As := [_]) (rest := [_]) rfl rfl rfl (Or.inl rfl) rfl rfl (Nat.le_of_ble_eq_true rfl) xS_479 (XCm x2 rfl) rfl ?_
  exact xx_icmp_eq (q := 1440) (q2 := 767) rfl rfl rfl (fun _ => kx R2 D2 W2 hJ2 (fun j => (k2 j).trans (k1 j))) (fun h => absurd rfl h)
set_option maxHeartbeats 1000000 in
theorem lwc_at {n : Nat} {Q : XQ} {R : Nat → Nat → Option Nat} {D : KK} {W : Wld} (hJ : JWd W R D) (hok : ∀ j, xok (D 0 j)) (i : Nat) (hi : i + 6 ≤ n) (hn : n ≤ 3072) (kx : ∀ R2 D2 W2, JWd W2 R2 D2 → (∀ j, D2 0 j = D 0 j) → XX (XC 35) 316 Q 1440 [some (.inr (some 0)), some (.inr (some 5)), some (.inr (some 479)), some (.inl (i : Int))] [] (xS n, R2, D2)) : XX (XC 35) 316 Q 769 [some (.inr (some 0)), some (.inr (some 5)), some (.inr (some 479)), some (.inl (i : Int))] [] (xS n, R, D) := by
  obtain ⟨z, R2, D1, D2, W2, x1, x2, hJ2⟩ := b_at (n := n) hJ (D 0 (((i : Int) + 1).toNat)) (D 0 (((i : Int) + 2).toNat))
  have k1 := XC_scr x1
  have k2 := XC_scr x2
  refine xx_aload_n (q := 770) rfl rfl rfl ?_
  refine xx_aload_n (q := 771) rfl rfl rfl ?_
  refine xx_iload_n (q := 772) rfl rfl rfl ?_
  refine xx_iconst (q := 773) rfl rfl (by decide) ?_
  refine xx_iaddR (q := 774) rfl rfl (by omega) (by omega) ?_
  refine xx_saz (q := 775) rfl rfl xS_0 (by omega) (by omega) rfl ?_
  refine xx_aload_n (q := 776) rfl rfl rfl ?_
  refine xx_iload_n (q := 777) rfl rfl rfl ?_
  refine xx_iconst (q := 778) rfl rfl (by decide) ?_
  refine xx_iaddR (q := 779) rfl rfl (by omega) (by omega) ?_
  refine xx_saz (q := 780) rfl rfl xS_0 (by omega) (by omega) rfl ?_
  refine xx_callV (q := 783) (As := [_, _]) (rest := []) rfl rfl rfl (Or.inl rfl) rfl rfl (Nat.le_of_ble_eq_true rfl) xS_5 (XCm x1 rfl) rfl ?_
  refine xx_aload_n (q := 784) rfl rfl rfl ?_
  refine xx_aload_n (q := 785) rfl rfl rfl ?_
  refine xx_iload_n (q := 786) rfl rfl rfl ?_
  refine xx_iconst (q := 787) rfl rfl (by decide) ?_
  refine xx_iaddR (q := 788) rfl rfl (by omega) (by omega) ?_
  refine xx_saz (q := 789) rfl rfl xS_0 (by omega) (by omega) (k1 _) ?_
  refine xx_aload_n (q := 790) rfl rfl rfl ?_
  refine xx_iload_n (q := 791) rfl rfl rfl ?_
  refine xx_iconst (q := 792) rfl rfl (by decide) ?_
  refine xx_iaddR (q := 793) rfl rfl (by omega) (by omega) ?_
  refine xx_saz (q := 794) rfl rfl xS_0 (by omega) (by omega) (k1 _) ?_
  refine xx_callV (q := 797) (As := [_, _]) (rest := [_]) rfl rfl rfl (Or.inl rfl) rfl rfl (Nat.le_of_ble_eq_true rfl) xS_479 (XCm x2 rfl) rfl ?_
  exact xx_icmp_eq (q := 1440) (q2 := 800) rfl rfl rfl (fun _ => kx R2 D2 W2 hJ2 (fun j => (k2 j).trans (k1 j))) (fun h => absurd rfl h)
set_option maxHeartbeats 1000000 in
theorem lwc_of {n : Nat} {Q : XQ} {R : Nat → Nat → Option Nat} {D : KK} {W : Wld} (hJ : JWd W R D) (hok : ∀ j, xok (D 0 j)) (i : Nat) (hi : i + 6 ≤ n) (hn : n ≤ 3072) (kx : ∀ R2 D2 W2, JWd W2 R2 D2 → (∀ j, D2 0 j = D 0 j) → XX (XC 35) 316 Q 1440 [some (.inr (some 0)), some (.inr (some 5)), some (.inr (some 479)), some (.inl (i : Int))] [] (xS n, R2, D2)) : XX (XC 35) 316 Q 802 [some (.inr (some 0)), some (.inr (some 5)), some (.inr (some 479)), some (.inl (i : Int))] [] (xS n, R, D) := by
  obtain ⟨z, R2, D1, D2, W2, x1, x2, hJ2⟩ := b_of (n := n) hJ (D 0 (((i : Int) + 1).toNat)) (D 0 (((i : Int) + 2).toNat))
  have k1 := XC_scr x1
  have k2 := XC_scr x2
  refine xx_aload_n (q := 803) rfl rfl rfl ?_
  refine xx_aload_n (q := 804) rfl rfl rfl ?_
  refine xx_iload_n (q := 805) rfl rfl rfl ?_
  refine xx_iconst (q := 806) rfl rfl (by decide) ?_
  refine xx_iaddR (q := 807) rfl rfl (by omega) (by omega) ?_
  refine xx_saz (q := 808) rfl rfl xS_0 (by omega) (by omega) rfl ?_
  refine xx_aload_n (q := 809) rfl rfl rfl ?_
  refine xx_iload_n (q := 810) rfl rfl rfl ?_
  refine xx_iconst (q := 811) rfl rfl (by decide) ?_
  refine xx_iaddR (q := 812) rfl rfl (by omega) (by omega) ?_
  refine xx_saz (q := 813) rfl rfl xS_0 (by omega) (by omega) rfl ?_
  refine xx_callV (q := 816) (As := [_, _]) (rest := []) rfl rfl rfl (Or.inl rfl) rfl rfl (Nat.le_of_ble_eq_true rfl) xS_5 (XCm x1 rfl) rfl ?_
  refine xx_aload_n (q := 817) rfl rfl rfl ?_
  refine xx_aload_n (q := 818) rfl rfl rfl ?_
  refine xx_iload_n (q := 819) rfl rfl rfl ?_
  refine xx_iconst (q := 820) rfl rfl (by decide) ?_
  refine xx_iaddR (q := 821) rfl rfl (by omega) (by omega) ?_
  refine xx_saz (q := 822) rfl rfl xS_0 (by omega) (by omega) (k1 _) ?_
  refine xx_aload_n (q := 823) rfl rfl rfl ?_
  refine xx_iload_n (q := 824) rfl rfl rfl ?_
  refine xx_iconst (q := 825) rfl rfl (by decide) ?_
  refine xx_iaddR (q := 826) rfl rfl (by omega) (by omega) ?_
  refine xx_saz (q := 827) rfl rfl xS_0 (by omega) (by omega) (k1 _) ?_
  refine xx_callV (q := 830) (As := [_, _]) (rest := [_]) rfl rfl rfl (Or.inl rfl) rfl rfl (Nat.le_of_ble_eq_true rfl) xS_479 (XCm x2 rfl) rfl ?_
  exact xx_icmp_eq (q := 1440) (q2 := 833) rfl rfl rfl (fun _ => kx R2 D2 W2 hJ2 (fun j => (k2 j).trans (k1 j))) (fun h => absurd rfl h)
set_option maxHeartbeats 1000000 in
theorem lwc_book {n : Nat} {Q : XQ} {R : Nat → Nat → Option Nat} {D : KK} {W : Wld} (hJ : JWd W R D) (hok : ∀ j, xok (D 0 j)) (i : Nat) (hi : i + 6 ≤ n) (hn : n ≤ 3072) (kx : ∀ R2 D2 W2, JWd W2 R2 D2 → (∀ j, D2 0 j = D 0 j) → XX (XC 35) 316 Q 1440 [some (.inr (some 0)), some (.inr (some 5)), some (.inr (some 479)), some (.inl (i : Int))] [] (xS n, R2, D2)) : XX (XC 35) 316 Q 835 [some (.inr (some 0)), some (.inr (some 5)), some (.inr (some 479)), some (.inl (i : Int))] [] (xS n, R, D) := by
  obtain ⟨z, R2, D1, D2, W2, x1, x2, hJ2⟩ := b_book (n := n) hJ (D 0 (((i : Int) + 1).toNat)) (D 0 (((i : Int) + 2).toNat))
  have k1 := XC_scr x1
  have k2 := XC_scr x2
  refine xx_aload_n (q := 836) rfl rfl rfl ?_
  refine xx_aload_n (q := 837) rfl rfl rfl ?_
  refine xx_iload_n (q := 838) rfl rfl rfl ?_
  refine xx_iconst (q := 839) rfl rfl (by decide) ?_
  refine xx_iaddR (q := 840) rfl rfl (by omega) (by omega) ?_
  refine xx_saz (q := 841) rfl rfl xS_0 (by omega) (by omega) rfl ?_
  refine xx_aload_n (q := 842) rfl rfl rfl ?_
  refine xx_iload_n (q := 843) rfl rfl rfl ?_
  refine xx_iconst (q := 844) rfl rfl (by decide) ?_
  refine xx_iaddR (q := 845) rfl rfl (by omega) (by omega) ?_
  refine xx_saz (q := 846) rfl rfl xS_0 (by omega) (by omega) rfl ?_
  refine xx_callV (q := 849) (As := [_, _]) (rest := []) rfl rfl rfl (Or.inl rfl) rfl rfl (Nat.le_of_ble_eq_true rfl) xS_5 (XCm x1 rfl) rfl ?_
  refine xx_aload_n (q := 850) rfl rfl rfl ?_
  refine xx_aload_n (q := 851) rfl rfl rfl ?_
  refine xx_iload_n (q := 852) rfl rfl rfl ?_
  refine xx_iconst (q := 853) rfl rfl (by decide) ?_
  refine xx_iaddR (q := 854) rfl rfl (by omega) (by omega) ?_
  refine xx_saz (q := 855) rfl rfl xS_0 (by omega) (by omega) (k1 _) ?_
  refine xx_aload_n (q := 856) rfl rfl rfl ?_
  refine xx_iload_n (q := 857) rfl rfl rfl ?_
  refine xx_iconst (q := 858) rfl rfl (by decide) ?_
  refine xx_iaddR (q := 859) rfl rfl (by omega) (by omega) ?_
  refine xx_saz (q := 860) rfl rfl xS_0 (by omega) (by omega) (k1 _) ?_
  refine xx_callV (q := 863) (As := [_, _]) (rest := [_]) rfl rfl rfl (Or.inl rfl) rfl rfl (Nat.le_of_ble_eq_true rfl) xS_479 (XCm x2 rfl) rfl ?_
  exact xx_icmp_eq (q := 1440) (q2 := 866) rfl rfl rfl (fun _ => kx R2 D2 W2 hJ2 (fun j => (k2 j).trans (k1 j))) (fun h => absurd rfl h)
set_option maxHeartbeats 1000000 in
theorem lwc_far {n : Nat} {Q : XQ} {R : Nat → Nat → Option Nat} {D : KK} {W : Wld} (hJ : JWd W R D) (hok : ∀ j, xok (D 0 j)) (i : Nat) (hi : i + 6 ≤ n) (hn : n ≤ 3072) (kx : ∀ R2 D2 W2, JWd W2 R2 D2 → (∀ j, D2 0 j = D 0 j) → XX (XC 35) 316 Q 1440 [some (.inr (some 0)), some (.inr (some 5)), some (.inr (some 479)), some (.inl (i : Int))] [] (xS n, R2, D2)) : XX (XC 35) 316 Q 868 [some (.inr (some 0)), some (.inr (some 5)), some (.inr (some 479)), some (.inl (i : Int))] [] (xS n, R, D) := by
  rcases Classical.em (D 0 (((i : Int) + 2).toNat) = 0) with hb | hb
  · obtain ⟨z, R2, D1, D2, W2, x1, x2, hJ2⟩ := b_far (n := n) hJ (D 0 (((i : Int) + 1).toNat)) 0 (D 0 (((i : Int) + 3).toNat))
    have k1 := XC_scr x1
    have k2 := XC_scr x2
    refine xx_aload_n (q := 869) rfl rfl rfl ?_
    refine xx_aload_n (q := 870) rfl rfl rfl ?_
    refine xx_iload_n (q := 871) rfl rfl rfl ?_
    refine xx_iconst (q := 872) rfl rfl (by decide) ?_
    refine xx_iaddR (q := 873) rfl rfl (by omega) (by omega) ?_
    refine xx_saz (q := 874) rfl rfl xS_0 (by omega) (by omega) rfl ?_
    refine xx_aload_n (q := 875) rfl rfl rfl ?_
    refine xx_iload_n (q := 876) rfl rfl rfl ?_
    refine xx_iconst (q := 877) rfl rfl (by decide) ?_
    refine xx_iaddR (q := 878) rfl rfl (by omega) (by omega) ?_
    refine xx_saz (q := 879) rfl rfl xS_0 (by omega) (by omega) rfl ?_
    refine xx_if_eq (q := 886) (q2 := 882) rfl rfl rfl (fun _ => ?_) (fun h => absurd hb h)
    refine xx_iconst (q := 887) rfl rfl (by decide) ?_
    refine xx_aload_n (q := 888) rfl rfl rfl ?_
    refine xx_iload_n (q := 889) rfl rfl rfl ?_
    refine xx_iconst (q := 890) rfl rfl (by decide) ?_
    refine xx_iaddR (q := 891) rfl rfl (by omega) (by omega) ?_
    refine xx_saz (q := 892) rfl rfl xS_0 (by omega) (by omega) rfl ?_
    refine xx_callV (q := 895) (As := [_, _, _]) (rest := []) rfl rfl rfl (Or.inl rfl) rfl rfl (Nat.le_of_ble_eq_true rfl) xS_5 (XCm x1 rfl) rfl ?_
    refine xx_aload_n (q := 896) rfl rfl rfl ?_
    refine xx_aload_n (q := 897) rfl rfl rfl ?_
    refine xx_iload_n (q := 898) rfl rfl rfl ?_
    refine xx_iconst (q := 899) rfl rfl (by decide) ?_
    refine xx_iaddR (q := 900) rfl rfl (by omega) (by omega) ?_
    refine xx_saz (q := 901) rfl rfl xS_0 (by omega) (by omega) (k1 _) ?_
    refine xx_aload_n (q := 902) rfl rfl rfl ?_
    refine xx_iload_n (q := 903) rfl rfl rfl ?_
    refine xx_iconst (q := 904) rfl rfl (by decide) ?_
    refine xx_iaddR (q := 905) rfl rfl (by omega) (by omega) ?_
    refine xx_saz (q := 906) rfl rfl xS_0 (by omega) (by omega) (k1 _) ?_
    refine xx_if_eq (q := 913) (q2 := 909) rfl rfl rfl (fun _ => ?_) (fun h => absurd hb h)
    refine xx_iconst (q := 914) rfl rfl (by decide) ?_
    refine xx_aload_n (q := 915) rfl rfl rfl ?_
    refine xx_iload_n (q := 916) rfl rfl rfl ?_
    refine xx_iconst (q := 917) rfl rfl (by decide) ?_
    refine xx_iaddR (q := 918) rfl rfl (by omega) (by omega) ?_
    refine xx_saz (q := 919) rfl rfl xS_0 (by omega) (by omega) (k1 _) ?_
    refine xx_callV (q := 922) (As := [_, _, _]) (rest := [_]) rfl rfl rfl (Or.inl rfl) rfl rfl (Nat.le_of_ble_eq_true rfl) xS_479 (XCm x2 rfl) rfl ?_
    exact xx_icmp_eq (q := 1440) (q2 := 925) rfl rfl rfl (fun _ => kx R2 D2 W2 hJ2 (fun j => (k2 j).trans (k1 j))) (fun h => absurd rfl h)
  · obtain ⟨z, R2, D1, D2, W2, x1, x2, hJ2⟩ := b_far (n := n) hJ (D 0 (((i : Int) + 1).toNat)) 1 (D 0 (((i : Int) + 3).toNat))
    have k1 := XC_scr x1
    have k2 := XC_scr x2
    refine xx_aload_n (q := 869) rfl rfl rfl ?_
    refine xx_aload_n (q := 870) rfl rfl rfl ?_
    refine xx_iload_n (q := 871) rfl rfl rfl ?_
    refine xx_iconst (q := 872) rfl rfl (by decide) ?_
    refine xx_iaddR (q := 873) rfl rfl (by omega) (by omega) ?_
    refine xx_saz (q := 874) rfl rfl xS_0 (by omega) (by omega) rfl ?_
    refine xx_aload_n (q := 875) rfl rfl rfl ?_
    refine xx_iload_n (q := 876) rfl rfl rfl ?_
    refine xx_iconst (q := 877) rfl rfl (by decide) ?_
    refine xx_iaddR (q := 878) rfl rfl (by omega) (by omega) ?_
    refine xx_saz (q := 879) rfl rfl xS_0 (by omega) (by omega) rfl ?_
    refine xx_if_eq (q := 886) (q2 := 882) rfl rfl rfl (fun h => absurd h hb) (fun _ => ?_)
    refine xx_iconst (q := 883) rfl rfl (by decide) ?_
    refine xx_goto (q := 887) rfl rfl ?_
    refine xx_aload_n (q := 888) rfl rfl rfl ?_
    refine xx_iload_n (q := 889) rfl rfl rfl ?_
    refine xx_iconst (q := 890) rfl rfl (by decide) ?_
    refine xx_iaddR (q := 891) rfl rfl (by omega) (by omega) ?_
    refine xx_saz (q := 892) rfl rfl xS_0 (by omega) (by omega) rfl ?_
    refine xx_callV (q := 895) (As := [_, _, _]) (rest := []) rfl rfl rfl (Or.inl rfl) rfl rfl (Nat.le_of_ble_eq_true rfl) xS_5 (XCm x1 rfl) rfl ?_
    refine xx_aload_n (q := 896) rfl rfl rfl ?_
    refine xx_aload_n (q := 897) rfl rfl rfl ?_
    refine xx_iload_n (q := 898) rfl rfl rfl ?_
    refine xx_iconst (q := 899) rfl rfl (by decide) ?_
    refine xx_iaddR (q := 900) rfl rfl (by omega) (by omega) ?_
    refine xx_saz (q := 901) rfl rfl xS_0 (by omega) (by omega) (k1 _) ?_
    refine xx_aload_n (q := 902) rfl rfl rfl ?_
    refine xx_iload_n (q := 903) rfl rfl rfl ?_
    refine xx_iconst (q := 904) rfl rfl (by decide) ?_
    refine xx_iaddR (q := 905) rfl rfl (by omega) (by omega) ?_
    refine xx_saz (q := 906) rfl rfl xS_0 (by omega) (by omega) (k1 _) ?_
    refine xx_if_eq (q := 913) (q2 := 909) rfl rfl rfl (fun h => absurd h hb) (fun _ => ?_)
    refine xx_iconst (q := 910) rfl rfl (by decide) ?_
    refine xx_goto (q := 914) rfl rfl ?_
    refine xx_aload_n (q := 915) rfl rfl rfl ?_
    refine xx_iload_n (q := 916) rfl rfl rfl ?_
    refine xx_iconst (q := 917) rfl rfl (by decide) ?_
    refine xx_iaddR (q := 918) rfl rfl (by omega) (by omega) ?_
    refine xx_saz (q := 919) rfl rfl xS_0 (by omega) (by omega) (k1 _) ?_
    refine xx_callV (q := 922) (As := [_, _, _]) (rest := [_]) rfl rfl rfl (Or.inl rfl) rfl rfl (Nat.le_of_ble_eq_true rfl) xS_479 (XCm x2 rfl) rfl ?_
    exact xx_icmp_eq (q := 1440) (q2 := 925) rfl rfl rfl (fun _ => kx R2 D2 W2 hJ2 (fun j => (k2 j).trans (k1 j))) (fun h => absurd rfl h)
set_option maxHeartbeats 1000000 in
theorem lwc_please {n : Nat} {Q : XQ} {R : Nat → Nat → Option Nat} {D : KK} {W : Wld} (hJ : JWd W R D) (hok : ∀ j, xok (D 0 j)) (i : Nat) (hi : i + 6 ≤ n) (hn : n ≤ 3072) (kx : ∀ R2 D2 W2, JWd W2 R2 D2 → (∀ j, D2 0 j = D 0 j) → XX (XC 35) 316 Q 1440 [some (.inr (some 0)), some (.inr (some 5)), some (.inr (some 479)), some (.inl (i : Int))] [] (xS n, R2, D2)) : XX (XC 35) 316 Q 927 [some (.inr (some 0)), some (.inr (some 5)), some (.inr (some 479)), some (.inl (i : Int))] [] (xS n, R, D) := by
  obtain ⟨z, R2, D1, D2, W2, x1, x2, hJ2⟩ := b_please (n := n) hJ (D 0 (((i : Int) + 1).toNat)) (D 0 (((i : Int) + 2).toNat)) (D 0 (((i : Int) + 3).toNat)) (D 0 (((i : Int) + 4).toNat))
  have k1 := XC_scr x1
  have k2 := XC_scr x2
  refine xx_aload_n (q := 928) rfl rfl rfl ?_
  refine xx_aload_n (q := 929) rfl rfl rfl ?_
  refine xx_iload_n (q := 930) rfl rfl rfl ?_
  refine xx_iconst (q := 931) rfl rfl (by decide) ?_
  refine xx_iaddR (q := 932) rfl rfl (by omega) (by omega) ?_
  refine xx_saz (q := 933) rfl rfl xS_0 (by omega) (by omega) rfl ?_
  refine xx_aload_n (q := 934) rfl rfl rfl ?_
  refine xx_iload_n (q := 935) rfl rfl rfl ?_
  refine xx_iconst (q := 936) rfl rfl (by decide) ?_
  refine xx_iaddR (q := 937) rfl rfl (by omega) (by omega) ?_
  refine xx_saz (q := 938) rfl rfl xS_0 (by omega) (by omega) rfl ?_
  refine xx_aload_n (q := 939) rfl rfl rfl ?_
  refine xx_iload_n (q := 940) rfl rfl rfl ?_
  refine xx_iconst (q := 941) rfl rfl (by decide) ?_
  refine xx_iaddR (q := 942) rfl rfl (by omega) (by omega) ?_
  refine xx_saz (q := 943) rfl rfl xS_0 (by omega) (by omega) rfl ?_
  refine xx_aload_n (q := 944) rfl rfl rfl ?_
  refine xx_iload_n (q := 945) rfl rfl rfl ?_
  refine xx_iconst (q := 946) rfl rfl (by decide) ?_
  refine xx_iaddR (q := 947) rfl rfl (by omega) (by omega) ?_
  refine xx_saz (q := 948) rfl rfl xS_0 (by omega) (by omega) rfl ?_
  refine xx_callV (q := 951) (As := [_, _, _, _]) (rest := []) rfl rfl rfl (Or.inl rfl) rfl rfl (Nat.le_of_ble_eq_true rfl) xS_5 (XCm x1 rfl) rfl ?_
  refine xx_aload_n (q := 952) rfl rfl rfl ?_
  refine xx_aload_n (q := 953) rfl rfl rfl ?_
  refine xx_iload_n (q := 954) rfl rfl rfl ?_
  refine xx_iconst (q := 955) rfl rfl (by decide) ?_
  refine xx_iaddR (q := 956) rfl rfl (by omega) (by omega) ?_
  refine xx_saz (q := 957) rfl rfl xS_0 (by omega) (by omega) (k1 _) ?_
  refine xx_aload_n (q := 958) rfl rfl rfl ?_
  refine xx_iload_n (q := 959) rfl rfl rfl ?_
  refine xx_iconst (q := 960) rfl rfl (by decide) ?_
  refine xx_iaddR (q := 961) rfl rfl (by omega) (by omega) ?_
  refine xx_saz (q := 962) rfl rfl xS_0 (by omega) (by omega) (k1 _) ?_
  refine xx_aload_n (q := 963) rfl rfl rfl ?_
  refine xx_iload_n (q := 964) rfl rfl rfl ?_
  refine xx_iconst (q := 965) rfl rfl (by decide) ?_
  refine xx_iaddR (q := 966) rfl rfl (by omega) (by omega) ?_
  refine xx_saz (q := 967) rfl rfl xS_0 (by omega) (by omega) (k1 _) ?_
  refine xx_aload_n (q := 968) rfl rfl rfl ?_
  refine xx_iload_n (q := 969) rfl rfl rfl ?_
  refine xx_iconst (q := 970) rfl rfl (by decide) ?_
  refine xx_iaddR (q := 971) rfl rfl (by omega) (by omega) ?_
  refine xx_saz (q := 972) rfl rfl xS_0 (by omega) (by omega) (k1 _) ?_
  refine xx_callV (q := 975) (As := [_, _, _, _]) (rest := [_]) rfl rfl rfl (Or.inl rfl) rfl rfl (Nat.le_of_ble_eq_true rfl) xS_479 (XCm x2 rfl) rfl ?_
  exact xx_icmp_eq (q := 1440) (q2 := 978) rfl rfl rfl (fun _ => kx R2 D2 W2 hJ2 (fun j => (k2 j).trans (k1 j))) (fun h => absurd rfl h)
set_option maxHeartbeats 1000000 in
theorem lwc_said {n : Nat} {Q : XQ} {R : Nat → Nat → Option Nat} {D : KK} {W : Wld} (hJ : JWd W R D) (hok : ∀ j, xok (D 0 j)) (i : Nat) (hi : i + 6 ≤ n) (hn : n ≤ 3072) (kx : ∀ R2 D2 W2, JWd W2 R2 D2 → (∀ j, D2 0 j = D 0 j) → XX (XC 35) 316 Q 1440 [some (.inr (some 0)), some (.inr (some 5)), some (.inr (some 479)), some (.inl (i : Int))] [] (xS n, R2, D2)) : XX (XC 35) 316 Q 980 [some (.inr (some 0)), some (.inr (some 5)), some (.inr (some 479)), some (.inl (i : Int))] [] (xS n, R, D) := by
  obtain ⟨z, R2, D1, D2, W2, x1, x2, hJ2⟩ := b_said (n := n) hJ (D 0 (((i : Int) + 1).toNat)) (D 0 (((i : Int) + 2).toNat)) (D 0 (((i : Int) + 3).toNat))
  have k1 := XC_scr x1
  have k2 := XC_scr x2
  refine xx_aload_n (q := 981) rfl rfl rfl ?_
  refine xx_aload_n (q := 982) rfl rfl rfl ?_
  refine xx_iload_n (q := 983) rfl rfl rfl ?_
  refine xx_iconst (q := 984) rfl rfl (by decide) ?_
  refine xx_iaddR (q := 985) rfl rfl (by omega) (by omega) ?_
  refine xx_saz (q := 986) rfl rfl xS_0 (by omega) (by omega) rfl ?_
  refine xx_aload_n (q := 987) rfl rfl rfl ?_
  refine xx_iload_n (q := 988) rfl rfl rfl ?_
  refine xx_iconst (q := 989) rfl rfl (by decide) ?_
  refine xx_iaddR (q := 990) rfl rfl (by omega) (by omega) ?_
  refine xx_saz (q := 991) rfl rfl xS_0 (by omega) (by omega) rfl ?_
  refine xx_aload_n (q := 992) rfl rfl rfl ?_
  refine xx_iload_n (q := 993) rfl rfl rfl ?_
  refine xx_iconst (q := 994) rfl rfl (by decide) ?_
  refine xx_iaddR (q := 995) rfl rfl (by omega) (by omega) ?_
  refine xx_saz (q := 996) rfl rfl xS_0 (by omega) (by omega) rfl ?_
  refine xx_callV (q := 999) (As := [_, _, _]) (rest := []) rfl rfl rfl (Or.inl rfl) rfl rfl (Nat.le_of_ble_eq_true rfl) xS_5 (XCm x1 rfl) rfl ?_
  refine xx_aload_n (q := 1000) rfl rfl rfl ?_
  refine xx_aload_n (q := 1001) rfl rfl rfl ?_
  refine xx_iload_n (q := 1002) rfl rfl rfl ?_
  refine xx_iconst (q := 1003) rfl rfl (by decide) ?_
  refine xx_iaddR (q := 1004) rfl rfl (by omega) (by omega) ?_
  refine xx_saz (q := 1005) rfl rfl xS_0 (by omega) (by omega) (k1 _) ?_
  refine xx_aload_n (q := 1006) rfl rfl rfl ?_
  refine xx_iload_n (q := 1007) rfl rfl rfl ?_
  refine xx_iconst (q := 1008) rfl rfl (by decide) ?_
  refine xx_iaddR (q := 1009) rfl rfl (by omega) (by omega) ?_
  refine xx_saz (q := 1010) rfl rfl xS_0 (by omega) (by omega) (k1 _) ?_
  refine xx_aload_n (q := 1011) rfl rfl rfl ?_
  refine xx_iload_n (q := 1012) rfl rfl rfl ?_
  refine xx_iconst (q := 1013) rfl rfl (by decide) ?_
  refine xx_iaddR (q := 1014) rfl rfl (by omega) (by omega) ?_
  refine xx_saz (q := 1015) rfl rfl xS_0 (by omega) (by omega) (k1 _) ?_
  refine xx_callV (q := 1018) (As := [_, _, _]) (rest := [_]) rfl rfl rfl (Or.inl rfl) rfl rfl (Nat.le_of_ble_eq_true rfl) xS_479 (XCm x2 rfl) rfl ?_
  exact xx_icmp_eq (q := 1440) (q2 := 1021) rfl rfl rfl (fun _ => kx R2 D2 W2 hJ2 (fun j => (k2 j).trans (k1 j))) (fun h => absurd rfl h)
set_option maxHeartbeats 1000000 in
theorem lwc_range {n : Nat} {Q : XQ} {R : Nat → Nat → Option Nat} {D : KK} {W : Wld} (hJ : JWd W R D) (hok : ∀ j, xok (D 0 j)) (i : Nat) (hi : i + 6 ≤ n) (hn : n ≤ 3072) (kx : ∀ R2 D2 W2, JWd W2 R2 D2 → (∀ j, D2 0 j = D 0 j) → XX (XC 35) 316 Q 1440 [some (.inr (some 0)), some (.inr (some 5)), some (.inr (some 479)), some (.inl (i : Int))] [] (xS n, R2, D2)) : XX (XC 35) 316 Q 1023 [some (.inr (some 0)), some (.inr (some 5)), some (.inr (some 479)), some (.inl (i : Int))] [] (xS n, R, D) := by
  obtain ⟨z, R2, D1, D2, W2, x1, x2, hJ2⟩ := b_range (n := n) hJ (D 0 (((i : Int) + 1).toNat)) (D 0 (((i : Int) + 2).toNat))
  have k1 := XC_scr x1
  have k2 := XC_scr x2
  refine xx_aload_n (q := 1024) rfl rfl rfl ?_
  refine xx_aload_n (q := 1025) rfl rfl rfl ?_
  refine xx_iload_n (q := 1026) rfl rfl rfl ?_
  refine xx_iconst (q := 1027) rfl rfl (by decide) ?_
  refine xx_iaddR (q := 1028) rfl rfl (by omega) (by omega) ?_
  refine xx_saz (q := 1029) rfl rfl xS_0 (by omega) (by omega) rfl ?_
  refine xx_aload_n (q := 1030) rfl rfl rfl ?_
  refine xx_iload_n (q := 1031) rfl rfl rfl ?_
  refine xx_iconst (q := 1032) rfl rfl (by decide) ?_
  refine xx_iaddR (q := 1033) rfl rfl (by omega) (by omega) ?_
  refine xx_saz (q := 1034) rfl rfl xS_0 (by omega) (by omega) rfl ?_
  refine xx_callV (q := 1037) (As := [_, _]) (rest := []) rfl rfl rfl (Or.inl rfl) rfl rfl (Nat.le_of_ble_eq_true rfl) xS_5 (XCm x1 rfl) rfl ?_
  refine xx_aload_n (q := 1038) rfl rfl rfl ?_
  refine xx_aload_n (q := 1039) rfl rfl rfl ?_
  refine xx_iload_n (q := 1040) rfl rfl rfl ?_
  refine xx_iconst (q := 1041) rfl rfl (by decide) ?_
  refine xx_iaddR (q := 1042) rfl rfl (by omega) (by omega) ?_
  refine xx_saz (q := 1043) rfl rfl xS_0 (by omega) (by omega) (k1 _) ?_
  refine xx_aload_n (q := 1044) rfl rfl rfl ?_
  refine xx_iload_n (q := 1045) rfl rfl rfl ?_
  refine xx_iconst (q := 1046) rfl rfl (by decide) ?_
  refine xx_iaddR (q := 1047) rfl rfl (by omega) (by omega) ?_
  refine xx_saz (q := 1048) rfl rfl xS_0 (by omega) (by omega) (k1 _) ?_
  refine xx_callV (q := 1051) (As := [_, _]) (rest := [_]) rfl rfl rfl (Or.inl rfl) rfl rfl (Nat.le_of_ble_eq_true rfl) xS_479 (XCm x2 rfl) rfl ?_
  exact xx_icmp_eq (q := 1440) (q2 := 1054) rfl rfl rfl (fun _ => kx R2 D2 W2 hJ2 (fun j => (k2 j).trans (k1 j))) (fun h => absurd rfl h)
set_option maxHeartbeats 1000000 in
theorem lwc_tell {n : Nat} {Q : XQ} {R : Nat → Nat → Option Nat} {D : KK} {W : Wld} (hJ : JWd W R D) (hok : ∀ j, xok (D 0 j)) (i : Nat) (hi : i + 6 ≤ n) (hn : n ≤ 3072) (kx : ∀ R2 D2 W2, JWd W2 R2 D2 → (∀ j, D2 0 j = D 0 j) → XX (XC 35) 316 Q 1440 [some (.inr (some 0)), some (.inr (some 5)), some (.inr (some 479)), some (.inl (i : Int))] [] (xS n, R2, D2)) : XX (XC 35) 316 Q 1056 [some (.inr (some 0)), some (.inr (some 5)), some (.inr (some 479)), some (.inl (i : Int))] [] (xS n, R, D) := by
  obtain ⟨z, R2, D1, D2, W2, x1, x2, hJ2⟩ := b_tell (n := n) hJ (D 0 (((i : Int) + 1).toNat)) (D 0 (((i : Int) + 2).toNat)) (D 0 (((i : Int) + 3).toNat))
  have k1 := XC_scr x1
  have k2 := XC_scr x2
  refine xx_aload_n (q := 1057) rfl rfl rfl ?_
  refine xx_aload_n (q := 1058) rfl rfl rfl ?_
  refine xx_iload_n (q := 1059) rfl rfl rfl ?_
  refine xx_iconst (q := 1060) rfl rfl (by decide) ?_
  refine xx_iaddR (q := 1061) rfl rfl (by omega) (by omega) ?_
  refine xx_saz (q := 1062) rfl rfl xS_0 (by omega) (by omega) rfl ?_
  refine xx_aload_n (q := 1063) rfl rfl rfl ?_
  refine xx_iload_n (q := 1064) rfl rfl rfl ?_
  refine xx_iconst (q := 1065) rfl rfl (by decide) ?_
  refine xx_iaddR (q := 1066) rfl rfl (by omega) (by omega) ?_
  refine xx_saz (q := 1067) rfl rfl xS_0 (by omega) (by omega) rfl ?_
  refine xx_aload_n (q := 1068) rfl rfl rfl ?_
  refine xx_iload_n (q := 1069) rfl rfl rfl ?_
  refine xx_iconst (q := 1070) rfl rfl (by decide) ?_
  refine xx_iaddR (q := 1071) rfl rfl (by omega) (by omega) ?_
  refine xx_saz (q := 1072) rfl rfl xS_0 (by omega) (by omega) rfl ?_
  refine xx_callV (q := 1075) (As := [_, _, _]) (rest := []) rfl rfl rfl (Or.inl rfl) rfl rfl (Nat.le_of_ble_eq_true rfl) xS_5 (XCm x1 rfl) rfl ?_
  refine xx_aload_n (q := 1076) rfl rfl rfl ?_
  refine xx_aload_n (q := 1077) rfl rfl rfl ?_
  refine xx_iload_n (q := 1078) rfl rfl rfl ?_
  refine xx_iconst (q := 1079) rfl rfl (by decide) ?_
  refine xx_iaddR (q := 1080) rfl rfl (by omega) (by omega) ?_
  refine xx_saz (q := 1081) rfl rfl xS_0 (by omega) (by omega) (k1 _) ?_
  refine xx_aload_n (q := 1082) rfl rfl rfl ?_
  refine xx_iload_n (q := 1083) rfl rfl rfl ?_
  refine xx_iconst (q := 1084) rfl rfl (by decide) ?_
  refine xx_iaddR (q := 1085) rfl rfl (by omega) (by omega) ?_
  refine xx_saz (q := 1086) rfl rfl xS_0 (by omega) (by omega) (k1 _) ?_
  refine xx_aload_n (q := 1087) rfl rfl rfl ?_
  refine xx_iload_n (q := 1088) rfl rfl rfl ?_
  refine xx_iconst (q := 1089) rfl rfl (by decide) ?_
  refine xx_iaddR (q := 1090) rfl rfl (by omega) (by omega) ?_
  refine xx_saz (q := 1091) rfl rfl xS_0 (by omega) (by omega) (k1 _) ?_
  refine xx_callV (q := 1094) (As := [_, _, _]) (rest := [_]) rfl rfl rfl (Or.inl rfl) rfl rfl (Nat.le_of_ble_eq_true rfl) xS_479 (XCm x2 rfl) rfl ?_
  exact xx_icmp_eq (q := 1440) (q2 := 1097) rfl rfl rfl (fun _ => kx R2 D2 W2 hJ2 (fun j => (k2 j).trans (k1 j))) (fun h => absurd rfl h)
set_option maxHeartbeats 1000000 in
theorem lwc_pulled {n : Nat} {Q : XQ} {R : Nat → Nat → Option Nat} {D : KK} {W : Wld} (hJ : JWd W R D) (hok : ∀ j, xok (D 0 j)) (i : Nat) (hi : i + 6 ≤ n) (hn : n ≤ 3072) (kx : ∀ R2 D2 W2, JWd W2 R2 D2 → (∀ j, D2 0 j = D 0 j) → XX (XC 35) 316 Q 1440 [some (.inr (some 0)), some (.inr (some 5)), some (.inr (some 479)), some (.inl (i : Int))] [] (xS n, R2, D2)) : XX (XC 35) 316 Q 1099 [some (.inr (some 0)), some (.inr (some 5)), some (.inr (some 479)), some (.inl (i : Int))] [] (xS n, R, D) := by
  obtain ⟨z, R2, D1, D2, W2, x1, x2, hJ2⟩ := b_pulled (n := n) hJ (D 0 (((i : Int) + 1).toNat))
  have k1 := XC_scr x1
  have k2 := XC_scr x2
  refine xx_aload_n (q := 1100) rfl rfl rfl ?_
  refine xx_aload_n (q := 1101) rfl rfl rfl ?_
  refine xx_iload_n (q := 1102) rfl rfl rfl ?_
  refine xx_iconst (q := 1103) rfl rfl (by decide) ?_
  refine xx_iaddR (q := 1104) rfl rfl (by omega) (by omega) ?_
  refine xx_saz (q := 1105) rfl rfl xS_0 (by omega) (by omega) rfl ?_
  refine xx_callV (q := 1108) (As := [_]) (rest := []) rfl rfl rfl (Or.inl rfl) rfl rfl (Nat.le_of_ble_eq_true rfl) xS_5 (XCm x1 rfl) rfl ?_
  refine xx_aload_n (q := 1109) rfl rfl rfl ?_
  refine xx_aload_n (q := 1110) rfl rfl rfl ?_
  refine xx_iload_n (q := 1111) rfl rfl rfl ?_
  refine xx_iconst (q := 1112) rfl rfl (by decide) ?_
  refine xx_iaddR (q := 1113) rfl rfl (by omega) (by omega) ?_
  refine xx_saz (q := 1114) rfl rfl xS_0 (by omega) (by omega) (k1 _) ?_
  refine xx_callV (q := 1117) (As := [_]) (rest := [_]) rfl rfl rfl (Or.inl rfl) rfl rfl (Nat.le_of_ble_eq_true rfl) xS_479 (XCm x2 rfl) rfl ?_
  exact xx_icmp_eq (q := 1440) (q2 := 1120) rfl rfl rfl (fun _ => kx R2 D2 W2 hJ2 (fun j => (k2 j).trans (k1 j))) (fun h => absurd rfl h)
set_option maxHeartbeats 1000000 in
theorem lwc_mend {n : Nat} {Q : XQ} {R : Nat → Nat → Option Nat} {D : KK} {W : Wld} (hJ : JWd W R D) (hok : ∀ j, xok (D 0 j)) (i : Nat) (hi : i + 6 ≤ n) (hn : n ≤ 3072) (kx : ∀ R2 D2 W2, JWd W2 R2 D2 → (∀ j, D2 0 j = D 0 j) → XX (XC 35) 316 Q 1440 [some (.inr (some 0)), some (.inr (some 5)), some (.inr (some 479)), some (.inl (i : Int))] [] (xS n, R2, D2)) : XX (XC 35) 316 Q 1122 [some (.inr (some 0)), some (.inr (some 5)), some (.inr (some 479)), some (.inl (i : Int))] [] (xS n, R, D) := by
  obtain ⟨z, R2, D1, D2, W2, x1, x2, hJ2⟩ := b_mend (n := n) hJ (D 0 (((i : Int) + 1).toNat))
  have k1 := XC_scr x1
  have k2 := XC_scr x2
  refine xx_aload_n (q := 1123) rfl rfl rfl ?_
  refine xx_aload_n (q := 1124) rfl rfl rfl ?_
  refine xx_iload_n (q := 1125) rfl rfl rfl ?_
  refine xx_iconst (q := 1126) rfl rfl (by decide) ?_
  refine xx_iaddR (q := 1127) rfl rfl (by omega) (by omega) ?_
  refine xx_saz (q := 1128) rfl rfl xS_0 (by omega) (by omega) rfl ?_
  refine xx_callV (q := 1131) (As := [_]) (rest := []) rfl rfl rfl (Or.inl rfl) rfl rfl (Nat.le_of_ble_eq_true rfl) xS_5 (XCm x1 rfl) rfl ?_
  refine xx_aload_n (q := 1132) rfl rfl rfl ?_
  refine xx_aload_n (q := 1133) rfl rfl rfl ?_
  refine xx_iload_n (q := 1134) rfl rfl rfl ?_
  refine xx_iconst (q := 1135) rfl rfl (by decide) ?_
  refine xx_iaddR (q := 1136) rfl rfl (by omega) (by omega) ?_
  refine xx_saz (q := 1137) rfl rfl xS_0 (by omega) (by omega) (k1 _) ?_
  refine xx_callV (q := 1140) (As := [_]) (rest := [_]) rfl rfl rfl (Or.inl rfl) rfl rfl (Nat.le_of_ble_eq_true rfl) xS_479 (XCm x2 rfl) rfl ?_
  exact xx_icmp_eq (q := 1440) (q2 := 1143) rfl rfl rfl (fun _ => kx R2 D2 W2 hJ2 (fun j => (k2 j).trans (k1 j))) (fun h => absurd rfl h)
set_option maxHeartbeats 1000000 in
theorem lwc_order {n : Nat} {Q : XQ} {R : Nat → Nat → Option Nat} {D : KK} {W : Wld} (hJ : JWd W R D) (hok : ∀ j, xok (D 0 j)) (i : Nat) (hi : i + 6 ≤ n) (hn : n ≤ 3072) (kx : ∀ R2 D2 W2, JWd W2 R2 D2 → (∀ j, D2 0 j = D 0 j) → XX (XC 35) 316 Q 1440 [some (.inr (some 0)), some (.inr (some 5)), some (.inr (some 479)), some (.inl (i : Int))] [] (xS n, R2, D2)) : XX (XC 35) 316 Q 1145 [some (.inr (some 0)), some (.inr (some 5)), some (.inr (some 479)), some (.inl (i : Int))] [] (xS n, R, D) := by
  rcases Classical.em (D 0 (((i : Int) + 2).toNat) = 0) with hb | hb
  · obtain ⟨z, R2, D1, D2, W2, x1, x2, hJ2⟩ := b_ord (n := n) hJ (D 0 (((i : Int) + 1).toNat)) 0 (D 0 (((i : Int) + 3).toNat)) (hok _)
    have k1 := XC_scr x1
    have k2 := XC_scr x2
    refine xx_aload_n (q := 1146) rfl rfl rfl ?_
    refine xx_aload_n (q := 1147) rfl rfl rfl ?_
    refine xx_iload_n (q := 1148) rfl rfl rfl ?_
    refine xx_iconst (q := 1149) rfl rfl (by decide) ?_
    refine xx_iaddR (q := 1150) rfl rfl (by omega) (by omega) ?_
    refine xx_saz (q := 1151) rfl rfl xS_0 (by omega) (by omega) rfl ?_
    refine xx_aload_n (q := 1152) rfl rfl rfl ?_
    refine xx_iload_n (q := 1153) rfl rfl rfl ?_
    refine xx_iconst (q := 1154) rfl rfl (by decide) ?_
    refine xx_iaddR (q := 1155) rfl rfl (by omega) (by omega) ?_
    refine xx_saz (q := 1156) rfl rfl xS_0 (by omega) (by omega) rfl ?_
    refine xx_if_eq (q := 1163) (q2 := 1159) rfl rfl rfl (fun _ => ?_) (fun h => absurd hb h)
    refine xx_iconst (q := 1164) rfl rfl (by decide) ?_
    refine xx_aload_n (q := 1165) rfl rfl rfl ?_
    refine xx_iload_n (q := 1166) rfl rfl rfl ?_
    refine xx_iconst (q := 1167) rfl rfl (by decide) ?_
    refine xx_iaddR (q := 1168) rfl rfl (by omega) (by omega) ?_
    refine xx_saz (q := 1169) rfl rfl xS_0 (by omega) (by omega) rfl ?_
    refine xx_callV (q := 1172) (As := [_, _, _]) (rest := []) rfl rfl rfl (Or.inl rfl) rfl rfl (Nat.le_of_ble_eq_true rfl) xS_5 (XCm x1 rfl) rfl ?_
    refine xx_aload_n (q := 1173) rfl rfl rfl ?_
    refine xx_aload_n (q := 1174) rfl rfl rfl ?_
    refine xx_iload_n (q := 1175) rfl rfl rfl ?_
    refine xx_iconst (q := 1176) rfl rfl (by decide) ?_
    refine xx_iaddR (q := 1177) rfl rfl (by omega) (by omega) ?_
    refine xx_saz (q := 1178) rfl rfl xS_0 (by omega) (by omega) (k1 _) ?_
    refine xx_aload_n (q := 1179) rfl rfl rfl ?_
    refine xx_iload_n (q := 1180) rfl rfl rfl ?_
    refine xx_iconst (q := 1181) rfl rfl (by decide) ?_
    refine xx_iaddR (q := 1182) rfl rfl (by omega) (by omega) ?_
    refine xx_saz (q := 1183) rfl rfl xS_0 (by omega) (by omega) (k1 _) ?_
    refine xx_if_eq (q := 1190) (q2 := 1186) rfl rfl rfl (fun _ => ?_) (fun h => absurd hb h)
    refine xx_iconst (q := 1191) rfl rfl (by decide) ?_
    refine xx_aload_n (q := 1192) rfl rfl rfl ?_
    refine xx_iload_n (q := 1193) rfl rfl rfl ?_
    refine xx_iconst (q := 1194) rfl rfl (by decide) ?_
    refine xx_iaddR (q := 1195) rfl rfl (by omega) (by omega) ?_
    refine xx_saz (q := 1196) rfl rfl xS_0 (by omega) (by omega) (k1 _) ?_
    refine xx_callV (q := 1199) (As := [_, _, _]) (rest := [_]) rfl rfl rfl (Or.inl rfl) rfl rfl (Nat.le_of_ble_eq_true rfl) xS_479 (XCm x2 rfl) rfl ?_
    exact xx_icmp_eq (q := 1440) (q2 := 1202) rfl rfl rfl (fun _ => kx R2 D2 W2 hJ2 (fun j => (k2 j).trans (k1 j))) (fun h => absurd rfl h)
  · obtain ⟨z, R2, D1, D2, W2, x1, x2, hJ2⟩ := b_ord (n := n) hJ (D 0 (((i : Int) + 1).toNat)) 1 (D 0 (((i : Int) + 3).toNat)) (hok _)
    have k1 := XC_scr x1
    have k2 := XC_scr x2
    refine xx_aload_n (q := 1146) rfl rfl rfl ?_
    refine xx_aload_n (q := 1147) rfl rfl rfl ?_
    refine xx_iload_n (q := 1148) rfl rfl rfl ?_
    refine xx_iconst (q := 1149) rfl rfl (by decide) ?_
    refine xx_iaddR (q := 1150) rfl rfl (by omega) (by omega) ?_
    refine xx_saz (q := 1151) rfl rfl xS_0 (by omega) (by omega) rfl ?_
    refine xx_aload_n (q := 1152) rfl rfl rfl ?_
    refine xx_iload_n (q := 1153) rfl rfl rfl ?_
    refine xx_iconst (q := 1154) rfl rfl (by decide) ?_
    refine xx_iaddR (q := 1155) rfl rfl (by omega) (by omega) ?_
    refine xx_saz (q := 1156) rfl rfl xS_0 (by omega) (by omega) rfl ?_
    refine xx_if_eq (q := 1163) (q2 := 1159) rfl rfl rfl (fun h => absurd h hb) (fun _ => ?_)
    refine xx_iconst (q := 1160) rfl rfl (by decide) ?_
    refine xx_goto (q := 1164) rfl rfl ?_
    refine xx_aload_n (q := 1165) rfl rfl rfl ?_
    refine xx_iload_n (q := 1166) rfl rfl rfl ?_
    refine xx_iconst (q := 1167) rfl rfl (by decide) ?_
    refine xx_iaddR (q := 1168) rfl rfl (by omega) (by omega) ?_
    refine xx_saz (q := 1169) rfl rfl xS_0 (by omega) (by omega) rfl ?_
    refine xx_callV (q := 1172) (As := [_, _, _]) (rest := []) rfl rfl rfl (Or.inl rfl) rfl rfl (Nat.le_of_ble_eq_true rfl) xS_5 (XCm x1 rfl) rfl ?_
    refine xx_aload_n (q := 1173) rfl rfl rfl ?_
    refine xx_aload_n (q := 1174) rfl rfl rfl ?_
    refine xx_iload_n (q := 1175) rfl rfl rfl ?_
    refine xx_iconst (q := 1176) rfl rfl (by decide) ?_
    refine xx_iaddR (q := 1177) rfl rfl (by omega) (by omega) ?_
    refine xx_saz (q := 1178) rfl rfl xS_0 (by omega) (by omega) (k1 _) ?_
    refine xx_aload_n (q := 1179) rfl rfl rfl ?_
    refine xx_iload_n (q := 1180) rfl rfl rfl ?_
    refine xx_iconst (q := 1181) rfl rfl (by decide) ?_
    refine xx_iaddR (q := 1182) rfl rfl (by omega) (by omega) ?_
    refine xx_saz (q := 1183) rfl rfl xS_0 (by omega) (by omega) (k1 _) ?_
    refine xx_if_eq (q := 1190) (q2 := 1186) rfl rfl rfl (fun h => absurd h hb) (fun _ => ?_)
    refine xx_iconst (q := 1187) rfl rfl (by decide) ?_
    refine xx_goto (q := 1191) rfl rfl ?_
    refine xx_aload_n (q := 1192) rfl rfl rfl ?_
    refine xx_iload_n (q := 1193) rfl rfl rfl ?_
    refine xx_iconst (q := 1194) rfl rfl (by decide) ?_
    refine xx_iaddR (q := 1195) rfl rfl (by omega) (by omega) ?_
    refine xx_saz (q := 1196) rfl rfl xS_0 (by omega) (by omega) (k1 _) ?_
    refine xx_callV (q := 1199) (As := [_, _, _]) (rest := [_]) rfl rfl rfl (Or.inl rfl) rfl rfl (Nat.le_of_ble_eq_true rfl) xS_479 (XCm x2 rfl) rfl ?_
    exact xx_icmp_eq (q := 1440) (q2 := 1202) rfl rfl rfl (fun _ => kx R2 D2 W2 hJ2 (fun j => (k2 j).trans (k1 j))) (fun h => absurd rfl h)
set_option maxHeartbeats 1000000 in
theorem lwc_share {n : Nat} {Q : XQ} {R : Nat → Nat → Option Nat} {D : KK} {W : Wld} (hJ : JWd W R D) (hok : ∀ j, xok (D 0 j)) (i : Nat) (hi : i + 6 ≤ n) (hn : n ≤ 3072) (kx : ∀ R2 D2 W2, JWd W2 R2 D2 → (∀ j, D2 0 j = D 0 j) → XX (XC 35) 316 Q 1440 [some (.inr (some 0)), some (.inr (some 5)), some (.inr (some 479)), some (.inl (i : Int))] [] (xS n, R2, D2)) : XX (XC 35) 316 Q 1204 [some (.inr (some 0)), some (.inr (some 5)), some (.inr (some 479)), some (.inl (i : Int))] [] (xS n, R, D) := by
  rcases Classical.em (D 0 (((i : Int) + 2).toNat) = 0) with hb | hb
  · obtain ⟨z, R2, D1, D2, W2, x1, x2, hJ2⟩ := b_share (n := n) hJ (D 0 (((i : Int) + 1).toNat)) 0 (hok _)
    have k1 := XC_scr x1
    have k2 := XC_scr x2
    refine xx_aload_n (q := 1205) rfl rfl rfl ?_
    refine xx_aload_n (q := 1206) rfl rfl rfl ?_
    refine xx_iload_n (q := 1207) rfl rfl rfl ?_
    refine xx_iconst (q := 1208) rfl rfl (by decide) ?_
    refine xx_iaddR (q := 1209) rfl rfl (by omega) (by omega) ?_
    refine xx_saz (q := 1210) rfl rfl xS_0 (by omega) (by omega) rfl ?_
    refine xx_aload_n (q := 1211) rfl rfl rfl ?_
    refine xx_iload_n (q := 1212) rfl rfl rfl ?_
    refine xx_iconst (q := 1213) rfl rfl (by decide) ?_
    refine xx_iaddR (q := 1214) rfl rfl (by omega) (by omega) ?_
    refine xx_saz (q := 1215) rfl rfl xS_0 (by omega) (by omega) rfl ?_
    refine xx_if_eq (q := 1222) (q2 := 1218) rfl rfl rfl (fun _ => ?_) (fun h => absurd hb h)
    refine xx_iconst (q := 1223) rfl rfl (by decide) ?_
    refine xx_callV (q := 1226) (As := [_, _]) (rest := []) rfl rfl rfl (Or.inl rfl) rfl rfl (Nat.le_of_ble_eq_true rfl) xS_5 (XCm x1 rfl) rfl ?_
    refine xx_aload_n (q := 1227) rfl rfl rfl ?_
    refine xx_aload_n (q := 1228) rfl rfl rfl ?_
    refine xx_iload_n (q := 1229) rfl rfl rfl ?_
    refine xx_iconst (q := 1230) rfl rfl (by decide) ?_
    refine xx_iaddR (q := 1231) rfl rfl (by omega) (by omega) ?_
    refine xx_saz (q := 1232) rfl rfl xS_0 (by omega) (by omega) (k1 _) ?_
    refine xx_aload_n (q := 1233) rfl rfl rfl ?_
    refine xx_iload_n (q := 1234) rfl rfl rfl ?_
    refine xx_iconst (q := 1235) rfl rfl (by decide) ?_
    refine xx_iaddR (q := 1236) rfl rfl (by omega) (by omega) ?_
    refine xx_saz (q := 1237) rfl rfl xS_0 (by omega) (by omega) (k1 _) ?_
    refine xx_if_eq (q := 1244) (q2 := 1240) rfl rfl rfl (fun _ => ?_) (fun h => absurd hb h)
    refine xx_iconst (q := 1245) rfl rfl (by decide) ?_
    refine xx_callV (q := 1248) (As := [_, _]) (rest := [_]) rfl rfl rfl (Or.inl rfl) rfl rfl (Nat.le_of_ble_eq_true rfl) xS_479 (XCm x2 rfl) rfl ?_
    exact xx_icmp_eq (q := 1440) (q2 := 1251) rfl rfl rfl (fun _ => kx R2 D2 W2 hJ2 (fun j => (k2 j).trans (k1 j))) (fun h => absurd rfl h)
  · obtain ⟨z, R2, D1, D2, W2, x1, x2, hJ2⟩ := b_share (n := n) hJ (D 0 (((i : Int) + 1).toNat)) 1 (hok _)
    have k1 := XC_scr x1
    have k2 := XC_scr x2
    refine xx_aload_n (q := 1205) rfl rfl rfl ?_
    refine xx_aload_n (q := 1206) rfl rfl rfl ?_
    refine xx_iload_n (q := 1207) rfl rfl rfl ?_
    refine xx_iconst (q := 1208) rfl rfl (by decide) ?_
    refine xx_iaddR (q := 1209) rfl rfl (by omega) (by omega) ?_
    refine xx_saz (q := 1210) rfl rfl xS_0 (by omega) (by omega) rfl ?_
    refine xx_aload_n (q := 1211) rfl rfl rfl ?_
    refine xx_iload_n (q := 1212) rfl rfl rfl ?_
    refine xx_iconst (q := 1213) rfl rfl (by decide) ?_
    refine xx_iaddR (q := 1214) rfl rfl (by omega) (by omega) ?_
    refine xx_saz (q := 1215) rfl rfl xS_0 (by omega) (by omega) rfl ?_
    refine xx_if_eq (q := 1222) (q2 := 1218) rfl rfl rfl (fun h => absurd h hb) (fun _ => ?_)
    refine xx_iconst (q := 1219) rfl rfl (by decide) ?_
    refine xx_goto (q := 1223) rfl rfl ?_
    refine xx_callV (q := 1226) (As := [_, _]) (rest := []) rfl rfl rfl (Or.inl rfl) rfl rfl (Nat.le_of_ble_eq_true rfl) xS_5 (XCm x1 rfl) rfl ?_
    refine xx_aload_n (q := 1227) rfl rfl rfl ?_
    refine xx_aload_n (q := 1228) rfl rfl rfl ?_
    refine xx_iload_n (q := 1229) rfl rfl rfl ?_
    refine xx_iconst (q := 1230) rfl rfl (by decide) ?_
    refine xx_iaddR (q := 1231) rfl rfl (by omega) (by omega) ?_
    refine xx_saz (q := 1232) rfl rfl xS_0 (by omega) (by omega) (k1 _) ?_
    refine xx_aload_n (q := 1233) rfl rfl rfl ?_
    refine xx_iload_n (q := 1234) rfl rfl rfl ?_
    refine xx_iconst (q := 1235) rfl rfl (by decide) ?_
    refine xx_iaddR (q := 1236) rfl rfl (by omega) (by omega) ?_
    refine xx_saz (q := 1237) rfl rfl xS_0 (by omega) (by omega) (k1 _) ?_
    refine xx_if_eq (q := 1244) (q2 := 1240) rfl rfl rfl (fun h => absurd h hb) (fun _ => ?_)
    refine xx_iconst (q := 1241) rfl rfl (by decide) ?_
    refine xx_goto (q := 1245) rfl rfl ?_
    refine xx_callV (q := 1248) (As := [_, _]) (rest := [_]) rfl rfl rfl (Or.inl rfl) rfl rfl (Nat.le_of_ble_eq_true rfl) xS_479 (XCm x2 rfl) rfl ?_
    exact xx_icmp_eq (q := 1440) (q2 := 1251) rfl rfl rfl (fun _ => kx R2 D2 W2 hJ2 (fun j => (k2 j).trans (k1 j))) (fun h => absurd rfl h)
set_option maxHeartbeats 1000000 in
theorem lwc_later {n : Nat} {Q : XQ} {R : Nat → Nat → Option Nat} {D : KK} {W : Wld} (hJ : JWd W R D) (hok : ∀ j, xok (D 0 j)) (i : Nat) (hi : i + 6 ≤ n) (hn : n ≤ 3072) (kx : ∀ R2 D2 W2, JWd W2 R2 D2 → (∀ j, D2 0 j = D 0 j) → XX (XC 35) 316 Q 1440 [some (.inr (some 0)), some (.inr (some 5)), some (.inr (some 479)), some (.inl (i : Int))] [] (xS n, R2, D2)) : XX (XC 35) 316 Q 1253 [some (.inr (some 0)), some (.inr (some 5)), some (.inr (some 479)), some (.inl (i : Int))] [] (xS n, R, D) := by
  obtain ⟨z, R2, D1, D2, W2, x1, x2, hJ2⟩ := b_later (n := n) hJ (D 0 (((i : Int) + 1).toNat)) (D 0 (((i : Int) + 2).toNat)) (D 0 (((i : Int) + 3).toNat)) (D 0 (((i : Int) + 4).toNat))
  have k1 := XC_scr x1
  have k2 := XC_scr x2
  refine xx_aload_n (q := 1254) rfl rfl rfl ?_
  refine xx_aload_n (q := 1255) rfl rfl rfl ?_
  refine xx_iload_n (q := 1256) rfl rfl rfl ?_
  refine xx_iconst (q := 1257) rfl rfl (by decide) ?_
  refine xx_iaddR (q := 1258) rfl rfl (by omega) (by omega) ?_
  refine xx_saz (q := 1259) rfl rfl xS_0 (by omega) (by omega) rfl ?_
  refine xx_aload_n (q := 1260) rfl rfl rfl ?_
  refine xx_iload_n (q := 1261) rfl rfl rfl ?_
  refine xx_iconst (q := 1262) rfl rfl (by decide) ?_
  refine xx_iaddR (q := 1263) rfl rfl (by omega) (by omega) ?_
  refine xx_saz (q := 1264) rfl rfl xS_0 (by omega) (by omega) rfl ?_
  refine xx_aload_n (q := 1265) rfl rfl rfl ?_
  refine xx_iload_n (q := 1266) rfl rfl rfl ?_
  refine xx_iconst (q := 1267) rfl rfl (by decide) ?_
  refine xx_iaddR (q := 1268) rfl rfl (by omega) (by omega) ?_
  refine xx_saz (q := 1269) rfl rfl xS_0 (by omega) (by omega) rfl ?_
  refine xx_aload_n (q := 1270) rfl rfl rfl ?_
  refine xx_iload_n (q := 1271) rfl rfl rfl ?_
  refine xx_iconst (q := 1272) rfl rfl (by decide) ?_
  refine xx_iaddR (q := 1273) rfl rfl (by omega) (by omega) ?_
  refine xx_saz (q := 1274) rfl rfl xS_0 (by omega) (by omega) rfl ?_
  refine xx_callV (q := 1277) (As := [_, _, _, _]) (rest := []) rfl rfl rfl (Or.inl rfl) rfl rfl (Nat.le_of_ble_eq_true rfl) xS_5 (XCm x1 rfl) rfl ?_
  refine xx_aload_n (q := 1278) rfl rfl rfl ?_
  refine xx_aload_n (q := 1279) rfl rfl rfl ?_
  refine xx_iload_n (q := 1280) rfl rfl rfl ?_
  refine xx_iconst (q := 1281) rfl rfl (by decide) ?_
  refine xx_iaddR (q := 1282) rfl rfl (by omega) (by omega) ?_
  refine xx_saz (q := 1283) rfl rfl xS_0 (by omega) (by omega) (k1 _) ?_
  refine xx_aload_n (q := 1284) rfl rfl rfl ?_
  refine xx_iload_n (q := 1285) rfl rfl rfl ?_
  refine xx_iconst (q := 1286) rfl rfl (by decide) ?_
  refine xx_iaddR (q := 1287) rfl rfl (by omega) (by omega) ?_
  refine xx_saz (q := 1288) rfl rfl xS_0 (by omega) (by omega) (k1 _) ?_
  refine xx_aload_n (q := 1289) rfl rfl rfl ?_
  refine xx_iload_n (q := 1290) rfl rfl rfl ?_
  refine xx_iconst (q := 1291) rfl rfl (by decide) ?_
  refine xx_iaddR (q := 1292) rfl rfl (by omega) (by omega) ?_
  refine xx_saz (q := 1293) rfl rfl xS_0 (by omega) (by omega) (k1 _) ?_
  refine xx_aload_n (q := 1294) rfl rfl rfl ?_
  refine xx_iload_n (q := 1295) rfl rfl rfl ?_
  refine xx_iconst (q := 1296) rfl rfl (by decide) ?_
  refine xx_iaddR (q := 1297) rfl rfl (by omega) (by omega) ?_
  refine xx_saz (q := 1298) rfl rfl xS_0 (by omega) (by omega) (k1 _) ?_
  refine xx_callV (q := 1301) (As := [_, _, _, _]) (rest := [_]) rfl rfl rfl (Or.inl rfl) rfl rfl (Nat.le_of_ble_eq_true rfl) xS_479 (XCm x2 rfl) rfl ?_
  exact xx_icmp_eq (q := 1440) (q2 := 1304) rfl rfl rfl (fun _ => kx R2 D2 W2 hJ2 (fun j => (k2 j).trans (k1 j))) (fun h => absurd rfl h)
set_option maxHeartbeats 1000000 in
theorem lwc_envy {n : Nat} {Q : XQ} {R : Nat → Nat → Option Nat} {D : KK} {W : Wld} (hJ : JWd W R D) (hok : ∀ j, xok (D 0 j)) (i : Nat) (hi : i + 6 ≤ n) (hn : n ≤ 3072) (kx : ∀ R2 D2 W2, JWd W2 R2 D2 → (∀ j, D2 0 j = D 0 j) → XX (XC 35) 316 Q 1440 [some (.inr (some 0)), some (.inr (some 5)), some (.inr (some 479)), some (.inl (i : Int))] [] (xS n, R2, D2)) : XX (XC 35) 316 Q 1306 [some (.inr (some 0)), some (.inr (some 5)), some (.inr (some 479)), some (.inl (i : Int))] [] (xS n, R, D) := by
  obtain ⟨z, R2, D1, D2, W2, x1, x2, hJ2⟩ := b_envy (n := n) hJ 
  have k1 := XC_scr x1
  have k2 := XC_scr x2
  refine xx_aload_n (q := 1307) rfl rfl rfl ?_
  refine xx_callV (q := 1310) (As := []) (rest := []) rfl rfl rfl (Or.inl rfl) rfl rfl (Nat.le_of_ble_eq_true rfl) xS_5 (XCm x1 rfl) rfl ?_
  refine xx_aload_n (q := 1311) rfl rfl rfl ?_
  refine xx_callV (q := 1314) (As := []) (rest := [_]) rfl rfl rfl (Or.inl rfl) rfl rfl (Nat.le_of_ble_eq_true rfl) xS_479 (XCm x2 rfl) rfl ?_
  exact xx_icmp_eq (q := 1440) (q2 := 1317) rfl rfl rfl (fun _ => kx R2 D2 W2 hJ2 (fun j => (k2 j).trans (k1 j))) (fun h => absurd rfl h)
set_option maxHeartbeats 1000000 in
theorem lwc_smile {n : Nat} {Q : XQ} {R : Nat → Nat → Option Nat} {D : KK} {W : Wld} (hJ : JWd W R D) (hok : ∀ j, xok (D 0 j)) (i : Nat) (hi : i + 6 ≤ n) (hn : n ≤ 3072) (kx : ∀ R2 D2 W2, JWd W2 R2 D2 → (∀ j, D2 0 j = D 0 j) → XX (XC 35) 316 Q 1440 [some (.inr (some 0)), some (.inr (some 5)), some (.inr (some 479)), some (.inl (i : Int))] [] (xS n, R2, D2)) : XX (XC 35) 316 Q 1319 [some (.inr (some 0)), some (.inr (some 5)), some (.inr (some 479)), some (.inl (i : Int))] [] (xS n, R, D) := by
  obtain ⟨z, R2, D1, D2, W2, x1, x2, hJ2⟩ := b_smile (n := n) hJ (D 0 (((i : Int) + 1).toNat))
  have k1 := XC_scr x1
  have k2 := XC_scr x2
  refine xx_aload_n (q := 1320) rfl rfl rfl ?_
  refine xx_aload_n (q := 1321) rfl rfl rfl ?_
  refine xx_iload_n (q := 1322) rfl rfl rfl ?_
  refine xx_iconst (q := 1323) rfl rfl (by decide) ?_
  refine xx_iaddR (q := 1324) rfl rfl (by omega) (by omega) ?_
  refine xx_saz (q := 1325) rfl rfl xS_0 (by omega) (by omega) rfl ?_
  refine xx_callV (q := 1328) (As := [_]) (rest := []) rfl rfl rfl (Or.inl rfl) rfl rfl (Nat.le_of_ble_eq_true rfl) xS_5 (XCm x1 rfl) rfl ?_
  refine xx_aload_n (q := 1329) rfl rfl rfl ?_
  refine xx_aload_n (q := 1330) rfl rfl rfl ?_
  refine xx_iload_n (q := 1331) rfl rfl rfl ?_
  refine xx_iconst (q := 1332) rfl rfl (by decide) ?_
  refine xx_iaddR (q := 1333) rfl rfl (by omega) (by omega) ?_
  refine xx_saz (q := 1334) rfl rfl xS_0 (by omega) (by omega) (k1 _) ?_
  refine xx_callV (q := 1337) (As := [_]) (rest := [_]) rfl rfl rfl (Or.inl rfl) rfl rfl (Nat.le_of_ble_eq_true rfl) xS_479 (XCm x2 rfl) rfl ?_
  exact xx_icmp_eq (q := 1440) (q2 := 1340) rfl rfl rfl (fun _ => kx R2 D2 W2 hJ2 (fun j => (k2 j).trans (k1 j))) (fun h => absurd rfl h)
set_option maxHeartbeats 1000000 in
theorem lwc_planned {n : Nat} {Q : XQ} {R : Nat → Nat → Option Nat} {D : KK} {W : Wld} (hJ : JWd W R D) (hok : ∀ j, xok (D 0 j)) (i : Nat) (hi : i + 6 ≤ n) (hn : n ≤ 3072) (kx : ∀ R2 D2 W2, JWd W2 R2 D2 → (∀ j, D2 0 j = D 0 j) → XX (XC 35) 316 Q 1440 [some (.inr (some 0)), some (.inr (some 5)), some (.inr (some 479)), some (.inl (i : Int))] [] (xS n, R2, D2)) : XX (XC 35) 316 Q 1342 [some (.inr (some 0)), some (.inr (some 5)), some (.inr (some 479)), some (.inl (i : Int))] [] (xS n, R, D) := by
  obtain ⟨z, R2, D1, D2, W2, x1, x2, hJ2⟩ := b_planned (n := n) hJ (D 0 (((i : Int) + 1).toNat))
  have k1 := XC_scr x1
  have k2 := XC_scr x2
  refine xx_aload_n (q := 1343) rfl rfl rfl ?_
  refine xx_aload_n (q := 1344) rfl rfl rfl ?_
  refine xx_iload_n (q := 1345) rfl rfl rfl ?_
  refine xx_iconst (q := 1346) rfl rfl (by decide) ?_
  refine xx_iaddR (q := 1347) rfl rfl (by omega) (by omega) ?_
  refine xx_saz (q := 1348) rfl rfl xS_0 (by omega) (by omega) rfl ?_
  refine xx_callV (q := 1351) (As := [_]) (rest := []) rfl rfl rfl (Or.inl rfl) rfl rfl (Nat.le_of_ble_eq_true rfl) xS_5 (XCm x1 rfl) rfl ?_
  refine xx_aload_n (q := 1352) rfl rfl rfl ?_
  refine xx_aload_n (q := 1353) rfl rfl rfl ?_
  refine xx_iload_n (q := 1354) rfl rfl rfl ?_
  refine xx_iconst (q := 1355) rfl rfl (by decide) ?_
  refine xx_iaddR (q := 1356) rfl rfl (by omega) (by omega) ?_
  refine xx_saz (q := 1357) rfl rfl xS_0 (by omega) (by omega) (k1 _) ?_
  refine xx_callV (q := 1360) (As := [_]) (rest := [_]) rfl rfl rfl (Or.inl rfl) rfl rfl (Nat.le_of_ble_eq_true rfl) xS_479 (XCm x2 rfl) rfl ?_
  exact xx_icmp_eq (q := 1440) (q2 := 1363) rfl rfl rfl (fun _ => kx R2 D2 W2 hJ2 (fun j => (k2 j).trans (k1 j))) (fun h => absurd rfl h)
set_option maxHeartbeats 1000000 in
theorem lwc_undo {n : Nat} {Q : XQ} {R : Nat → Nat → Option Nat} {D : KK} {W : Wld} (hJ : JWd W R D) (hok : ∀ j, xok (D 0 j)) (i : Nat) (hi : i + 6 ≤ n) (hn : n ≤ 3072) (kx : ∀ R2 D2 W2, JWd W2 R2 D2 → (∀ j, D2 0 j = D 0 j) → XX (XC 35) 316 Q 1440 [some (.inr (some 0)), some (.inr (some 5)), some (.inr (some 479)), some (.inl (i : Int))] [] (xS n, R2, D2)) : XX (XC 35) 316 Q 1365 [some (.inr (some 0)), some (.inr (some 5)), some (.inr (some 479)), some (.inl (i : Int))] [] (xS n, R, D) := by
  obtain ⟨z, R2, D1, D2, W2, x1, x2, hJ2⟩ := b_undo (n := n) hJ 
  have k1 := XC_scr x1
  have k2 := XC_scr x2
  refine xx_aload_n (q := 1366) rfl rfl rfl ?_
  refine xx_callV (q := 1369) (As := []) (rest := []) rfl rfl rfl (Or.inl rfl) rfl rfl (Nat.le_of_ble_eq_true rfl) xS_5 (XCm x1 rfl) rfl ?_
  refine xx_aload_n (q := 1370) rfl rfl rfl ?_
  refine xx_callV (q := 1373) (As := []) (rest := [_]) rfl rfl rfl (Or.inl rfl) rfl rfl (Nat.le_of_ble_eq_true rfl) xS_479 (XCm x2 rfl) rfl ?_
  exact xx_icmp_eq (q := 1440) (q2 := 1376) rfl rfl rfl (fun _ => kx R2 D2 W2 hJ2 (fun j => (k2 j).trans (k1 j))) (fun h => absurd rfl h)
set_option maxHeartbeats 1000000 in
theorem lwc_image {n : Nat} {Q : XQ} {R : Nat → Nat → Option Nat} {D : KK} {W : Wld} (hJ : JWd W R D) (hok : ∀ j, xok (D 0 j)) (i : Nat) (hi : i + 6 ≤ n) (hn : n ≤ 3072) (kx : ∀ R2 D2 W2, JWd W2 R2 D2 → (∀ j, D2 0 j = D 0 j) → XX (XC 35) 316 Q 1440 [some (.inr (some 0)), some (.inr (some 5)), some (.inr (some 479)), some (.inl (i : Int))] [] (xS n, R2, D2)) : XX (XC 35) 316 Q 1378 [some (.inr (some 0)), some (.inr (some 5)), some (.inr (some 479)), some (.inl (i : Int))] [] (xS n, R, D) := by
  rcases Classical.em (D 0 (((i : Int) + 1).toNat) = 0) with hb | hb
  · obtain ⟨z, R2, D1, D2, W2, x1, x2, hJ2⟩ := b_imageF hJ
    have k1 := XC_scr x1
    have k2 := XC_scr x2
    refine xx_aload_n (q := 1379) rfl rfl rfl ?_
    refine xx_aload_n (q := 1380) rfl rfl rfl ?_
    refine xx_iload_n (q := 1381) rfl rfl rfl ?_
    refine xx_iconst (q := 1382) rfl rfl (by decide) ?_
    refine xx_iaddR (q := 1383) rfl rfl (by omega) (by omega) ?_
    refine xx_saz (q := 1384) rfl rfl xS_0 (by omega) (by omega) rfl ?_
    refine xx_if_eq (q := 1391) (q2 := 1387) rfl rfl rfl (fun _ => ?_) (fun h => absurd hb h)
    refine xx_iconst (q := 1392) rfl rfl (by decide) ?_
    refine xx_callV (q := 1395) (As := [_]) (rest := []) rfl rfl rfl (Or.inl rfl) rfl rfl (Nat.le_of_ble_eq_true rfl) xS_5 (XCm x1 rfl) rfl ?_
    refine xx_aload_n (q := 1396) rfl rfl rfl ?_
    refine xx_aload_n (q := 1397) rfl rfl rfl ?_
    refine xx_iload_n (q := 1398) rfl rfl rfl ?_
    refine xx_iconst (q := 1399) rfl rfl (by decide) ?_
    refine xx_iaddR (q := 1400) rfl rfl (by omega) (by omega) ?_
    refine xx_saz (q := 1401) rfl rfl xS_0 (by omega) (by omega) (k1 _) ?_
    refine xx_if_eq (q := 1408) (q2 := 1404) rfl rfl rfl (fun _ => ?_) (fun h => absurd hb h)
    refine xx_iconst (q := 1409) rfl rfl (by decide) ?_
    refine xx_callV (q := 1412) (As := [_]) (rest := [_]) rfl rfl rfl (Or.inl rfl) rfl rfl (Nat.le_of_ble_eq_true rfl) xS_479 (XCm x2 rfl) rfl ?_
    exact xx_icmp_eq (q := 1440) (q2 := 1415) rfl rfl rfl (fun _ => kx R2 D2 W2 hJ2 (fun j => (k2 j).trans (k1 j))) (fun h => absurd rfl h)
  · obtain ⟨z, R2, D1, D2, W2, x1, x2, hJ2⟩ := b_imageT hJ
    have k1 := XC_scr x1
    have k2 := XC_scr x2
    refine xx_aload_n (q := 1379) rfl rfl rfl ?_
    refine xx_aload_n (q := 1380) rfl rfl rfl ?_
    refine xx_iload_n (q := 1381) rfl rfl rfl ?_
    refine xx_iconst (q := 1382) rfl rfl (by decide) ?_
    refine xx_iaddR (q := 1383) rfl rfl (by omega) (by omega) ?_
    refine xx_saz (q := 1384) rfl rfl xS_0 (by omega) (by omega) rfl ?_
    refine xx_if_eq (q := 1391) (q2 := 1387) rfl rfl rfl (fun h => absurd h hb) (fun _ => ?_)
    refine xx_iconst (q := 1388) rfl rfl (by decide) ?_
    refine xx_goto (q := 1392) rfl rfl ?_
    refine xx_callV (q := 1395) (As := [_]) (rest := []) rfl rfl rfl (Or.inl rfl) rfl rfl (Nat.le_of_ble_eq_true rfl) xS_5 (XCm x1 rfl) rfl ?_
    refine xx_aload_n (q := 1396) rfl rfl rfl ?_
    refine xx_aload_n (q := 1397) rfl rfl rfl ?_
    refine xx_iload_n (q := 1398) rfl rfl rfl ?_
    refine xx_iconst (q := 1399) rfl rfl (by decide) ?_
    refine xx_iaddR (q := 1400) rfl rfl (by omega) (by omega) ?_
    refine xx_saz (q := 1401) rfl rfl xS_0 (by omega) (by omega) (k1 _) ?_
    refine xx_if_eq (q := 1408) (q2 := 1404) rfl rfl rfl (fun h => absurd h hb) (fun _ => ?_)
    refine xx_iconst (q := 1405) rfl rfl (by decide) ?_
    refine xx_goto (q := 1409) rfl rfl ?_
    refine xx_callV (q := 1412) (As := [_]) (rest := [_]) rfl rfl rfl (Or.inl rfl) rfl rfl (Nat.le_of_ble_eq_true rfl) xS_479 (XCm x2 rfl) rfl ?_
    exact xx_icmp_eq (q := 1440) (q2 := 1415) rfl rfl rfl (fun _ => kx R2 D2 W2 hJ2 (fun j => (k2 j).trans (k1 j))) (fun h => absurd rfl h)
set_option maxHeartbeats 1000000 in
theorem lwc_look {n : Nat} {Q : XQ} {R : Nat → Nat → Option Nat} {D : KK} {W : Wld} (hJ : JWd W R D) (hok : ∀ j, xok (D 0 j)) (i : Nat) (hi : i + 6 ≤ n) (hn : n ≤ 3072) (kx : ∀ R2 D2 W2, JWd W2 R2 D2 → (∀ j, D2 0 j = D 0 j) → XX (XC 35) 316 Q 1440 [some (.inr (some 0)), some (.inr (some 5)), some (.inr (some 479)), some (.inl (i : Int))] [] (xS n, R2, D2)) : XX (XC 35) 316 Q 1417 [some (.inr (some 0)), some (.inr (some 5)), some (.inr (some 479)), some (.inl (i : Int))] [] (xS n, R, D) := by
  obtain ⟨z, R2, D1, D2, W2, x1, x2, hJ2⟩ := b_look (n := n) hJ (D 0 (((i : Int) + 1).toNat))
  have k1 := XC_scr x1
  have k2 := XC_scr x2
  refine xx_aload_n (q := 1418) rfl rfl rfl ?_
  refine xx_aload_n (q := 1419) rfl rfl rfl ?_
  refine xx_iload_n (q := 1420) rfl rfl rfl ?_
  refine xx_iconst (q := 1421) rfl rfl (by decide) ?_
  refine xx_iaddR (q := 1422) rfl rfl (by omega) (by omega) ?_
  refine xx_saz (q := 1423) rfl rfl xS_0 (by omega) (by omega) rfl ?_
  refine xx_callV (q := 1426) (As := [_]) (rest := []) rfl rfl rfl (Or.inl rfl) rfl rfl (Nat.le_of_ble_eq_true rfl) xS_5 (XCm x1 rfl) rfl ?_
  refine xx_aload_n (q := 1427) rfl rfl rfl ?_
  refine xx_aload_n (q := 1428) rfl rfl rfl ?_
  refine xx_iload_n (q := 1429) rfl rfl rfl ?_
  refine xx_iconst (q := 1430) rfl rfl (by decide) ?_
  refine xx_iaddR (q := 1431) rfl rfl (by omega) (by omega) ?_
  refine xx_saz (q := 1432) rfl rfl xS_0 (by omega) (by omega) (k1 _) ?_
  refine xx_callV (q := 1435) (As := [_]) (rest := [_]) rfl rfl rfl (Or.inl rfl) rfl rfl (Nat.le_of_ble_eq_true rfl) xS_479 (XCm x2 rfl) rfl ?_
  exact xx_icmp_eq (q := 1440) (q2 := 1438) rfl rfl rfl (fun _ => kx R2 D2 W2 hJ2 (fun j => (k2 j).trans (k1 j))) (fun h => absurd rfl h)
set_option maxHeartbeats 4000000 in
theorem lw_loop {n : Nat} {Q : XQ} (hn : n ≤ 3072) (hQ : ∀ R D, Q (some (.inl 1)) (xS n, R, D)) : ∀ (k : Nat) (i : Nat) (W : Wld) (R : Nat → Nat → Option Nat) (D : KK), JWd W R D → (∀ j, xok (D 0 j)) → i ≤ 3078 → n < i + 6 * k → XX (XC 35) 316 Q 18 [some (.inr (some 0)), some (.inr (some 5)), some (.inr (some 479)), some (.inl (i : Int))] [] (xS n, R, D) := by
  intro k
  induction k with
  | zero =>
    intro i W R D hJ hok hi hk
    refine xx_iload_n (q := 19) rfl rfl rfl ?_
    refine xx_aload_n (q := 20) rfl rfl rfl ?_
    refine xx_alen (q := 21) rfl rfl xS_0 (by decide) (by omega) ?_
    refine xx_bipush (q := 23) rfl rfl (by decide) ?_
    refine xx_isubR (q := 24) rfl rfl (by omega) (by omega) ?_
    refine xx_icmp_gt (q := 1446) (q2 := 27) rfl rfl rfl (fun _ => ?_) (fun h => by exfalso; omega)
    refine xx_iconst (q := 1447) rfl rfl (by decide) ?_
    exact xx_iret rfl (Or.inr rfl) (hQ R D)
  | succ k ih =>
    intro i W R D hJ hok hi hk
    refine xx_iload_n (q := 19) rfl rfl rfl ?_
    refine xx_aload_n (q := 20) rfl rfl rfl ?_
    refine xx_alen (q := 21) rfl rfl xS_0 (by decide) (by omega) ?_
    refine xx_bipush (q := 23) rfl rfl (by decide) ?_
    refine xx_isubR (q := 24) rfl rfl (by omega) (by omega) ?_
    refine xx_icmp_gt (q := 1446) (q2 := 27) rfl rfl rfl (fun _ => ?_) (fun h => ?_)
    · refine xx_iconst (q := 1447) rfl rfl (by decide) ?_
      exact xx_iret rfl (Or.inr rfl) (hQ R D)
    · have hstep : ∀ R2 D2 W2, JWd W2 R2 D2 → (∀ j, D2 0 j = D 0 j) → XX (XC 35) 316 Q 1440 [some (.inr (some 0)), some (.inr (some 5)), some (.inr (some 479)), some (.inl (i : Int))] [] (xS n, R2, D2) := by
        intro R2 D2 W2 hJ2 he
        refine xx_incz (q := 1443) (v := ((i + 6 : Nat) : Int)) rfl rfl rfl (by omega) (by omega) (by omega) rfl ?_
        refine xx_goto (q := 18) rfl rfl ?_
        exact ih (i + 6) W2 R2 D2 hJ2 (fun j => by rw [he j]; exact hok j) (by omega) (by omega)
      refine xx_aload_n (q := 28) rfl rfl rfl ?_
      refine xx_iload_n (q := 29) rfl rfl rfl ?_
      refine xx_saz (q := 30) rfl rfl xS_0 (by omega) (by omega) rfl ?_
      refine xx_bipush (q := 32) rfl rfl (by decide) ?_
      refine xx_iand (q := 33) rfl rfl ?_
      have h63 := xand_63 (D 0 ((i : Int)).toNat)
      generalize xand (D 0 ((i : Int)).toNat) 63 = z at h63
      have hz : z = 0 ∨ z = 1 ∨ z = 2 ∨ z = 3 ∨ z = 4 ∨ z = 5 ∨ z = 6 ∨ z = 7 ∨ z = 8 ∨ z = 9 ∨ z = 10 ∨ z = 11 ∨ z = 12 ∨ z = 13 ∨ z = 14 ∨ z = 15 ∨ z = 16 ∨ z = 17 ∨ z = 18 ∨ z = 19 ∨ z = 20 ∨ z = 21 ∨ z = 22 ∨ z = 23 ∨ z = 24 ∨ z = 25 ∨ z = 26 ∨ z = 27 ∨ z = 28 ∨ z = 29 ∨ z = 30 ∨ z = 31 ∨ z = 32 ∨ z = 33 ∨ z = 34 ∨ z = 35 ∨ 36 ≤ z := by omega
      rcases hz with e | e | e | e | e | e | e | e | e | e | e | e | e | e | e | e | e | e | e | e | e | e | e | e | e | e | e | e | e | e | e | e | e | e | e | e | e
      · exact xx_swK (q := 192) rfl e (by decide) (by decide) rfl rfl (lwc_state hJ hok i (by omega) hn hstep)
      · exact xx_swK (q := 215) rfl e (by decide) (by decide) rfl rfl (lwc_canal hJ hok i (by omega) hn hstep)
      · exact xx_swK (q := 238) rfl e (by decide) (by decide) rfl rfl (lwc_pool hJ hok i (by omega) hn hstep)
      · exact xx_swK (q := 271) rfl e (by decide) (by decide) rfl rfl (lwc_lock hJ hok i (by omega) hn hstep)
      · exact xx_swK (q := 314) rfl e (by decide) (by decide) rfl rfl (lwc_boat hJ hok i (by omega) hn hstep)
      · exact xx_swK (q := 357) rfl e (by decide) (by decide) rfl rfl (lwc_load hJ hok i (by omega) hn hstep)
      · exact xx_swK (q := 400) rfl e (by decide) (by decide) rfl rfl (lwc_set hJ hok i (by omega) hn hstep)
      · exact xx_swK (q := 433) rfl e (by decide) (by decide) rfl rfl (lwc_feed hJ hok i (by omega) hn hstep)
      · exact xx_swK (q := 496) rfl e (by decide) (by decide) rfl rfl (lwc_end hJ hok i (by omega) hn hstep)
      · exact xx_swK (q := 519) rfl e (by decide) (by decide) rfl rfl (lwc_text hJ hok i (by omega) hn hstep)
      · exact xx_swK (q := 542) rfl e (by decide) (by decide) rfl rfl (lwc_fault hJ hok i (by omega) hn hstep)
      · exact xx_swK (q := 565) rfl e (by decide) (by decide) rfl rfl (lwc_pass hJ hok i (by omega) hn hstep)
      · exact xx_swK (q := 624) rfl e (by decide) (by decide) rfl rfl (lwc_give hJ hok i (by omega) hn hstep)
      · exact xx_swK (q := 677) rfl e (by decide) (by decide) rfl rfl (lwc_pull hJ hok i (by omega) hn hstep)
      · exact xx_swK (q := 710) rfl e (by decide) (by decide) rfl rfl (lwc_hours hJ hok i (by omega) hn hstep)
      · exact xx_swK (q := 733) rfl e (by decide) (by decide) rfl rfl (lwc_run hJ hok i (by omega) hn hstep)
      · exact xx_swK (q := 746) rfl e (by decide) (by decide) rfl rfl (lwc_depth hJ hok i (by omega) hn hstep)
      · exact xx_swK (q := 769) rfl e (by decide) (by decide) rfl rfl (lwc_at hJ hok i (by omega) hn hstep)
      · exact xx_swK (q := 802) rfl e (by decide) (by decide) rfl rfl (lwc_of hJ hok i (by omega) hn hstep)
      · exact xx_swK (q := 835) rfl e (by decide) (by decide) rfl rfl (lwc_book hJ hok i (by omega) hn hstep)
      · exact xx_swK (q := 868) rfl e (by decide) (by decide) rfl rfl (lwc_far hJ hok i (by omega) hn hstep)
      · exact xx_swK (q := 927) rfl e (by decide) (by decide) rfl rfl (lwc_please hJ hok i (by omega) hn hstep)
      · exact xx_swK (q := 980) rfl e (by decide) (by decide) rfl rfl (lwc_said hJ hok i (by omega) hn hstep)
      · exact xx_swK (q := 1023) rfl e (by decide) (by decide) rfl rfl (lwc_range hJ hok i (by omega) hn hstep)
      · exact xx_swK (q := 1056) rfl e (by decide) (by decide) rfl rfl (lwc_tell hJ hok i (by omega) hn hstep)
      · exact xx_swK (q := 1099) rfl e (by decide) (by decide) rfl rfl (lwc_pulled hJ hok i (by omega) hn hstep)
      · exact xx_swK (q := 1122) rfl e (by decide) (by decide) rfl rfl (lwc_mend hJ hok i (by omega) hn hstep)
      · exact xx_swK (q := 1145) rfl e (by decide) (by decide) rfl rfl (lwc_order hJ hok i (by omega) hn hstep)
      · exact xx_swK (q := 1204) rfl e (by decide) (by decide) rfl rfl (lwc_share hJ hok i (by omega) hn hstep)
      · exact xx_swK (q := 1253) rfl e (by decide) (by decide) rfl rfl (lwc_later hJ hok i (by omega) hn hstep)
      · exact xx_swK (q := 1306) rfl e (by decide) (by decide) rfl rfl (lwc_envy hJ hok i (by omega) hn hstep)
      · exact xx_swK (q := 1319) rfl e (by decide) (by decide) rfl rfl (lwc_smile hJ hok i (by omega) hn hstep)
      · exact xx_swK (q := 1342) rfl e (by decide) (by decide) rfl rfl (lwc_planned hJ hok i (by omega) hn hstep)
      · exact xx_swK (q := 1365) rfl e (by decide) (by decide) rfl rfl (lwc_undo hJ hok i (by omega) hn hstep)
      · exact xx_swK (q := 1378) rfl e (by decide) (by decide) rfl rfl (lwc_image hJ hok i (by omega) hn hstep)
      · exact xx_swK (q := 1417) rfl e (by decide) (by decide) rfl rfl (lwc_look hJ hok i (by omega) hn hstep)
      · exact xx_swOut (q := 1440) rfl (by omega) rfl (hstep R D W hJ (fun _ => rfl))
