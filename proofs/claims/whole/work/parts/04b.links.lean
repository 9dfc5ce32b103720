set_option maxRecDepth 100000 in
theorem xokY_0 : (List.range' 0 40).all xokY = true := by decide +kernel
set_option maxRecDepth 100000 in
theorem xokY_40 : (List.range' 40 40).all xokY = true := by decide +kernel
set_option maxRecDepth 100000 in
theorem xokY_80 : (List.range' 80 40).all xokY = true := by decide +kernel
set_option maxRecDepth 100000 in
theorem xokY_120 : (List.range' 120 40).all xokY = true := by decide +kernel
set_option maxRecDepth 100000 in
theorem xokY_160 : (List.range' 160 40).all xokY = true := by decide +kernel
set_option maxRecDepth 100000 in
theorem xokY_200 : (List.range' 200 40).all xokY = true := by decide +kernel
set_option maxRecDepth 100000 in
theorem xokY_240 : (List.range' 240 40).all xokY = true := by decide +kernel
set_option maxRecDepth 100000 in
theorem xokY_280 : (List.range' 280 37).all xokY = true := by decide +kernel
def xokR (j : Nat) : Bool := bif Nat.beq (xpl j).2.2.2.2 0 then (match vwCl[xow j]? with
  | some q => Nat.beq (xrk j) (xow j + 2) && decide ((xy j).cls = q.1)
  | none => Nat.beq (xrk j) 21 && decide ((xy j).cls = "java/lang/String")) else true
set_option maxRecDepth 100000 in
theorem xokR_all : (List.range 317).all xokR = true := by decide +kernel
def xln (r : Instr × Nat) : Bool := match r.1 with
  | .bipush _ | .ldc _ | .iload _ | .aload _ | .istore _ | .astore _ | .newarray _ => Nat.beq r.2 2
  | .sipush _ | .ldc_w _ | .iinc _ _ | .goto _ | .ifCond _ _ | .if_icmp _ _ | .ifnull _ | .getfield _ | .putfield _ | .getstatic _ | .new _ | .anewarray _ | .invokevirtual _ | .invokespecial _ | .invokestatic _ => Nat.beq r.2 3
  | .tableswitch _ _ _ _ => true
  | _ => Nat.beq r.2 1
def xsz (i : Nat) : Nat := (bif Nat.blt i 159 then (bif Nat.blt i 79 then (bif Nat.blt i 39 then (bif Nat.blt i 19 then (bif Nat.blt i 9 then (bif Nat.blt i 4 then (bif Nat.blt i 2 then (bif Nat.blt i 1 then 19 else 27) else (bif Nat.blt i 3 then 11 else 80)) else (bif Nat.blt i 6 then (bif Nat.blt i 5 then 31 else 81) else (bif Nat.blt i 7 then 122 else (bif Nat.blt i 8 then 11 else 92)))) else (bif Nat.blt i 14 then (bif Nat.blt i 11 then (bif Nat.blt i 10 then 163 else 18) else (bif Nat.blt i 12 then 18 else (bif Nat.blt i 13 then 26 else 29))) else (bif Nat.blt i 16 then (bif Nat.blt i 15 then 132 else 83) else (bif Nat.blt i 17 then 95 else (bif Nat.blt i 18 then 66 else 96))))) else (bif Nat.blt i 29 then (bif Nat.blt i 24 then (bif Nat.blt i 21 then (bif Nat.blt i 20 then 19 else 68) else (bif Nat.blt i 22 then 80 else (bif Nat.blt i 23 then 66 else 246))) else (bif Nat.blt i 26 then (bif Nat.blt i 25 then 50 else 116) else (bif Nat.blt i 27 then 80 else (bif Nat.blt i 28 then 63 else 99)))) else (bif Nat.blt i 34 then (bif Nat.blt i 31 then (bif Nat.blt i 30 then 24 else 42) else (bif Nat.blt i 32 then 81 else (bif Nat.blt i 33 then 52 else 18))) else (bif Nat.blt i 36 then (bif Nat.blt i 35 then 19 else 11) else (bif Nat.blt i 37 then 15 else (bif Nat.blt i 38 then 33 else 53)))))) else (bif Nat.blt i 59 then (bif Nat.blt i 49 then (bif Nat.blt i 44 then (bif Nat.blt i 41 then (bif Nat.blt i 40 then 39 else 114) else (bif Nat.blt i 42 then 58 else (bif Nat.blt i 43 then 22 else 99))) else (bif Nat.blt i 46 then (bif Nat.blt i 45 then 56 else 129) else (bif Nat.blt i 47 then 50 else (bif Nat.blt i 48 then 53 else 124)))) else (bif Nat.blt i 54 then (bif Nat.blt i 51 then (bif Nat.blt i 50 then 45 else 41) else (bif Nat.blt i 52 then 91 else (bif Nat.blt i 53 then 11 else 12))) else (bif Nat.blt i 56 then (bif Nat.blt i 55 then 31 else 23) else (bif Nat.blt i 57 then 68 else (bif Nat.blt i 58 then 57 else 33))))) else (bif Nat.blt i 69 then (bif Nat.blt i 64 then (bif Nat.blt i 61 then (bif Nat.blt i 60 then 43 else 79) else (bif Nat.blt i 62 then 51 else (bif Nat.blt i 63 then 11 else 35))) else (bif Nat.blt i 66 then (bif Nat.blt i 65 then 207 else 113) else (bif Nat.blt i 67 then 82 else (bif Nat.blt i 68 then 147 else 44)))) else (bif Nat.blt i 74 then (bif Nat.blt i 71 then (bif Nat.blt i 70 then 44 else 169) else (bif Nat.blt i 72 then 23 else (bif Nat.blt i 73 then 65 else 82))) else (bif Nat.blt i 76 then (bif Nat.blt i 75 then 58 else 54) else (bif Nat.blt i 77 then 33 else (bif Nat.blt i 78 then 75 else 58))))))) else (bif Nat.blt i 119 then (bif Nat.blt i 99 then (bif Nat.blt i 89 then (bif Nat.blt i 84 then (bif Nat.blt i 81 then (bif Nat.blt i 80 then 66 else 6) else (bif Nat.blt i 82 then 43 else (bif Nat.blt i 83 then 27 else 57))) else (bif Nat.blt i 86 then (bif Nat.blt i 85 then 202 else 79) else (bif Nat.blt i 87 then 176 else (bif Nat.blt i 88 then 86 else 84)))) else (bif Nat.blt i 94 then (bif Nat.blt i 91 then (bif Nat.blt i 90 then 66 else 50) else (bif Nat.blt i 92 then 11 else (bif Nat.blt i 93 then 213 else 34))) else (bif Nat.blt i 96 then (bif Nat.blt i 95 then 25 else 24) else (bif Nat.blt i 97 then 24 else (bif Nat.blt i 98 then 14 else 43))))) else (bif Nat.blt i 109 then (bif Nat.blt i 104 then (bif Nat.blt i 101 then (bif Nat.blt i 100 then 37 else 53) else (bif Nat.blt i 102 then 35 else (bif Nat.blt i 103 then 97 else 28))) else (bif Nat.blt i 106 then (bif Nat.blt i 105 then 9 else 93) else (bif Nat.blt i 107 then 17 else (bif Nat.blt i 108 then 48 else 65)))) else (bif Nat.blt i 114 then (bif Nat.blt i 111 then (bif Nat.blt i 110 then 205 else 141) else (bif Nat.blt i 112 then 141 else (bif Nat.blt i 113 then 35 else 81))) else (bif Nat.blt i 116 then (bif Nat.blt i 115 then 46 else 67) else (bif Nat.blt i 117 then 102 else (bif Nat.blt i 118 then 31 else 29)))))) else (bif Nat.blt i 139 then (bif Nat.blt i 129 then (bif Nat.blt i 124 then (bif Nat.blt i 121 then (bif Nat.blt i 120 then 46 else 34) else (bif Nat.blt i 122 then 91 else (bif Nat.blt i 123 then 37 else 11))) else (bif Nat.blt i 126 then (bif Nat.blt i 125 then 68 else 27) else (bif Nat.blt i 127 then 114 else (bif Nat.blt i 128 then 29 else 14)))) else (bif Nat.blt i 134 then (bif Nat.blt i 131 then (bif Nat.blt i 130 then 16 else 13) else (bif Nat.blt i 132 then 12 else (bif Nat.blt i 133 then 18 else 31))) else (bif Nat.blt i 136 then (bif Nat.blt i 135 then 202 else 94) else (bif Nat.blt i 137 then 56 else (bif Nat.blt i 138 then 72 else 124))))) else (bif Nat.blt i 149 then (bif Nat.blt i 144 then (bif Nat.blt i 141 then (bif Nat.blt i 140 then 81 else 53) else (bif Nat.blt i 142 then 62 else (bif Nat.blt i 143 then 65 else 77))) else (bif Nat.blt i 146 then (bif Nat.blt i 145 then 128 else 90) else (bif Nat.blt i 147 then 189 else (bif Nat.blt i 148 then 37 else 40)))) else (bif Nat.blt i 154 then (bif Nat.blt i 151 then (bif Nat.blt i 150 then 85 else 15) else (bif Nat.blt i 152 then 53 else (bif Nat.blt i 153 then 259 else 13))) else (bif Nat.blt i 156 then (bif Nat.blt i 155 then 229 else 130) else (bif Nat.blt i 157 then 95 else (bif Nat.blt i 158 then 16 else 22)))))))) else (bif Nat.blt i 238 then (bif Nat.blt i 198 then (bif Nat.blt i 178 then (bif Nat.blt i 168 then (bif Nat.blt i 163 then (bif Nat.blt i 161 then (bif Nat.blt i 160 then 30 else 1289) else (bif Nat.blt i 162 then 16 else 20)) else (bif Nat.blt i 165 then (bif Nat.blt i 164 then 23 else 106) else (bif Nat.blt i 166 then 60 else (bif Nat.blt i 167 then 32 else 27)))) else (bif Nat.blt i 173 then (bif Nat.blt i 170 then (bif Nat.blt i 169 then 10 else 26) else (bif Nat.blt i 171 then 30 else (bif Nat.blt i 172 then 18 else 18))) else (bif Nat.blt i 175 then (bif Nat.blt i 174 then 18 else 15) else (bif Nat.blt i 176 then 10 else (bif Nat.blt i 177 then 9 else 9))))) else (bif Nat.blt i 188 then (bif Nat.blt i 183 then (bif Nat.blt i 180 then (bif Nat.blt i 179 then 12 else 15) else (bif Nat.blt i 181 then 14 else (bif Nat.blt i 182 then 112 else 98))) else (bif Nat.blt i 185 then (bif Nat.blt i 184 then 46 else 152) else (bif Nat.blt i 186 then 143 else (bif Nat.blt i 187 then 169 else 79)))) else (bif Nat.blt i 193 then (bif Nat.blt i 190 then (bif Nat.blt i 189 then 85 else 22) else (bif Nat.blt i 191 then 45 else (bif Nat.blt i 192 then 40 else 49))) else (bif Nat.blt i 195 then (bif Nat.blt i 194 then 27 else 19) else (bif Nat.blt i 196 then 30 else (bif Nat.blt i 197 then 10 else 66)))))) else (bif Nat.blt i 218 then (bif Nat.blt i 208 then (bif Nat.blt i 203 then (bif Nat.blt i 200 then (bif Nat.blt i 199 then 120 else 274) else (bif Nat.blt i 201 then 15 else (bif Nat.blt i 202 then 22 else 22))) else (bif Nat.blt i 205 then (bif Nat.blt i 204 then 39 else 47) else (bif Nat.blt i 206 then 80 else (bif Nat.blt i 207 then 103 else 68)))) else (bif Nat.blt i 213 then (bif Nat.blt i 210 then (bif Nat.blt i 209 then 96 else 21) else (bif Nat.blt i 211 then 58 else (bif Nat.blt i 212 then 240 else 48))) else (bif Nat.blt i 215 then (bif Nat.blt i 214 then 153 else 182) else (bif Nat.blt i 216 then 62 else (bif Nat.blt i 217 then 20 else 117))))) else (bif Nat.blt i 228 then (bif Nat.blt i 223 then (bif Nat.blt i 220 then (bif Nat.blt i 219 then 82 else 59) else (bif Nat.blt i 221 then 50 else (bif Nat.blt i 222 then 118 else 37))) else (bif Nat.blt i 225 then (bif Nat.blt i 224 then 121 else 30) else (bif Nat.blt i 226 then 111 else (bif Nat.blt i 227 then 183 else 64)))) else (bif Nat.blt i 233 then (bif Nat.blt i 230 then (bif Nat.blt i 229 then 87 else 27) else (bif Nat.blt i 231 then 99 else (bif Nat.blt i 232 then 76 else 122))) else (bif Nat.blt i 235 then (bif Nat.blt i 234 then 26 else 47) else (bif Nat.blt i 236 then 45 else (bif Nat.blt i 237 then 177 else 130))))))) else (bif Nat.blt i 278 then (bif Nat.blt i 258 then (bif Nat.blt i 248 then (bif Nat.blt i 243 then (bif Nat.blt i 240 then (bif Nat.blt i 239 then 25 else 84) else (bif Nat.blt i 241 then 111 else (bif Nat.blt i 242 then 31 else 158))) else (bif Nat.blt i 245 then (bif Nat.blt i 244 then 33 else 61) else (bif Nat.blt i 246 then 35 else (bif Nat.blt i 247 then 60 else 52)))) else (bif Nat.blt i 253 then (bif Nat.blt i 250 then (bif Nat.blt i 249 then 75 else 24) else (bif Nat.blt i 251 then 77 else (bif Nat.blt i 252 then 76 else 28))) else (bif Nat.blt i 255 then (bif Nat.blt i 254 then 38 else 212) else (bif Nat.blt i 256 then 57 else (bif Nat.blt i 257 then 10 else 69))))) else (bif Nat.blt i 268 then (bif Nat.blt i 263 then (bif Nat.blt i 260 then (bif Nat.blt i 259 then 23 else 42) else (bif Nat.blt i 261 then 178 else (bif Nat.blt i 262 then 79 else 47))) else (bif Nat.blt i 265 then (bif Nat.blt i 264 then 46 else 57) else (bif Nat.blt i 266 then 30 else (bif Nat.blt i 267 then 95 else 72)))) else (bif Nat.blt i 273 then (bif Nat.blt i 270 then (bif Nat.blt i 269 then 51 else 59) else (bif Nat.blt i 271 then 192 else (bif Nat.blt i 272 then 103 else 115))) else (bif Nat.blt i 275 then (bif Nat.blt i 274 then 28 else 191) else (bif Nat.blt i 276 then 60 else (bif Nat.blt i 277 then 39 else 115)))))) else (bif Nat.blt i 298 then (bif Nat.blt i 288 then (bif Nat.blt i 283 then (bif Nat.blt i 280 then (bif Nat.blt i 279 then 100 else 102) else (bif Nat.blt i 281 then 82 else (bif Nat.blt i 282 then 42 else 27))) else (bif Nat.blt i 285 then (bif Nat.blt i 284 then 112 else 38) else (bif Nat.blt i 286 then 20 else (bif Nat.blt i 287 then 164 else 61)))) else (bif Nat.blt i 293 then (bif Nat.blt i 290 then (bif Nat.blt i 289 then 48 else 170) else (bif Nat.blt i 291 then 50 else (bif Nat.blt i 292 then 101 else 70))) else (bif Nat.blt i 295 then (bif Nat.blt i 294 then 78 else 46) else (bif Nat.blt i 296 then 43 else (bif Nat.blt i 297 then 160 else 208))))) else (bif Nat.blt i 308 then (bif Nat.blt i 303 then (bif Nat.blt i 300 then (bif Nat.blt i 299 then 121 else 166) else (bif Nat.blt i 301 then 224 else (bif Nat.blt i 302 then 20 else 53))) else (bif Nat.blt i 305 then (bif Nat.blt i 304 then 11 else 25) else (bif Nat.blt i 306 then 7 else (bif Nat.blt i 307 then 37 else 15)))) else (bif Nat.blt i 313 then (bif Nat.blt i 310 then (bif Nat.blt i 309 then 19 else 10) else (bif Nat.blt i 311 then 15 else (bif Nat.blt i 312 then 17 else 37))) else (bif Nat.blt i 315 then (bif Nat.blt i 314 then 33 else 21) else (bif Nat.blt i 316 then 18 else (bif Nat.blt i 317 then 1448 else 0)))))))))
def xlnA (i : Nat) : Bool := (List.range (xsz i)).all (fun pc => match xi i pc with | none => true | some r => xln r)
set_option maxRecDepth 100000 in
theorem xlnA_0 : (List.range' 0 40).all xlnA = true := by decide +kernel
set_option maxRecDepth 100000 in
theorem xlnA_40 : (List.range' 40 40).all xlnA = true := by decide +kernel
set_option maxRecDepth 100000 in
theorem xlnA_80 : (List.range' 80 40).all xlnA = true := by decide +kernel
set_option maxRecDepth 100000 in
theorem xlnA_120 : (List.range' 120 40).all xlnA = true := by decide +kernel
set_option maxRecDepth 100000 in
theorem xlnA_160 : (List.range' 160 40).all xlnA = true := by decide +kernel
set_option maxRecDepth 100000 in
theorem xlnA_200 : (List.range' 200 40).all xlnA = true := by decide +kernel
set_option maxRecDepth 100000 in
theorem xlnA_240 : (List.range' 240 40).all xlnA = true := by decide +kernel
set_option maxRecDepth 100000 in
theorem xlnA_280 : (List.range' 280 37).all xlnA = true := by decide +kernel
def xP (i : Nat) : Prop := (∀ pc r, xi i pc = some r → decode (xc i) pc = .ok r) ∧ ∀ pc r, xi i pc = some r → pc < xsz i
theorem xPof {f : Nat → Option (Instr × Nat)} {c : ByteArray} {n : Nat} {g : Nat → Option (Instr × Nat)} (h : ∀ pc r, f pc = some r → decode c pc = .ok r) (hf : ∀ pc, f pc = bif Nat.blt pc n then g pc else none) {i : Nat} (h1 : ∀ pc, xi i pc = f pc) (h2 : xc i = c) (h3 : xsz i = n) : xP i := by
  refine ⟨fun pc r hr => ?_, fun pc r hr => ?_⟩
  · rw [h2]; rw [h1] at hr; exact h pc r hr
  · rw [h1, hf] at hr
    cases hb : Nat.blt pc n with
    | false => rw [hb] at hr; cases hr
    | true => rw [h3]; exact Nat.le_of_ble_eq_true hb
theorem xP_0 : xP 0 := xPof xi_0_ok (g := xg_0) (fun _ => rfl) (fun _ => rfl) rfl rfl
theorem xP_1 : xP 1 := xPof xi_1_ok (g := xg_1) (fun _ => rfl) (fun _ => rfl) rfl rfl
theorem xP_2 : xP 2 := xPof xi_2_ok (g := xg_2) (fun _ => rfl) (fun _ => rfl) rfl rfl
theorem xP_3 : xP 3 := xPof xi_3_ok (g := xg_3) (fun _ => rfl) (fun _ => rfl) rfl rfl
theorem xP_4 : xP 4 := xPof xi_4_ok (g := xg_4) (fun _ => rfl) (fun _ => rfl) rfl rfl
theorem xP_5 : xP 5 := xPof xi_5_ok (g := xg_5) (fun _ => rfl) (fun _ => rfl) rfl rfl
theorem xP_6 : xP 6 := xPof xi_6_ok (g := xg_6) (fun _ => rfl) (fun _ => rfl) rfl rfl
theorem xP_7 : xP 7 := xPof xi_7_ok (g := xg_7) (fun _ => rfl) (fun _ => rfl) rfl rfl
theorem xP_8 : xP 8 := xPof xi_8_ok (g := xg_8) (fun _ => rfl) (fun _ => rfl) rfl rfl
theorem xP_9 : xP 9 := xPof xi_9_ok (g := xg_9) (fun _ => rfl) (fun _ => rfl) rfl rfl
theorem xP_10 : xP 10 := xPof xi_10_ok (g := xg_10) (fun _ => rfl) (fun _ => rfl) rfl rfl
theorem xP_11 : xP 11 := xPof xi_11_ok (g := xg_11) (fun _ => rfl) (fun _ => rfl) rfl rfl
theorem xP_12 : xP 12 := xPof xi_12_ok (g := xg_12) (fun _ => rfl) (fun _ => rfl) rfl rfl
theorem xP_13 : xP 13 := xPof xi_13_ok (g := xg_13) (fun _ => rfl) (fun _ => rfl) rfl rfl
theorem xP_14 : xP 14 := xPof xi_14_ok (g := xg_14) (fun _ => rfl) (fun _ => rfl) rfl rfl
theorem xP_15 : xP 15 := xPof xi_15_ok (g := xg_15) (fun _ => rfl) (fun _ => rfl) rfl rfl
theorem xP_16 : xP 16 := xPof xi_16_ok (g := xg_16) (fun _ => rfl) (fun _ => rfl) rfl rfl
theorem xP_17 : xP 17 := xPof xi_17_ok (g := xg_17) (fun _ => rfl) (fun _ => rfl) rfl rfl
theorem xP_18 : xP 18 := xPof xi_18_ok (g := xg_18) (fun _ => rfl) (fun _ => rfl) rfl rfl
theorem xP_19 : xP 19 := xPof xi_19_ok (g := xg_19) (fun _ => rfl) (fun _ => rfl) rfl rfl
theorem xP_20 : xP 20 := xPof xi_20_ok (g := xg_20) (fun _ => rfl) (fun _ => rfl) rfl rfl
theorem xP_21 : xP 21 := xPof xi_21_ok (g := xg_21) (fun _ => rfl) (fun _ => rfl) rfl rfl
theorem xP_22 : xP 22 := xPof xi_22_ok (g := xg_22) (fun _ => rfl) (fun _ => rfl) rfl rfl
theorem xP_23 : xP 23 := xPof xi_23_ok (g := xg_23) (fun _ => rfl) (fun _ => rfl) rfl rfl
theorem xP_24 : xP 24 := xPof xi_24_ok (g := xg_24) (fun _ => rfl) (fun _ => rfl) rfl rfl
theorem xP_25 : xP 25 := xPof xi_25_ok (g := xg_25) (fun _ => rfl) (fun _ => rfl) rfl rfl
theorem xP_26 : xP 26 := xPof xi_26_ok (g := xg_26) (fun _ => rfl) (fun _ => rfl) rfl rfl
theorem xP_27 : xP 27 := xPof xi_27_ok (g := xg_27) (fun _ => rfl) (fun _ => rfl) rfl rfl
theorem xP_28 : xP 28 := xPof xi_28_ok (g := xg_28) (fun _ => rfl) (fun _ => rfl) rfl rfl
theorem xP_29 : xP 29 := xPof xi_29_ok (g := xg_29) (fun _ => rfl) (fun _ => rfl) rfl rfl
theorem xP_30 : xP 30 := xPof xi_30_ok (g := xg_30) (fun _ => rfl) (fun _ => rfl) rfl rfl
theorem xP_31 : xP 31 := xPof xi_31_ok (g := xg_31) (fun _ => rfl) (fun _ => rfl) rfl rfl
theorem xP_32 : xP 32 := xPof xi_32_ok (g := xg_32) (fun _ => rfl) (fun _ => rfl) rfl rfl
theorem xP_33 : xP 33 := xPof xi_33_ok (g := xg_33) (fun _ => rfl) (fun _ => rfl) rfl rfl
theorem xP_34 : xP 34 := xPof xi_34_ok (g := xg_34) (fun _ => rfl) (fun _ => rfl) rfl rfl
theorem xP_35 : xP 35 := xPof xi_35_ok (g := xg_35) (fun _ => rfl) (fun _ => rfl) rfl rfl
theorem xP_36 : xP 36 := xPof xi_36_ok (g := xg_36) (fun _ => rfl) (fun _ => rfl) rfl rfl
theorem xP_37 : xP 37 := xPof xi_37_ok (g := xg_37) (fun _ => rfl) (fun _ => rfl) rfl rfl
theorem xP_38 : xP 38 := xPof xi_38_ok (g := xg_38) (fun _ => rfl) (fun _ => rfl) rfl rfl
theorem xP_39 : xP 39 := xPof xi_39_ok (g := xg_39) (fun _ => rfl) (fun _ => rfl) rfl rfl
theorem xP_40 : xP 40 := xPof xi_40_ok (g := xg_40) (fun _ => rfl) (fun _ => rfl) rfl rfl
theorem xP_41 : xP 41 := xPof xi_41_ok (g := xg_41) (fun _ => rfl) (fun _ => rfl) rfl rfl
theorem xP_42 : xP 42 := xPof xi_42_ok (g := xg_42) (fun _ => rfl) (fun _ => rfl) rfl rfl
theorem xP_43 : xP 43 := xPof xi_43_ok (g := xg_43) (fun _ => rfl) (fun _ => rfl) rfl rfl
theorem xP_44 : xP 44 := xPof xi_44_ok (g := xg_44) (fun _ => rfl) (fun _ => rfl) rfl rfl
theorem xP_45 : xP 45 := xPof xi_45_ok (g := xg_45) (fun _ => rfl) (fun _ => rfl) rfl rfl
theorem xP_46 : xP 46 := xPof xi_46_ok (g := xg_46) (fun _ => rfl) (fun _ => rfl) rfl rfl
theorem xP_47 : xP 47 := xPof xi_47_ok (g := xg_47) (fun _ => rfl) (fun _ => rfl) rfl rfl
theorem xP_48 : xP 48 := xPof xi_48_ok (g := xg_48) (fun _ => rfl) (fun _ => rfl) rfl rfl
theorem xP_49 : xP 49 := xPof xi_49_ok (g := xg_49) (fun _ => rfl) (fun _ => rfl) rfl rfl
theorem xP_50 : xP 50 := xPof xi_50_ok (g := xg_50) (fun _ => rfl) (fun _ => rfl) rfl rfl
theorem xP_51 : xP 51 := xPof xi_51_ok (g := xg_51) (fun _ => rfl) (fun _ => rfl) rfl rfl
theorem xP_52 : xP 52 := xPof xi_52_ok (g := xg_52) (fun _ => rfl) (fun _ => rfl) rfl rfl
theorem xP_53 : xP 53 := xPof xi_53_ok (g := xg_53) (fun _ => rfl) (fun _ => rfl) rfl rfl
theorem xP_54 : xP 54 := xPof xi_54_ok (g := xg_54) (fun _ => rfl) (fun _ => rfl) rfl rfl
theorem xP_55 : xP 55 := xPof xi_55_ok (g := xg_55) (fun _ => rfl) (fun _ => rfl) rfl rfl
theorem xP_56 : xP 56 := xPof xi_56_ok (g := xg_56) (fun _ => rfl) (fun _ => rfl) rfl rfl
theorem xP_57 : xP 57 := xPof xi_57_ok (g := xg_57) (fun _ => rfl) (fun _ => rfl) rfl rfl
theorem xP_58 : xP 58 := xPof xi_58_ok (g := xg_58) (fun _ => rfl) (fun _ => rfl) rfl rfl
theorem xP_59 : xP 59 := xPof xi_59_ok (g := xg_59) (fun _ => rfl) (fun _ => rfl) rfl rfl
theorem xP_60 : xP 60 := xPof xi_60_ok (g := xg_60) (fun _ => rfl) (fun _ => rfl) rfl rfl
theorem xP_61 : xP 61 := xPof xi_61_ok (g := xg_61) (fun _ => rfl) (fun _ => rfl) rfl rfl
theorem xP_62 : xP 62 := xPof xi_62_ok (g := xg_62) (fun _ => rfl) (fun _ => rfl) rfl rfl
theorem xP_63 : xP 63 := xPof xi_63_ok (g := xg_63) (fun _ => rfl) (fun _ => rfl) rfl rfl
theorem xP_64 : xP 64 := xPof xi_64_ok (g := xg_64) (fun _ => rfl) (fun _ => rfl) rfl rfl
theorem xP_65 : xP 65 := xPof xi_65_ok (g := xg_65) (fun _ => rfl) (fun _ => rfl) rfl rfl
theorem xP_66 : xP 66 := xPof xi_66_ok (g := xg_66) (fun _ => rfl) (fun _ => rfl) rfl rfl
theorem xP_67 : xP 67 := xPof xi_67_ok (g := xg_67) (fun _ => rfl) (fun _ => rfl) rfl rfl
theorem xP_68 : xP 68 := xPof xi_68_ok (g := xg_68) (fun _ => rfl) (fun _ => rfl) rfl rfl
theorem xP_69 : xP 69 := xPof xi_69_ok (g := xg_69) (fun _ => rfl) (fun _ => rfl) rfl rfl
theorem xP_70 : xP 70 := xPof xi_70_ok (g := xg_70) (fun _ => rfl) (fun _ => rfl) rfl rfl
theorem xP_71 : xP 71 := xPof xi_71_ok (g := xg_71) (fun _ => rfl) (fun _ => rfl) rfl rfl
theorem xP_72 : xP 72 := xPof xi_72_ok (g := xg_72) (fun _ => rfl) (fun _ => rfl) rfl rfl
theorem xP_73 : xP 73 := xPof xi_73_ok (g := xg_73) (fun _ => rfl) (fun _ => rfl) rfl rfl
theorem xP_74 : xP 74 := xPof xi_74_ok (g := xg_74) (fun _ => rfl) (fun _ => rfl) rfl rfl
theorem xP_75 : xP 75 := xPof xi_75_ok (g := xg_75) (fun _ => rfl) (fun _ => rfl) rfl rfl
theorem xP_76 : xP 76 := xPof xi_76_ok (g := xg_76) (fun _ => rfl) (fun _ => rfl) rfl rfl
theorem xP_77 : xP 77 := xPof xi_77_ok (g := xg_77) (fun _ => rfl) (fun _ => rfl) rfl rfl
theorem xP_78 : xP 78 := xPof xi_78_ok (g := xg_78) (fun _ => rfl) (fun _ => rfl) rfl rfl
theorem xP_79 : xP 79 := xPof xi_79_ok (g := xg_79) (fun _ => rfl) (fun _ => rfl) rfl rfl
theorem xP_80 : xP 80 := xPof xi_80_ok (g := xg_80) (fun _ => rfl) (fun _ => rfl) rfl rfl
theorem xP_81 : xP 81 := xPof xi_81_ok (g := xg_81) (fun _ => rfl) (fun _ => rfl) rfl rfl
theorem xP_82 : xP 82 := xPof xi_82_ok (g := xg_82) (fun _ => rfl) (fun _ => rfl) rfl rfl
theorem xP_83 : xP 83 := xPof xi_83_ok (g := xg_83) (fun _ => rfl) (fun _ => rfl) rfl rfl
theorem xP_84 : xP 84 := xPof xi_84_ok (g := xg_84) (fun _ => rfl) (fun _ => rfl) rfl rfl
theorem xP_85 : xP 85 := xPof xi_85_ok (g := xg_85) (fun _ => rfl) (fun _ => rfl) rfl rfl
theorem xP_86 : xP 86 := xPof xi_86_ok (g := xg_86) (fun _ => rfl) (fun _ => rfl) rfl rfl
theorem xP_87 : xP 87 := xPof xi_87_ok (g := xg_87) (fun _ => rfl) (fun _ => rfl) rfl rfl
theorem xP_88 : xP 88 := xPof xi_88_ok (g := xg_88) (fun _ => rfl) (fun _ => rfl) rfl rfl
theorem xP_89 : xP 89 := xPof xi_89_ok (g := xg_89) (fun _ => rfl) (fun _ => rfl) rfl rfl
theorem xP_90 : xP 90 := xPof xi_90_ok (g := xg_90) (fun _ => rfl) (fun _ => rfl) rfl rfl
theorem xP_91 : xP 91 := xPof xi_91_ok (g := xg_91) (fun _ => rfl) (fun _ => rfl) rfl rfl
theorem xP_92 : xP 92 := xPof xi_92_ok (g := xg_92) (fun _ => rfl) (fun _ => rfl) rfl rfl
theorem xP_93 : xP 93 := xPof xi_93_ok (g := xg_93) (fun _ => rfl) (fun _ => rfl) rfl rfl
theorem xP_94 : xP 94 := xPof xi_94_ok (g := xg_94) (fun _ => rfl) (fun _ => rfl) rfl rfl
theorem xP_95 : xP 95 := xPof xi_95_ok (g := xg_95) (fun _ => rfl) (fun _ => rfl) rfl rfl
theorem xP_96 : xP 96 := xPof xi_96_ok (g := xg_96) (fun _ => rfl) (fun _ => rfl) rfl rfl
theorem xP_97 : xP 97 := xPof xi_97_ok (g := xg_97) (fun _ => rfl) (fun _ => rfl) rfl rfl
theorem xP_98 : xP 98 := xPof xi_98_ok (g := xg_98) (fun _ => rfl) (fun _ => rfl) rfl rfl
theorem xP_99 : xP 99 := xPof xi_99_ok (g := xg_99) (fun _ => rfl) (fun _ => rfl) rfl rfl
theorem xP_100 : xP 100 := xPof xi_100_ok (g := xg_100) (fun _ => rfl) (fun _ => rfl) rfl rfl
theorem xP_101 : xP 101 := xPof xi_101_ok (g := xg_101) (fun _ => rfl) (fun _ => rfl) rfl rfl
theorem xP_102 : xP 102 := xPof xi_102_ok (g := xg_102) (fun _ => rfl) (fun _ => rfl) rfl rfl
theorem xP_103 : xP 103 := xPof xi_103_ok (g := xg_103) (fun _ => rfl) (fun _ => rfl) rfl rfl
theorem xP_104 : xP 104 := xPof xi_104_ok (g := xg_104) (fun _ => rfl) (fun _ => rfl) rfl rfl
theorem xP_105 : xP 105 := xPof xi_105_ok (g := xg_105) (fun _ => rfl) (fun _ => rfl) rfl rfl
theorem xP_106 : xP 106 := xPof xi_106_ok (g := xg_106) (fun _ => rfl) (fun _ => rfl) rfl rfl
theorem xP_107 : xP 107 := xPof xi_107_ok (g := xg_107) (fun _ => rfl) (fun _ => rfl) rfl rfl
theorem xP_108 : xP 108 := xPof xi_108_ok (g := xg_108) (fun _ => rfl) (fun _ => rfl) rfl rfl
theorem xP_109 : xP 109 := xPof xi_109_ok (g := xg_109) (fun _ => rfl) (fun _ => rfl) rfl rfl
theorem xP_110 : xP 110 := xPof xi_110_ok (g := xg_110) (fun _ => rfl) (fun _ => rfl) rfl rfl
theorem xP_111 : xP 111 := xPof xi_111_ok (g := xg_111) (fun _ => rfl) (fun _ => rfl) rfl rfl
theorem xP_112 : xP 112 := xPof xi_112_ok (g := xg_112) (fun _ => rfl) (fun _ => rfl) rfl rfl
theorem xP_113 : xP 113 := xPof xi_113_ok (g := xg_113) (fun _ => rfl) (fun _ => rfl) rfl rfl
theorem xP_114 : xP 114 := xPof xi_114_ok (g := xg_114) (fun _ => rfl) (fun _ => rfl) rfl rfl
theorem xP_115 : xP 115 := xPof xi_115_ok (g := xg_115) (fun _ => rfl) (fun _ => rfl) rfl rfl
theorem xP_116 : xP 116 := xPof xi_116_ok (g := xg_116) (fun _ => rfl) (fun _ => rfl) rfl rfl
theorem xP_117 : xP 117 := xPof xi_117_ok (g := xg_117) (fun _ => rfl) (fun _ => rfl) rfl rfl
theorem xP_118 : xP 118 := xPof xi_118_ok (g := xg_118) (fun _ => rfl) (fun _ => rfl) rfl rfl
theorem xP_119 : xP 119 := xPof xi_119_ok (g := xg_119) (fun _ => rfl) (fun _ => rfl) rfl rfl
theorem xP_120 : xP 120 := xPof xi_120_ok (g := xg_120) (fun _ => rfl) (fun _ => rfl) rfl rfl
theorem xP_121 : xP 121 := xPof xi_121_ok (g := xg_121) (fun _ => rfl) (fun _ => rfl) rfl rfl
theorem xP_122 : xP 122 := xPof xi_122_ok (g := xg_122) (fun _ => rfl) (fun _ => rfl) rfl rfl
theorem xP_123 : xP 123 := xPof xi_123_ok (g := xg_123) (fun _ => rfl) (fun _ => rfl) rfl rfl
theorem xP_124 : xP 124 := xPof xi_124_ok (g := xg_124) (fun _ => rfl) (fun _ => rfl) rfl rfl
theorem xP_125 : xP 125 := xPof xi_125_ok (g := xg_125) (fun _ => rfl) (fun _ => rfl) rfl rfl
theorem xP_126 : xP 126 := xPof xi_126_ok (g := xg_126) (fun _ => rfl) (fun _ => rfl) rfl rfl
theorem xP_127 : xP 127 := xPof xi_127_ok (g := xg_127) (fun _ => rfl) (fun _ => rfl) rfl rfl
theorem xP_128 : xP 128 := xPof xi_128_ok (g := xg_128) (fun _ => rfl) (fun _ => rfl) rfl rfl
theorem xP_129 : xP 129 := xPof xi_129_ok (g := xg_129) (fun _ => rfl) (fun _ => rfl) rfl rfl
theorem xP_130 : xP 130 := xPof xi_130_ok (g := xg_130) (fun _ => rfl) (fun _ => rfl) rfl rfl
theorem xP_131 : xP 131 := xPof xi_131_ok (g := xg_131) (fun _ => rfl) (fun _ => rfl) rfl rfl
theorem xP_132 : xP 132 := xPof xi_132_ok (g := xg_132) (fun _ => rfl) (fun _ => rfl) rfl rfl
theorem xP_133 : xP 133 := xPof xi_133_ok (g := xg_133) (fun _ => rfl) (fun _ => rfl) rfl rfl
theorem xP_134 : xP 134 := xPof xi_134_ok (g := xg_134) (fun _ => rfl) (fun _ => rfl) rfl rfl
theorem xP_135 : xP 135 := xPof xi_135_ok (g := xg_135) (fun _ => rfl) (fun _ => rfl) rfl rfl
theorem xP_136 : xP 136 := xPof xi_136_ok (g := xg_136) (fun _ => rfl) (fun _ => rfl) rfl rfl
theorem xP_137 : xP 137 := xPof xi_137_ok (g := xg_137) (fun _ => rfl) (fun _ => rfl) rfl rfl
theorem xP_138 : xP 138 := xPof xi_138_ok (g := xg_138) (fun _ => rfl) (fun _ => rfl) rfl rfl
theorem xP_139 : xP 139 := xPof xi_139_ok (g := xg_139) (fun _ => rfl) (fun _ => rfl) rfl rfl
theorem xP_140 : xP 140 := xPof xi_140_ok (g := xg_140) (fun _ => rfl) (fun _ => rfl) rfl rfl
theorem xP_141 : xP 141 := xPof xi_141_ok (g := xg_141) (fun _ => rfl) (fun _ => rfl) rfl rfl
theorem xP_142 : xP 142 := xPof xi_142_ok (g := xg_142) (fun _ => rfl) (fun _ => rfl) rfl rfl
theorem xP_143 : xP 143 := xPof xi_143_ok (g := xg_143) (fun _ => rfl) (fun _ => rfl) rfl rfl
theorem xP_144 : xP 144 := xPof xi_144_ok (g := xg_144) (fun _ => rfl) (fun _ => rfl) rfl rfl
theorem xP_145 : xP 145 := xPof xi_145_ok (g := xg_145) (fun _ => rfl) (fun _ => rfl) rfl rfl
theorem xP_146 : xP 146 := xPof xi_146_ok (g := xg_146) (fun _ => rfl) (fun _ => rfl) rfl rfl
theorem xP_147 : xP 147 := xPof xi_147_ok (g := xg_147) (fun _ => rfl) (fun _ => rfl) rfl rfl
theorem xP_148 : xP 148 := xPof xi_148_ok (g := xg_148) (fun _ => rfl) (fun _ => rfl) rfl rfl
theorem xP_149 : xP 149 := xPof xi_149_ok (g := xg_149) (fun _ => rfl) (fun _ => rfl) rfl rfl
theorem xP_150 : xP 150 := xPof xi_150_ok (g := xg_150) (fun _ => rfl) (fun _ => rfl) rfl rfl
theorem xP_151 : xP 151 := xPof xi_151_ok (g := xg_151) (fun _ => rfl) (fun _ => rfl) rfl rfl
theorem xP_152 : xP 152 := xPof xi_152_ok (g := xg_152) (fun _ => rfl) (fun _ => rfl) rfl rfl
theorem xP_153 : xP 153 := xPof xi_153_ok (g := xg_153) (fun _ => rfl) (fun _ => rfl) rfl rfl
theorem xP_154 : xP 154 := xPof xi_154_ok (g := xg_154) (fun _ => rfl) (fun _ => rfl) rfl rfl
theorem xP_155 : xP 155 := xPof xi_155_ok (g := xg_155) (fun _ => rfl) (fun _ => rfl) rfl rfl
theorem xP_156 : xP 156 := xPof xi_156_ok (g := xg_156) (fun _ => rfl) (fun _ => rfl) rfl rfl
theorem xP_157 : xP 157 := xPof xi_157_ok (g := xg_157) (fun _ => rfl) (fun _ => rfl) rfl rfl
theorem xP_158 : xP 158 := xPof xi_158_ok (g := xg_158) (fun _ => rfl) (fun _ => rfl) rfl rfl
theorem xP_159 : xP 159 := xPof xi_159_ok (g := xg_159) (fun _ => rfl) (fun _ => rfl) rfl rfl
theorem xP_160 : xP 160 := xPof xi_160_ok (g := xg_160) (fun _ => rfl) (fun _ => rfl) rfl rfl
theorem xP_161 : xP 161 := xPof xi_161_ok (g := xg_161) (fun _ => rfl) (fun _ => rfl) rfl rfl
theorem xP_162 : xP 162 := xPof xi_162_ok (g := xg_162) (fun _ => rfl) (fun _ => rfl) rfl rfl
theorem xP_163 : xP 163 := xPof xi_163_ok (g := xg_163) (fun _ => rfl) (fun _ => rfl) rfl rfl
theorem xP_164 : xP 164 := xPof xi_164_ok (g := xg_164) (fun _ => rfl) (fun _ => rfl) rfl rfl
theorem xP_165 : xP 165 := xPof xi_165_ok (g := xg_165) (fun _ => rfl) (fun _ => rfl) rfl rfl
theorem xP_166 : xP 166 := xPof xi_166_ok (g := xg_166) (fun _ => rfl) (fun _ => rfl) rfl rfl
theorem xP_167 : xP 167 := xPof xi_167_ok (g := xg_167) (fun _ => rfl) (fun _ => rfl) rfl rfl
theorem xP_168 : xP 168 := xPof xi_168_ok (g := xg_168) (fun _ => rfl) (fun _ => rfl) rfl rfl
theorem xP_169 : xP 169 := xPof xi_169_ok (g := xg_169) (fun _ => rfl) (fun _ => rfl) rfl rfl
theorem xP_170 : xP 170 := xPof xi_170_ok (g := xg_170) (fun _ => rfl) (fun _ => rfl) rfl rfl
theorem xP_171 : xP 171 := xPof xi_171_ok (g := xg_171) (fun _ => rfl) (fun _ => rfl) rfl rfl
theorem xP_172 : xP 172 := xPof xi_172_ok (g := xg_172) (fun _ => rfl) (fun _ => rfl) rfl rfl
theorem xP_173 : xP 173 := xPof xi_173_ok (g := xg_173) (fun _ => rfl) (fun _ => rfl) rfl rfl
theorem xP_174 : xP 174 := xPof xi_174_ok (g := xg_174) (fun _ => rfl) (fun _ => rfl) rfl rfl
theorem xP_175 : xP 175 := xPof xi_175_ok (g := xg_175) (fun _ => rfl) (fun _ => rfl) rfl rfl
theorem xP_176 : xP 176 := xPof xi_176_ok (g := xg_176) (fun _ => rfl) (fun _ => rfl) rfl rfl
theorem xP_177 : xP 177 := xPof xi_177_ok (g := xg_177) (fun _ => rfl) (fun _ => rfl) rfl rfl
theorem xP_178 : xP 178 := xPof xi_178_ok (g := xg_178) (fun _ => rfl) (fun _ => rfl) rfl rfl
theorem xP_179 : xP 179 := xPof xi_179_ok (g := xg_179) (fun _ => rfl) (fun _ => rfl) rfl rfl
theorem xP_180 : xP 180 := xPof xi_180_ok (g := xg_180) (fun _ => rfl) (fun _ => rfl) rfl rfl
theorem xP_181 : xP 181 := xPof xi_181_ok (g := xg_181) (fun _ => rfl) (fun _ => rfl) rfl rfl
theorem xP_182 : xP 182 := xPof xi_182_ok (g := xg_182) (fun _ => rfl) (fun _ => rfl) rfl rfl
theorem xP_183 : xP 183 := xPof xi_183_ok (g := xg_183) (fun _ => rfl) (fun _ => rfl) rfl rfl
theorem xP_184 : xP 184 := xPof xi_184_ok (g := xg_184) (fun _ => rfl) (fun _ => rfl) rfl rfl
theorem xP_185 : xP 185 := xPof xi_185_ok (g := xg_185) (fun _ => rfl) (fun _ => rfl) rfl rfl
theorem xP_186 : xP 186 := xPof xi_186_ok (g := xg_186) (fun _ => rfl) (fun _ => rfl) rfl rfl
theorem xP_187 : xP 187 := xPof xi_187_ok (g := xg_187) (fun _ => rfl) (fun _ => rfl) rfl rfl
theorem xP_188 : xP 188 := xPof xi_188_ok (g := xg_188) (fun _ => rfl) (fun _ => rfl) rfl rfl
theorem xP_189 : xP 189 := xPof xi_189_ok (g := xg_189) (fun _ => rfl) (fun _ => rfl) rfl rfl
theorem xP_190 : xP 190 := xPof xi_190_ok (g := xg_190) (fun _ => rfl) (fun _ => rfl) rfl rfl
theorem xP_191 : xP 191 := xPof xi_191_ok (g := xg_191) (fun _ => rfl) (fun _ => rfl) rfl rfl
theorem xP_192 : xP 192 := xPof xi_192_ok (g := xg_192) (fun _ => rfl) (fun _ => rfl) rfl rfl
theorem xP_193 : xP 193 := xPof xi_193_ok (g := xg_193) (fun _ => rfl) (fun _ => rfl) rfl rfl
theorem xP_194 : xP 194 := xPof xi_194_ok (g := xg_194) (fun _ => rfl) (fun _ => rfl) rfl rfl
theorem xP_195 : xP 195 := xPof xi_195_ok (g := xg_195) (fun _ => rfl) (fun _ => rfl) rfl rfl
theorem xP_196 : xP 196 := xPof xi_196_ok (g := xg_196) (fun _ => rfl) (fun _ => rfl) rfl rfl
theorem xP_197 : xP 197 := xPof xi_197_ok (g := xg_197) (fun _ => rfl) (fun _ => rfl) rfl rfl
theorem xP_198 : xP 198 := xPof xi_198_ok (g := xg_198) (fun _ => rfl) (fun _ => rfl) rfl rfl
theorem xP_199 : xP 199 := xPof xi_199_ok (g := xg_199) (fun _ => rfl) (fun _ => rfl) rfl rfl
theorem xP_200 : xP 200 := xPof xi_200_ok (g := xg_200) (fun _ => rfl) (fun _ => rfl) rfl rfl
theorem xP_201 : xP 201 := xPof xi_201_ok (g := xg_201) (fun _ => rfl) (fun _ => rfl) rfl rfl
theorem xP_202 : xP 202 := xPof xi_202_ok (g := xg_202) (fun _ => rfl) (fun _ => rfl) rfl rfl
theorem xP_203 : xP 203 := xPof xi_203_ok (g := xg_203) (fun _ => rfl) (fun _ => rfl) rfl rfl
theorem xP_204 : xP 204 := xPof xi_204_ok (g := xg_204) (fun _ => rfl) (fun _ => rfl) rfl rfl
theorem xP_205 : xP 205 := xPof xi_205_ok (g := xg_205) (fun _ => rfl) (fun _ => rfl) rfl rfl
theorem xP_206 : xP 206 := xPof xi_206_ok (g := xg_206) (fun _ => rfl) (fun _ => rfl) rfl rfl
theorem xP_207 : xP 207 := xPof xi_207_ok (g := xg_207) (fun _ => rfl) (fun _ => rfl) rfl rfl
theorem xP_208 : xP 208 := xPof xi_208_ok (g := xg_208) (fun _ => rfl) (fun _ => rfl) rfl rfl
theorem xP_209 : xP 209 := xPof xi_209_ok (g := xg_209) (fun _ => rfl) (fun _ => rfl) rfl rfl
theorem xP_210 : xP 210 := xPof xi_210_ok (g := xg_210) (fun _ => rfl) (fun _ => rfl) rfl rfl
theorem xP_211 : xP 211 := xPof xi_211_ok (g := xg_211) (fun _ => rfl) (fun _ => rfl) rfl rfl
theorem xP_212 : xP 212 := xPof xi_212_ok (g := xg_212) (fun _ => rfl) (fun _ => rfl) rfl rfl
theorem xP_213 : xP 213 := xPof xi_213_ok (g := xg_213) (fun _ => rfl) (fun _ => rfl) rfl rfl
theorem xP_214 : xP 214 := xPof xi_214_ok (g := xg_214) (fun _ => rfl) (fun _ => rfl) rfl rfl
theorem xP_215 : xP 215 := xPof xi_215_ok (g := xg_215) (fun _ => rfl) (fun _ => rfl) rfl rfl
theorem xP_216 : xP 216 := xPof xi_216_ok (g := xg_216) (fun _ => rfl) (fun _ => rfl) rfl rfl
theorem xP_217 : xP 217 := xPof xi_217_ok (g := xg_217) (fun _ => rfl) (fun _ => rfl) rfl rfl
theorem xP_218 : xP 218 := xPof xi_218_ok (g := xg_218) (fun _ => rfl) (fun _ => rfl) rfl rfl
theorem xP_219 : xP 219 := xPof xi_219_ok (g := xg_219) (fun _ => rfl) (fun _ => rfl) rfl rfl
theorem xP_220 : xP 220 := xPof xi_220_ok (g := xg_220) (fun _ => rfl) (fun _ => rfl) rfl rfl
theorem xP_221 : xP 221 := xPof xi_221_ok (g := xg_221) (fun _ => rfl) (fun _ => rfl) rfl rfl
theorem xP_222 : xP 222 := xPof xi_222_ok (g := xg_222) (fun _ => rfl) (fun _ => rfl) rfl rfl
theorem xP_223 : xP 223 := xPof xi_223_ok (g := xg_223) (fun _ => rfl) (fun _ => rfl) rfl rfl
theorem xP_224 : xP 224 := xPof xi_224_ok (g := xg_224) (fun _ => rfl) (fun _ => rfl) rfl rfl
theorem xP_225 : xP 225 := xPof xi_225_ok (g := xg_225) (fun _ => rfl) (fun _ => rfl) rfl rfl
theorem xP_226 : xP 226 := xPof xi_226_ok (g := xg_226) (fun _ => rfl) (fun _ => rfl) rfl rfl
theorem xP_227 : xP 227 := xPof xi_227_ok (g := xg_227) (fun _ => rfl) (fun _ => rfl) rfl rfl
theorem xP_228 : xP 228 := xPof xi_228_ok (g := xg_228) (fun _ => rfl) (fun _ => rfl) rfl rfl
theorem xP_229 : xP 229 := xPof xi_229_ok (g := xg_229) (fun _ => rfl) (fun _ => rfl) rfl rfl
theorem xP_230 : xP 230 := xPof xi_230_ok (g := xg_230) (fun _ => rfl) (fun _ => rfl) rfl rfl
theorem xP_231 : xP 231 := xPof xi_231_ok (g := xg_231) (fun _ => rfl) (fun _ => rfl) rfl rfl
theorem xP_232 : xP 232 := xPof xi_232_ok (g := xg_232) (fun _ => rfl) (fun _ => rfl) rfl rfl
theorem xP_233 : xP 233 := xPof xi_233_ok (g := xg_233) (fun _ => rfl) (fun _ => rfl) rfl rfl
theorem xP_234 : xP 234 := xPof xi_234_ok (g := xg_234) (fun _ => rfl) (fun _ => rfl) rfl rfl
theorem xP_235 : xP 235 := xPof xi_235_ok (g := xg_235) (fun _ => rfl) (fun _ => rfl) rfl rfl
theorem xP_236 : xP 236 := xPof xi_236_ok (g := xg_236) (fun _ => rfl) (fun _ => rfl) rfl rfl
theorem xP_237 : xP 237 := xPof xi_237_ok (g := xg_237) (fun _ => rfl) (fun _ => rfl) rfl rfl
theorem xP_238 : xP 238 := xPof xi_238_ok (g := xg_238) (fun _ => rfl) (fun _ => rfl) rfl rfl
theorem xP_239 : xP 239 := xPof xi_239_ok (g := xg_239) (fun _ => rfl) (fun _ => rfl) rfl rfl
theorem xP_240 : xP 240 := xPof xi_240_ok (g := xg_240) (fun _ => rfl) (fun _ => rfl) rfl rfl
theorem xP_241 : xP 241 := xPof xi_241_ok (g := xg_241) (fun _ => rfl) (fun _ => rfl) rfl rfl
theorem xP_242 : xP 242 := xPof xi_242_ok (g := xg_242) (fun _ => rfl) (fun _ => rfl) rfl rfl
theorem xP_243 : xP 243 := xPof xi_243_ok (g := xg_243) (fun _ => rfl) (fun _ => rfl) rfl rfl
theorem xP_244 : xP 244 := xPof xi_244_ok (g := xg_244) (fun _ => rfl) (fun _ => rfl) rfl rfl
theorem xP_245 : xP 245 := xPof xi_245_ok (g := xg_245) (fun _ => rfl) (fun _ => rfl) rfl rfl
theorem xP_246 : xP 246 := xPof xi_246_ok (g := xg_246) (fun _ => rfl) (fun _ => rfl) rfl rfl
theorem xP_247 : xP 247 := xPof xi_247_ok (g := xg_247) (fun _ => rfl) (fun _ => rfl) rfl rfl
theorem xP_248 : xP 248 := xPof xi_248_ok (g := xg_248) (fun _ => rfl) (fun _ => rfl) rfl rfl
theorem xP_249 : xP 249 := xPof xi_249_ok (g := xg_249) (fun _ => rfl) (fun _ => rfl) rfl rfl
theorem xP_250 : xP 250 := xPof xi_250_ok (g := xg_250) (fun _ => rfl) (fun _ => rfl) rfl rfl
theorem xP_251 : xP 251 := xPof xi_251_ok (g := xg_251) (fun _ => rfl) (fun _ => rfl) rfl rfl
theorem xP_252 : xP 252 := xPof xi_252_ok (g := xg_252) (fun _ => rfl) (fun _ => rfl) rfl rfl
theorem xP_253 : xP 253 := xPof xi_253_ok (g := xg_253) (fun _ => rfl) (fun _ => rfl) rfl rfl
theorem xP_254 : xP 254 := xPof xi_254_ok (g := xg_254) (fun _ => rfl) (fun _ => rfl) rfl rfl
theorem xP_255 : xP 255 := xPof xi_255_ok (g := xg_255) (fun _ => rfl) (fun _ => rfl) rfl rfl
theorem xP_256 : xP 256 := xPof xi_256_ok (g := xg_256) (fun _ => rfl) (fun _ => rfl) rfl rfl
theorem xP_257 : xP 257 := xPof xi_257_ok (g := xg_257) (fun _ => rfl) (fun _ => rfl) rfl rfl
theorem xP_258 : xP 258 := xPof xi_258_ok (g := xg_258) (fun _ => rfl) (fun _ => rfl) rfl rfl
theorem xP_259 : xP 259 := xPof xi_259_ok (g := xg_259) (fun _ => rfl) (fun _ => rfl) rfl rfl
theorem xP_260 : xP 260 := xPof xi_260_ok (g := xg_260) (fun _ => rfl) (fun _ => rfl) rfl rfl
theorem xP_261 : xP 261 := xPof xi_261_ok (g := xg_261) (fun _ => rfl) (fun _ => rfl) rfl rfl
theorem xP_262 : xP 262 := xPof xi_262_ok (g := xg_262) (fun _ => rfl) (fun _ => rfl) rfl rfl
theorem xP_263 : xP 263 := xPof xi_263_ok (g := xg_263) (fun _ => rfl) (fun _ => rfl) rfl rfl
theorem xP_264 : xP 264 := xPof xi_264_ok (g := xg_264) (fun _ => rfl) (fun _ => rfl) rfl rfl
theorem xP_265 : xP 265 := xPof xi_265_ok (g := xg_265) (fun _ => rfl) (fun _ => rfl) rfl rfl
theorem xP_266 : xP 266 := xPof xi_266_ok (g := xg_266) (fun _ => rfl) (fun _ => rfl) rfl rfl
theorem xP_267 : xP 267 := xPof xi_267_ok (g := xg_267) (fun _ => rfl) (fun _ => rfl) rfl rfl
theorem xP_268 : xP 268 := xPof xi_268_ok (g := xg_268) (fun _ => rfl) (fun _ => rfl) rfl rfl
theorem xP_269 : xP 269 := xPof xi_269_ok (g := xg_269) (fun _ => rfl) (fun _ => rfl) rfl rfl
theorem xP_270 : xP 270 := xPof xi_270_ok (g := xg_270) (fun _ => rfl) (fun _ => rfl) rfl rfl
theorem xP_271 : xP 271 := xPof xi_271_ok (g := xg_271) (fun _ => rfl) (fun _ => rfl) rfl rfl
theorem xP_272 : xP 272 := xPof xi_272_ok (g := xg_272) (fun _ => rfl) (fun _ => rfl) rfl rfl
theorem xP_273 : xP 273 := xPof xi_273_ok (g := xg_273) (fun _ => rfl) (fun _ => rfl) rfl rfl
theorem xP_274 : xP 274 := xPof xi_274_ok (g := xg_274) (fun _ => rfl) (fun _ => rfl) rfl rfl
theorem xP_275 : xP 275 := xPof xi_275_ok (g := xg_275) (fun _ => rfl) (fun _ => rfl) rfl rfl
theorem xP_276 : xP 276 := xPof xi_276_ok (g := xg_276) (fun _ => rfl) (fun _ => rfl) rfl rfl
theorem xP_277 : xP 277 := xPof xi_277_ok (g := xg_277) (fun _ => rfl) (fun _ => rfl) rfl rfl
theorem xP_278 : xP 278 := xPof xi_278_ok (g := xg_278) (fun _ => rfl) (fun _ => rfl) rfl rfl
theorem xP_279 : xP 279 := xPof xi_279_ok (g := xg_279) (fun _ => rfl) (fun _ => rfl) rfl rfl
theorem xP_280 : xP 280 := xPof xi_280_ok (g := xg_280) (fun _ => rfl) (fun _ => rfl) rfl rfl
theorem xP_281 : xP 281 := xPof xi_281_ok (g := xg_281) (fun _ => rfl) (fun _ => rfl) rfl rfl
theorem xP_282 : xP 282 := xPof xi_282_ok (g := xg_282) (fun _ => rfl) (fun _ => rfl) rfl rfl
theorem xP_283 : xP 283 := xPof xi_283_ok (g := xg_283) (fun _ => rfl) (fun _ => rfl) rfl rfl
theorem xP_284 : xP 284 := xPof xi_284_ok (g := xg_284) (fun _ => rfl) (fun _ => rfl) rfl rfl
theorem xP_285 : xP 285 := xPof xi_285_ok (g := xg_285) (fun _ => rfl) (fun _ => rfl) rfl rfl
theorem xP_286 : xP 286 := xPof xi_286_ok (g := xg_286) (fun _ => rfl) (fun _ => rfl) rfl rfl
theorem xP_287 : xP 287 := xPof xi_287_ok (g := xg_287) (fun _ => rfl) (fun _ => rfl) rfl rfl
theorem xP_288 : xP 288 := xPof xi_288_ok (g := xg_288) (fun _ => rfl) (fun _ => rfl) rfl rfl
theorem xP_289 : xP 289 := xPof xi_289_ok (g := xg_289) (fun _ => rfl) (fun _ => rfl) rfl rfl
theorem xP_290 : xP 290 := xPof xi_290_ok (g := xg_290) (fun _ => rfl) (fun _ => rfl) rfl rfl
theorem xP_291 : xP 291 := xPof xi_291_ok (g := xg_291) (fun _ => rfl) (fun _ => rfl) rfl rfl
theorem xP_292 : xP 292 := xPof xi_292_ok (g := xg_292) (fun _ => rfl) (fun _ => rfl) rfl rfl
theorem xP_293 : xP 293 := xPof xi_293_ok (g := xg_293) (fun _ => rfl) (fun _ => rfl) rfl rfl
theorem xP_294 : xP 294 := xPof xi_294_ok (g := xg_294) (fun _ => rfl) (fun _ => rfl) rfl rfl
theorem xP_295 : xP 295 := xPof xi_295_ok (g := xg_295) (fun _ => rfl) (fun _ => rfl) rfl rfl
theorem xP_296 : xP 296 := xPof xi_296_ok (g := xg_296) (fun _ => rfl) (fun _ => rfl) rfl rfl
theorem xP_297 : xP 297 := xPof xi_297_ok (g := xg_297) (fun _ => rfl) (fun _ => rfl) rfl rfl
theorem xP_298 : xP 298 := xPof xi_298_ok (g := xg_298) (fun _ => rfl) (fun _ => rfl) rfl rfl
theorem xP_299 : xP 299 := xPof xi_299_ok (g := xg_299) (fun _ => rfl) (fun _ => rfl) rfl rfl
theorem xP_300 : xP 300 := xPof xi_300_ok (g := xg_300) (fun _ => rfl) (fun _ => rfl) rfl rfl
theorem xP_301 : xP 301 := xPof xi_301_ok (g := xg_301) (fun _ => rfl) (fun _ => rfl) rfl rfl
theorem xP_302 : xP 302 := xPof xi_302_ok (g := xg_302) (fun _ => rfl) (fun _ => rfl) rfl rfl
theorem xP_303 : xP 303 := xPof xi_303_ok (g := xg_303) (fun _ => rfl) (fun _ => rfl) rfl rfl
theorem xP_304 : xP 304 := xPof xi_304_ok (g := xg_304) (fun _ => rfl) (fun _ => rfl) rfl rfl
theorem xP_305 : xP 305 := xPof xi_305_ok (g := xg_305) (fun _ => rfl) (fun _ => rfl) rfl rfl
theorem xP_306 : xP 306 := xPof xi_306_ok (g := xg_306) (fun _ => rfl) (fun _ => rfl) rfl rfl
theorem xP_307 : xP 307 := xPof xi_307_ok (g := xg_307) (fun _ => rfl) (fun _ => rfl) rfl rfl
theorem xP_308 : xP 308 := xPof xi_308_ok (g := xg_308) (fun _ => rfl) (fun _ => rfl) rfl rfl
theorem xP_309 : xP 309 := xPof xi_309_ok (g := xg_309) (fun _ => rfl) (fun _ => rfl) rfl rfl
theorem xP_310 : xP 310 := xPof xi_310_ok (g := xg_310) (fun _ => rfl) (fun _ => rfl) rfl rfl
theorem xP_311 : xP 311 := xPof xi_311_ok (g := xg_311) (fun _ => rfl) (fun _ => rfl) rfl rfl
theorem xP_312 : xP 312 := xPof xi_312_ok (g := xg_312) (fun _ => rfl) (fun _ => rfl) rfl rfl
theorem xP_313 : xP 313 := xPof xi_313_ok (g := xg_313) (fun _ => rfl) (fun _ => rfl) rfl rfl
theorem xP_314 : xP 314 := xPof xi_314_ok (g := xg_314) (fun _ => rfl) (fun _ => rfl) rfl rfl
theorem xP_315 : xP 315 := xPof xi_315_ok (g := xg_315) (fun _ => rfl) (fun _ => rfl) rfl rfl
theorem xP_316 : xP 316 := xPof xi_316_ok (g := xg_316) (fun _ => rfl) (fun _ => rfl) rfl rfl
theorem xP_all0 : ∀ a, a < 0 → xP a := lt_0
theorem xP_all20 : ∀ a, a < 20 → xP a := (lt_s (lt_s (lt_s (lt_s (lt_s (lt_s (lt_s (lt_s (lt_s (lt_s (lt_s (lt_s (lt_s (lt_s (lt_s (lt_s (lt_s (lt_s (lt_s (lt_s xP_all0 xP_0) xP_1) xP_2) xP_3) xP_4) xP_5) xP_6) xP_7) xP_8) xP_9) xP_10) xP_11) xP_12) xP_13) xP_14) xP_15) xP_16) xP_17) xP_18) xP_19)
theorem xP_all40 : ∀ a, a < 40 → xP a := (lt_s (lt_s (lt_s (lt_s (lt_s (lt_s (lt_s (lt_s (lt_s (lt_s (lt_s (lt_s (lt_s (lt_s (lt_s (lt_s (lt_s (lt_s (lt_s (lt_s xP_all20 xP_20) xP_21) xP_22) xP_23) xP_24) xP_25) xP_26) xP_27) xP_28) xP_29) xP_30) xP_31) xP_32) xP_33) xP_34) xP_35) xP_36) xP_37) xP_38) xP_39)
theorem xP_all60 : ∀ a, a < 60 → xP a := (lt_s (lt_s (lt_s (lt_s (lt_s (lt_s (lt_s (lt_s (lt_s (lt_s (lt_s (lt_s (lt_s (lt_s (lt_s (lt_s (lt_s (lt_s (lt_s (lt_s xP_all40 xP_40) xP_41) xP_42) xP_43) xP_44) xP_45) xP_46) xP_47) xP_48) xP_49) xP_50) xP_51) xP_52) xP_53) xP_54) xP_55) xP_56) xP_57) xP_58) xP_59)
theorem xP_all80 : ∀ a, a < 80 → xP a := (lt_s (lt_s (lt_s (lt_s (lt_s (lt_s (lt_s (lt_s (lt_s (lt_s (lt_s (lt_s (lt_s (lt_s (lt_s (lt_s (lt_s (lt_s (lt_s (lt_s xP_all60 xP_60) xP_61) xP_62) xP_63) xP_64) xP_65) xP_66) xP_67) xP_68) xP_69) xP_70) xP_71) xP_72) xP_73) xP_74) xP_75) xP_76) xP_77) xP_78) xP_79)
theorem xP_all100 : ∀ a, a < 100 → xP a := (lt_s (lt_s (lt_s (lt_s (lt_s (lt_s (lt_s (lt_s (lt_s (lt_s (lt_s (lt_s (lt_s (lt_s (lt_s (lt_s (lt_s (lt_s (lt_s (lt_s xP_all80 xP_80) xP_81) xP_82) xP_83) xP_84) xP_85) xP_86) xP_87) xP_88) xP_89) xP_90) xP_91) xP_92) xP_93) xP_94) xP_95) xP_96) xP_97) xP_98) xP_99)
theorem xP_all120 : ∀ a, a < 120 → xP a := (lt_s (lt_s (lt_s (lt_s (lt_s (lt_s (lt_s (lt_s (lt_s (lt_s (lt_s (lt_s (lt_s (lt_s (lt_s (lt_s (lt_s (lt_s (lt_s (lt_s xP_all100 xP_100) xP_101) xP_102) xP_103) xP_104) xP_105) xP_106) xP_107) xP_108) xP_109) xP_110) xP_111) xP_112) xP_113) xP_114) xP_115) xP_116) xP_117) xP_118) xP_119)
theorem xP_all140 : ∀ a, a < 140 → xP a := (lt_s (lt_s (lt_s (lt_s (lt_s (lt_s (lt_s (lt_s (lt_s (lt_s (lt_s (lt_s (lt_s (lt_s (lt_s (lt_s (lt_s (lt_s (lt_s (lt_s xP_all120 xP_120) xP_121) xP_122) xP_123) xP_124) xP_125) xP_126) xP_127) xP_128) xP_129) xP_130) xP_131) xP_132) xP_133) xP_134) xP_135) xP_136) xP_137) xP_138) xP_139)
theorem xP_all160 : ∀ a, a < 160 → xP a := (lt_s (lt_s (lt_s (lt_s (lt_s (lt_s (lt_s (lt_s (lt_s (lt_s (lt_s (lt_s (lt_s (lt_s (lt_s (lt_s (lt_s (lt_s (lt_s (lt_s xP_all140 xP_140) xP_141) xP_142) xP_143) xP_144) xP_145) xP_146) xP_147) xP_148) xP_149) xP_150) xP_151) xP_152) xP_153) xP_154) xP_155) xP_156) xP_157) xP_158) xP_159)
theorem xP_all180 : ∀ a, a < 180 → xP a := (lt_s (lt_s (lt_s (lt_s (lt_s (lt_s (lt_s (lt_s (lt_s (lt_s (lt_s (lt_s (lt_s (lt_s (lt_s (lt_s (lt_s (lt_s (lt_s (lt_s xP_all160 xP_160) xP_161) xP_162) xP_163) xP_164) xP_165) xP_166) xP_167) xP_168) xP_169) xP_170) xP_171) xP_172) xP_173) xP_174) xP_175) xP_176) xP_177) xP_178) xP_179)
theorem xP_all200 : ∀ a, a < 200 → xP a := (lt_s (lt_s (lt_s (lt_s (lt_s (lt_s (lt_s (lt_s (lt_s (lt_s (lt_s (lt_s (lt_s (lt_s (lt_s (lt_s (lt_s (lt_s (lt_s (lt_s xP_all180 xP_180) xP_181) xP_182) xP_183) xP_184) xP_185) xP_186) xP_187) xP_188) xP_189) xP_190) xP_191) xP_192) xP_193) xP_194) xP_195) xP_196) xP_197) xP_198) xP_199)
theorem xP_all220 : ∀ a, a < 220 → xP a := (lt_s (lt_s (lt_s (lt_s (lt_s (lt_s (lt_s (lt_s (lt_s (lt_s (lt_s (lt_s (lt_s (lt_s (lt_s (lt_s (lt_s (lt_s (lt_s (lt_s xP_all200 xP_200) xP_201) xP_202) xP_203) xP_204) xP_205) xP_206) xP_207) xP_208) xP_209) xP_210) xP_211) xP_212) xP_213) xP_214) xP_215) xP_216) xP_217) xP_218) xP_219)
theorem xP_all240 : ∀ a, a < 240 → xP a := (lt_s (lt_s (lt_s (lt_s (lt_s (lt_s (lt_s (lt_s (lt_s (lt_s (lt_s (lt_s (lt_s (lt_s (lt_s (lt_s (lt_s (lt_s (lt_s (lt_s xP_all220 xP_220) xP_221) xP_222) xP_223) xP_224) xP_225) xP_226) xP_227) xP_228) xP_229) xP_230) xP_231) xP_232) xP_233) xP_234) xP_235) xP_236) xP_237) xP_238) xP_239)
theorem xP_all260 : ∀ a, a < 260 → xP a := (lt_s (lt_s (lt_s (lt_s (lt_s (lt_s (lt_s (lt_s (lt_s (lt_s (lt_s (lt_s (lt_s (lt_s (lt_s (lt_s (lt_s (lt_s (lt_s (lt_s xP_all240 xP_240) xP_241) xP_242) xP_243) xP_244) xP_245) xP_246) xP_247) xP_248) xP_249) xP_250) xP_251) xP_252) xP_253) xP_254) xP_255) xP_256) xP_257) xP_258) xP_259)
theorem xP_all280 : ∀ a, a < 280 → xP a := (lt_s (lt_s (lt_s (lt_s (lt_s (lt_s (lt_s (lt_s (lt_s (lt_s (lt_s (lt_s (lt_s (lt_s (lt_s (lt_s (lt_s (lt_s (lt_s (lt_s xP_all260 xP_260) xP_261) xP_262) xP_263) xP_264) xP_265) xP_266) xP_267) xP_268) xP_269) xP_270) xP_271) xP_272) xP_273) xP_274) xP_275) xP_276) xP_277) xP_278) xP_279)
theorem xP_all300 : ∀ a, a < 300 → xP a := (lt_s (lt_s (lt_s (lt_s (lt_s (lt_s (lt_s (lt_s (lt_s (lt_s (lt_s (lt_s (lt_s (lt_s (lt_s (lt_s (lt_s (lt_s (lt_s (lt_s xP_all280 xP_280) xP_281) xP_282) xP_283) xP_284) xP_285) xP_286) xP_287) xP_288) xP_289) xP_290) xP_291) xP_292) xP_293) xP_294) xP_295) xP_296) xP_297) xP_298) xP_299)
theorem xP_all317 : ∀ a, a < 317 → xP a := (lt_s (lt_s (lt_s (lt_s (lt_s (lt_s (lt_s (lt_s (lt_s (lt_s (lt_s (lt_s (lt_s (lt_s (lt_s (lt_s (lt_s xP_all300 xP_300) xP_301) xP_302) xP_303) xP_304) xP_305) xP_306) xP_307) xP_308) xP_309) xP_310) xP_311) xP_312) xP_313) xP_314) xP_315) xP_316)
