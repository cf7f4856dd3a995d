/-! part 14: the tables are right -/
theorem jv_Tb_ok : jv_TOk jv_Tb := by
  intro y pc o hf
  have key : ∀ a n, (List.range' a n).all (jv_mchk jv_Tb jv_mf jv_sts jv_ob jv_ac) = true → a ≤ y → y < a + n → jv_OOk jv_Tb y pc o ∧ plainName (jv_name jv_Tb y).cls = true ∧ Cond.code (jv_name jv_Tb y) (jv_bytes jv_Tb y) (jv_mL jv_Tb y) (jv_rt jv_Tb y) ∈ lw_ok := by
    intro a n h h1 h2
    exact jv_mchk_ok (VS := jv_sts) rfl rfl (List.all_eq_true.mp h y (List.mem_range'.mpr ⟨y - a, by omega, by omega⟩)) pc o hf
  by_cases h0 : y < 7
  · exact key 0 7 jv_k0 (by omega) (by omega)
  by_cases h1 : y < 22
  · exact key 7 15 jv_k1 (by omega) (by omega)
  by_cases h2 : y < 24
  · exact key 22 2 jv_k2 (by omega) (by omega)
  by_cases h3 : y < 26
  · exact key 24 2 jv_k3 (by omega) (by omega)
  by_cases h4 : y < 28
  · exact key 26 2 jv_k4 (by omega) (by omega)
  by_cases h5 : y < 31
  · exact key 28 3 jv_k5 (by omega) (by omega)
  by_cases h6 : y < 33
  · exact key 31 2 jv_k6 (by omega) (by omega)
  by_cases h7 : y < 35
  · exact key 33 2 jv_k7 (by omega) (by omega)
  by_cases h8 : y < 37
  · exact key 35 2 jv_k8 (by omega) (by omega)
  by_cases h9 : y < 39
  · exact key 37 2 jv_k9 (by omega) (by omega)
  by_cases h10 : y < 41
  · exact key 39 2 jv_k10 (by omega) (by omega)
  by_cases h11 : y < 42
  · exact key 41 1 jv_k11 (by omega) (by omega)
  by_cases h12 : y < 45
  · exact key 42 3 jv_k12 (by omega) (by omega)
  by_cases h13 : y < 46
  · exact key 45 1 jv_k13 (by omega) (by omega)
  by_cases h14 : y < 48
  · exact key 46 2 jv_k14 (by omega) (by omega)
  by_cases h15 : y < 51
  · exact key 48 3 jv_k15 (by omega) (by omega)
  by_cases h16 : y < 57
  · exact key 51 6 jv_k16 (by omega) (by omega)
  by_cases h17 : y < 61
  · exact key 57 4 jv_k17 (by omega) (by omega)
  by_cases h18 : y < 63
  · exact key 61 2 jv_k18 (by omega) (by omega)
  by_cases h19 : y < 66
  · exact key 63 3 jv_k19 (by omega) (by omega)
  by_cases h20 : y < 69
  · exact key 66 3 jv_k20 (by omega) (by omega)
  by_cases h21 : y < 74
  · exact key 69 5 jv_k21 (by omega) (by omega)
  by_cases h22 : y < 87
  · exact key 74 13 jv_k22 (by omega) (by omega)
  by_cases h23 : y < 94
  · exact key 87 7 jv_k23 (by omega) (by omega)
  by_cases h24 : y < 97
  · exact key 94 3 jv_k24 (by omega) (by omega)
  by_cases h25 : y < 100
  · exact key 97 3 jv_k25 (by omega) (by omega)
  by_cases h26 : y < 108
  · exact key 100 8 jv_k26 (by omega) (by omega)
  by_cases h27 : y < 113
  · exact key 108 5 jv_k27 (by omega) (by omega)
  by_cases h28 : y < 120
  · exact key 113 7 jv_k28 (by omega) (by omega)
  by_cases h29 : y < 125
  · exact key 120 5 jv_k29 (by omega) (by omega)
  by_cases h30 : y < 129
  · exact key 125 4 jv_k30 (by omega) (by omega)
  by_cases h31 : y < 135
  · exact key 129 6 jv_k31 (by omega) (by omega)
  by_cases h32 : y < 140
  · exact key 135 5 jv_k32 (by omega) (by omega)
  by_cases h33 : y < 150
  · exact key 140 10 jv_k33 (by omega) (by omega)
  by_cases h34 : y < 155
  · exact key 150 5 jv_k34 (by omega) (by omega)
  by_cases h35 : y < 156
  · exact key 155 1 jv_k35 (by omega) (by omega)
  by_cases h36 : y < 159
  · exact key 156 3 jv_k36 (by omega) (by omega)
  by_cases h37 : y < 160
  · exact key 159 1 jv_k37 (by omega) (by omega)
  by_cases h38 : y < 161
  · exact key 160 1 jv_k38 (by omega) (by omega)
  by_cases h39 : y < 165
  · exact key 161 4 jv_k39 (by omega) (by omega)
  by_cases h40 : y < 167
  · exact key 165 2 jv_k40 (by omega) (by omega)
  by_cases h41 : y < 169
  · exact key 167 2 jv_k41 (by omega) (by omega)
  by_cases h42 : y < 172
  · exact key 169 3 jv_k42 (by omega) (by omega)
  by_cases h43 : y < 175
  · exact key 172 3 jv_k43 (by omega) (by omega)
  by_cases h44 : y < 178
  · exact key 175 3 jv_k44 (by omega) (by omega)
  by_cases h45 : y < 182
  · exact key 178 4 jv_k45 (by omega) (by omega)
  by_cases h46 : y < 187
  · exact key 182 5 jv_k46 (by omega) (by omega)
  by_cases h47 : y < 202
  · exact key 187 15 jv_k47 (by omega) (by omega)
  by_cases h48 : y < 206
  · exact key 202 4 jv_k48 (by omega) (by omega)
  by_cases h49 : y < 211
  · exact key 206 5 jv_k49 (by omega) (by omega)
  by_cases h50 : y < 213
  · exact key 211 2 jv_k50 (by omega) (by omega)
  by_cases h51 : y < 215
  · exact key 213 2 jv_k51 (by omega) (by omega)
  by_cases h52 : y < 216
  · exact key 215 1 jv_k52 (by omega) (by omega)
  by_cases h53 : y < 217
  · exact key 216 1 jv_k53 (by omega) (by omega)
  by_cases h54 : y < 220
  · exact key 217 3 jv_k54 (by omega) (by omega)
  by_cases h55 : y < 223
  · exact key 220 3 jv_k55 (by omega) (by omega)
  by_cases h56 : y < 225
  · exact key 223 2 jv_k56 (by omega) (by omega)
  by_cases h57 : y < 226
  · exact key 225 1 jv_k57 (by omega) (by omega)
  by_cases h58 : y < 229
  · exact key 226 3 jv_k58 (by omega) (by omega)
  by_cases h59 : y < 230
  · exact key 229 1 jv_k59 (by omega) (by omega)
  by_cases h60 : y < 233
  · exact key 230 3 jv_k60 (by omega) (by omega)
  by_cases h61 : y < 235
  · exact key 233 2 jv_k61 (by omega) (by omega)
  by_cases h62 : y < 236
  · exact key 235 1 jv_k62 (by omega) (by omega)
  by_cases h63 : y < 237
  · exact key 236 1 jv_k63 (by omega) (by omega)
  by_cases h64 : y < 239
  · exact key 237 2 jv_k64 (by omega) (by omega)
  by_cases h65 : y < 241
  · exact key 239 2 jv_k65 (by omega) (by omega)
  by_cases h66 : y < 242
  · exact key 241 1 jv_k66 (by omega) (by omega)
  by_cases h67 : y < 244
  · exact key 242 2 jv_k67 (by omega) (by omega)
  by_cases h68 : y < 247
  · exact key 244 3 jv_k68 (by omega) (by omega)
  by_cases h69 : y < 248
  · exact key 247 1 jv_k69 (by omega) (by omega)
  by_cases h70 : y < 250
  · exact key 248 2 jv_k70 (by omega) (by omega)
  by_cases h71 : y < 252
  · exact key 250 2 jv_k71 (by omega) (by omega)
  by_cases h72 : y < 261
  · exact key 252 9 jv_k72 (by omega) (by omega)
  by_cases h73 : y < 265
  · exact key 261 4 jv_k73 (by omega) (by omega)
  by_cases h74 : y < 267
  · exact key 265 2 jv_k74 (by omega) (by omega)
  by_cases h75 : y < 269
  · exact key 267 2 jv_k75 (by omega) (by omega)
  by_cases h76 : y < 274
  · exact key 269 5 jv_k76 (by omega) (by omega)
  by_cases h77 : y < 280
  · exact key 274 6 jv_k77 (by omega) (by omega)
  by_cases h78 : y < 281
  · exact key 280 1 jv_k78 (by omega) (by omega)
  by_cases h79 : y < 285
  · exact key 281 4 jv_k79 (by omega) (by omega)
  by_cases h80 : y < 286
  · exact key 285 1 jv_k80 (by omega) (by omega)
  by_cases h81 : y < 287
  · exact key 286 1 jv_k81 (by omega) (by omega)
  by_cases h82 : y < 288
  · exact key 287 1 jv_k82 (by omega) (by omega)
  by_cases h83 : y < 292
  · exact key 288 4 jv_k83 (by omega) (by omega)
  by_cases h84 : y < 294
  · exact key 292 2 jv_k84 (by omega) (by omega)
  by_cases h85 : y < 295
  · exact key 294 1 jv_k85 (by omega) (by omega)
  by_cases h86 : y < 296
  · exact key 295 1 jv_k86 (by omega) (by omega)
  by_cases h87 : y < 300
  · exact key 296 4 jv_k87 (by omega) (by omega)
  by_cases h88 : y < 302
  · exact key 300 2 jv_k88 (by omega) (by omega)
  by_cases h89 : y < 306
  · exact key 302 4 jv_k89 (by omega) (by omega)
  by_cases h90 : y < 309
  · exact key 306 3 jv_k90 (by omega) (by omega)
  by_cases h91 : y < 310
  · exact key 309 1 jv_k91 (by omega) (by omega)
  by_cases h92 : y < 313
  · exact key 310 3 jv_k92 (by omega) (by omega)
  by_cases h93 : y < 316
  · exact key 313 3 jv_k93 (by omega) (by omega)
  by_cases h94 : y < 323
  · exact key 316 7 jv_k94 (by omega) (by omega)
  by_cases h95 : y < 325
  · exact key 323 2 jv_k95 (by omega) (by omega)
  by_cases h96 : y < 332
  · exact key 325 7 jv_k96 (by omega) (by omega)
  by_cases h97 : y < 338
  · exact key 332 6 jv_k97 (by omega) (by omega)
  by_cases h98 : y < 341
  · exact key 338 3 jv_k98 (by omega) (by omega)
  by_cases h99 : y < 346
  · exact key 341 5 jv_k99 (by omega) (by omega)
  by_cases h100 : y < 347
  · exact key 346 1 jv_k100 (by omega) (by omega)
  by_cases h101 : y < 348
  · exact key 347 1 jv_k101 (by omega) (by omega)
  by_cases h102 : y < 351
  · exact key 348 3 jv_k102 (by omega) (by omega)
  by_cases h103 : y < 354
  · exact key 351 3 jv_k103 (by omega) (by omega)
  by_cases h104 : y < 361
  · exact key 354 7 jv_k104 (by omega) (by omega)
  by_cases h105 : y < 368
  · exact key 361 7 jv_k105 (by omega) (by omega)
  by_cases h106 : y < 371
  · exact key 368 3 jv_k106 (by omega) (by omega)
  by_cases h107 : y < 377
  · exact key 371 6 jv_k107 (by omega) (by omega)
  by_cases h108 : y < 382
  · exact key 377 5 jv_k108 (by omega) (by omega)
  by_cases h109 : y < 384
  · exact key 382 2 jv_k109 (by omega) (by omega)
  by_cases h110 : y < 392
  · exact key 384 8 jv_k110 (by omega) (by omega)
  by_cases h111 : y < 394
  · exact key 392 2 jv_k111 (by omega) (by omega)
  by_cases h112 : y < 396
  · exact key 394 2 jv_k112 (by omega) (by omega)
  by_cases h113 : y < 399
  · exact key 396 3 jv_k113 (by omega) (by omega)
  by_cases h114 : y < 401
  · exact key 399 2 jv_k114 (by omega) (by omega)
  by_cases h115 : y < 404
  · exact key 401 3 jv_k115 (by omega) (by omega)
  by_cases h116 : y < 415
  · exact key 404 11 jv_k116 (by omega) (by omega)
  by_cases h117 : y < 423
  · exact key 415 8 jv_k117 (by omega) (by omega)
  by_cases h118 : y < 436
  · exact key 423 13 jv_k118 (by omega) (by omega)
  by_cases h119 : y < 439
  · exact key 436 3 jv_k119 (by omega) (by omega)
  · exfalso
    have hl : jv_ms.length ≤ y := Nat.le_trans (by decide +kernel : jv_ms.length ≤ 439) (by omega)
    have : jv_code jv_Tb y = [] := by
      show (jv_ms.getD y jv_no).2.2.2.2.2 = []
      rw [List.getD_eq_getElem?_getD, List.getElem?_eq_none hl]
      rfl
    rw [this] at hf
    cases hf
