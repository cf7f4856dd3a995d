/-! part 14: the tables are right -/
theorem jv_Tb_ok : jv_TOk jv_Tb := by
  intro y pc o hf
  have key : ∀ a n, (List.range' a n).all (jv_mchk jv_Tb jv_mf jv_sts jv_ob jv_ac) = true → a ≤ y → y < a + n → jv_OOk jv_Tb y pc o ∧ plainName (jv_name jv_Tb y).cls = true ∧ Cond.code (jv_name jv_Tb y) (jv_bytes jv_Tb y) (jv_mL jv_Tb y) (jv_rt jv_Tb y) ∈ lw_ok := by
    intro a n h h1 h2
    exact jv_mchk_ok (VS := jv_sts) rfl rfl (List.all_eq_true.mp h y (List.mem_range'.mpr ⟨y - a, by omega, by omega⟩)) pc o hf
  by_cases h0 : y < 10
  · exact key 0 10 jv_k0 (by omega) (by omega)
  by_cases h1 : y < 19
  · exact key 10 9 jv_k1 (by omega) (by omega)
  by_cases h2 : y < 27
  · exact key 19 8 jv_k2 (by omega) (by omega)
  by_cases h3 : y < 28
  · exact key 27 1 jv_k3 (by omega) (by omega)
  by_cases h4 : y < 30
  · exact key 28 2 jv_k4 (by omega) (by omega)
  by_cases h5 : y < 32
  · exact key 30 2 jv_k5 (by omega) (by omega)
  by_cases h6 : y < 35
  · exact key 32 3 jv_k6 (by omega) (by omega)
  by_cases h7 : y < 37
  · exact key 35 2 jv_k7 (by omega) (by omega)
  by_cases h8 : y < 39
  · exact key 37 2 jv_k8 (by omega) (by omega)
  by_cases h9 : y < 41
  · exact key 39 2 jv_k9 (by omega) (by omega)
  by_cases h10 : y < 43
  · exact key 41 2 jv_k10 (by omega) (by omega)
  by_cases h11 : y < 45
  · exact key 43 2 jv_k11 (by omega) (by omega)
  by_cases h12 : y < 46
  · exact key 45 1 jv_k12 (by omega) (by omega)
  by_cases h13 : y < 49
  · exact key 46 3 jv_k13 (by omega) (by omega)
  by_cases h14 : y < 50
  · exact key 49 1 jv_k14 (by omega) (by omega)
  by_cases h15 : y < 52
  · exact key 50 2 jv_k15 (by omega) (by omega)
  by_cases h16 : y < 55
  · exact key 52 3 jv_k16 (by omega) (by omega)
  by_cases h17 : y < 61
  · exact key 55 6 jv_k17 (by omega) (by omega)
  by_cases h18 : y < 65
  · exact key 61 4 jv_k18 (by omega) (by omega)
  by_cases h19 : y < 67
  · exact key 65 2 jv_k19 (by omega) (by omega)
  by_cases h20 : y < 70
  · exact key 67 3 jv_k20 (by omega) (by omega)
  by_cases h21 : y < 73
  · exact key 70 3 jv_k21 (by omega) (by omega)
  by_cases h22 : y < 78
  · exact key 73 5 jv_k22 (by omega) (by omega)
  by_cases h23 : y < 91
  · exact key 78 13 jv_k23 (by omega) (by omega)
  by_cases h24 : y < 98
  · exact key 91 7 jv_k24 (by omega) (by omega)
  by_cases h25 : y < 101
  · exact key 98 3 jv_k25 (by omega) (by omega)
  by_cases h26 : y < 104
  · exact key 101 3 jv_k26 (by omega) (by omega)
  by_cases h27 : y < 112
  · exact key 104 8 jv_k27 (by omega) (by omega)
  by_cases h28 : y < 117
  · exact key 112 5 jv_k28 (by omega) (by omega)
  by_cases h29 : y < 124
  · exact key 117 7 jv_k29 (by omega) (by omega)
  by_cases h30 : y < 129
  · exact key 124 5 jv_k30 (by omega) (by omega)
  by_cases h31 : y < 133
  · exact key 129 4 jv_k31 (by omega) (by omega)
  by_cases h32 : y < 139
  · exact key 133 6 jv_k32 (by omega) (by omega)
  by_cases h33 : y < 144
  · exact key 139 5 jv_k33 (by omega) (by omega)
  by_cases h34 : y < 154
  · exact key 144 10 jv_k34 (by omega) (by omega)
  by_cases h35 : y < 159
  · exact key 154 5 jv_k35 (by omega) (by omega)
  by_cases h36 : y < 160
  · exact key 159 1 jv_k36 (by omega) (by omega)
  by_cases h37 : y < 163
  · exact key 160 3 jv_k37 (by omega) (by omega)
  by_cases h38 : y < 164
  · exact key 163 1 jv_k38 (by omega) (by omega)
  by_cases h39 : y < 165
  · exact key 164 1 jv_k39 (by omega) (by omega)
  by_cases h40 : y < 169
  · exact key 165 4 jv_k40 (by omega) (by omega)
  by_cases h41 : y < 171
  · exact key 169 2 jv_k41 (by omega) (by omega)
  by_cases h42 : y < 173
  · exact key 171 2 jv_k42 (by omega) (by omega)
  by_cases h43 : y < 176
  · exact key 173 3 jv_k43 (by omega) (by omega)
  by_cases h44 : y < 179
  · exact key 176 3 jv_k44 (by omega) (by omega)
  by_cases h45 : y < 182
  · exact key 179 3 jv_k45 (by omega) (by omega)
  by_cases h46 : y < 186
  · exact key 182 4 jv_k46 (by omega) (by omega)
  by_cases h47 : y < 191
  · exact key 186 5 jv_k47 (by omega) (by omega)
  by_cases h48 : y < 206
  · exact key 191 15 jv_k48 (by omega) (by omega)
  by_cases h49 : y < 210
  · exact key 206 4 jv_k49 (by omega) (by omega)
  by_cases h50 : y < 215
  · exact key 210 5 jv_k50 (by omega) (by omega)
  by_cases h51 : y < 217
  · exact key 215 2 jv_k51 (by omega) (by omega)
  by_cases h52 : y < 219
  · exact key 217 2 jv_k52 (by omega) (by omega)
  by_cases h53 : y < 220
  · exact key 219 1 jv_k53 (by omega) (by omega)
  by_cases h54 : y < 221
  · exact key 220 1 jv_k54 (by omega) (by omega)
  by_cases h55 : y < 224
  · exact key 221 3 jv_k55 (by omega) (by omega)
  by_cases h56 : y < 227
  · exact key 224 3 jv_k56 (by omega) (by omega)
  by_cases h57 : y < 229
  · exact key 227 2 jv_k57 (by omega) (by omega)
  by_cases h58 : y < 230
  · exact key 229 1 jv_k58 (by omega) (by omega)
  by_cases h59 : y < 233
  · exact key 230 3 jv_k59 (by omega) (by omega)
  by_cases h60 : y < 234
  · exact key 233 1 jv_k60 (by omega) (by omega)
  by_cases h61 : y < 237
  · exact key 234 3 jv_k61 (by omega) (by omega)
  by_cases h62 : y < 239
  · exact key 237 2 jv_k62 (by omega) (by omega)
  by_cases h63 : y < 240
  · exact key 239 1 jv_k63 (by omega) (by omega)
  by_cases h64 : y < 241
  · exact key 240 1 jv_k64 (by omega) (by omega)
  by_cases h65 : y < 243
  · exact key 241 2 jv_k65 (by omega) (by omega)
  by_cases h66 : y < 245
  · exact key 243 2 jv_k66 (by omega) (by omega)
  by_cases h67 : y < 246
  · exact key 245 1 jv_k67 (by omega) (by omega)
  by_cases h68 : y < 248
  · exact key 246 2 jv_k68 (by omega) (by omega)
  by_cases h69 : y < 251
  · exact key 248 3 jv_k69 (by omega) (by omega)
  by_cases h70 : y < 252
  · exact key 251 1 jv_k70 (by omega) (by omega)
  by_cases h71 : y < 254
  · exact key 252 2 jv_k71 (by omega) (by omega)
  by_cases h72 : y < 256
  · exact key 254 2 jv_k72 (by omega) (by omega)
  by_cases h73 : y < 265
  · exact key 256 9 jv_k73 (by omega) (by omega)
  by_cases h74 : y < 269
  · exact key 265 4 jv_k74 (by omega) (by omega)
  by_cases h75 : y < 271
  · exact key 269 2 jv_k75 (by omega) (by omega)
  by_cases h76 : y < 273
  · exact key 271 2 jv_k76 (by omega) (by omega)
  by_cases h77 : y < 278
  · exact key 273 5 jv_k77 (by omega) (by omega)
  by_cases h78 : y < 284
  · exact key 278 6 jv_k78 (by omega) (by omega)
  by_cases h79 : y < 285
  · exact key 284 1 jv_k79 (by omega) (by omega)
  by_cases h80 : y < 289
  · exact key 285 4 jv_k80 (by omega) (by omega)
  by_cases h81 : y < 290
  · exact key 289 1 jv_k81 (by omega) (by omega)
  by_cases h82 : y < 291
  · exact key 290 1 jv_k82 (by omega) (by omega)
  by_cases h83 : y < 292
  · exact key 291 1 jv_k83 (by omega) (by omega)
  by_cases h84 : y < 296
  · exact key 292 4 jv_k84 (by omega) (by omega)
  by_cases h85 : y < 298
  · exact key 296 2 jv_k85 (by omega) (by omega)
  by_cases h86 : y < 299
  · exact key 298 1 jv_k86 (by omega) (by omega)
  by_cases h87 : y < 300
  · exact key 299 1 jv_k87 (by omega) (by omega)
  by_cases h88 : y < 304
  · exact key 300 4 jv_k88 (by omega) (by omega)
  by_cases h89 : y < 306
  · exact key 304 2 jv_k89 (by omega) (by omega)
  by_cases h90 : y < 310
  · exact key 306 4 jv_k90 (by omega) (by omega)
  by_cases h91 : y < 313
  · exact key 310 3 jv_k91 (by omega) (by omega)
  by_cases h92 : y < 314
  · exact key 313 1 jv_k92 (by omega) (by omega)
  by_cases h93 : y < 317
  · exact key 314 3 jv_k93 (by omega) (by omega)
  by_cases h94 : y < 320
  · exact key 317 3 jv_k94 (by omega) (by omega)
  by_cases h95 : y < 327
  · exact key 320 7 jv_k95 (by omega) (by omega)
  by_cases h96 : y < 329
  · exact key 327 2 jv_k96 (by omega) (by omega)
  by_cases h97 : y < 336
  · exact key 329 7 jv_k97 (by omega) (by omega)
  by_cases h98 : y < 342
  · exact key 336 6 jv_k98 (by omega) (by omega)
  by_cases h99 : y < 345
  · exact key 342 3 jv_k99 (by omega) (by omega)
  by_cases h100 : y < 350
  · exact key 345 5 jv_k100 (by omega) (by omega)
  by_cases h101 : y < 351
  · exact key 350 1 jv_k101 (by omega) (by omega)
  by_cases h102 : y < 352
  · exact key 351 1 jv_k102 (by omega) (by omega)
  by_cases h103 : y < 355
  · exact key 352 3 jv_k103 (by omega) (by omega)
  by_cases h104 : y < 358
  · exact key 355 3 jv_k104 (by omega) (by omega)
  by_cases h105 : y < 365
  · exact key 358 7 jv_k105 (by omega) (by omega)
  by_cases h106 : y < 372
  · exact key 365 7 jv_k106 (by omega) (by omega)
  by_cases h107 : y < 375
  · exact key 372 3 jv_k107 (by omega) (by omega)
  by_cases h108 : y < 381
  · exact key 375 6 jv_k108 (by omega) (by omega)
  by_cases h109 : y < 386
  · exact key 381 5 jv_k109 (by omega) (by omega)
  by_cases h110 : y < 388
  · exact key 386 2 jv_k110 (by omega) (by omega)
  by_cases h111 : y < 396
  · exact key 388 8 jv_k111 (by omega) (by omega)
  by_cases h112 : y < 398
  · exact key 396 2 jv_k112 (by omega) (by omega)
  by_cases h113 : y < 400
  · exact key 398 2 jv_k113 (by omega) (by omega)
  by_cases h114 : y < 403
  · exact key 400 3 jv_k114 (by omega) (by omega)
  by_cases h115 : y < 405
  · exact key 403 2 jv_k115 (by omega) (by omega)
  by_cases h116 : y < 408
  · exact key 405 3 jv_k116 (by omega) (by omega)
  by_cases h117 : y < 419
  · exact key 408 11 jv_k117 (by omega) (by omega)
  by_cases h118 : y < 422
  · exact key 419 3 jv_k118 (by omega) (by omega)
  · exfalso
    have hl : jv_ms.length ≤ y := Nat.le_trans (by decide +kernel : jv_ms.length ≤ 422) (by omega)
    have : jv_code jv_Tb y = [] := by show (jv_ms.getD y jv_no).2.2.2.2.2 = []; rw [List.getD_eq_default _ _ hl]
    rw [this] at hf
    cases hf
