theorem dL_law__0 : decode cL_law_ 0 = .ok (.new 8, 3) := by decide +kernel
theorem dL_law__3 : decode cL_law_ 3 = .ok (.dup, 1) := by decide +kernel
theorem dL_law__4 : decode cL_law_ 4 = .ok (.invokespecial 89, 3) := by decide +kernel
theorem dL_law__7 : decode cL_law_ 7 = .ok (.astore_n 1, 1) := by decide +kernel
theorem dL_law__8 : decode cL_law_ 8 = .ok (.new 90, 3) := by decide +kernel
theorem dL_law__11 : decode cL_law_ 11 = .ok (.dup, 1) := by decide +kernel
theorem dL_law__12 : decode cL_law_ 12 = .ok (.invokespecial 92, 3) := by decide +kernel
theorem dL_law__15 : decode cL_law_ 15 = .ok (.astore_n 2, 1) := by decide +kernel
theorem dL_law__16 : decode cL_law_ 16 = .ok (.iconst 1, 1) := by decide +kernel
theorem dL_law__17 : decode cL_law_ 17 = .ok (.newarray .long, 2) := by decide +kernel
theorem dL_law__19 : decode cL_law_ 19 = .ok (.astore_n 3, 1) := by decide +kernel
theorem dL_law__20 : decode cL_law_ 20 = .ok (.iconst 0, 1) := by decide +kernel
theorem dL_law__21 : decode cL_law_ 21 = .ok (.istore 4, 2) := by decide +kernel
theorem dL_law__23 : decode cL_law_ 23 = .ok (.iload 4, 2) := by decide +kernel
theorem dL_law__25 : decode cL_law_ 25 = .ok (.aload_n 0, 1) := by decide +kernel
theorem dL_law__26 : decode cL_law_ 26 = .ok (.arraylength, 1) := by decide +kernel
theorem dL_law__27 : decode cL_law_ 27 = .ok (.bipush 11, 2) := by decide +kernel
theorem dL_law__29 : decode cL_law_ 29 = .ok (.isub, 1) := by decide +kernel
theorem dL_law__30 : decode cL_law_ 30 = .ok (.if_icmp .gt 1717, 3) := by decide +kernel
theorem dL_law__33 : decode cL_law_ 33 = .ok (.aload_n 0, 1) := by decide +kernel
theorem dL_law__34 : decode cL_law_ 34 = .ok (.iload 4, 2) := by decide +kernel
theorem dL_law__36 : decode cL_law_ 36 = .ok (.iaload, 1) := by decide +kernel
theorem dL_law__37 : decode cL_law_ 37 = .ok (.bipush 31, 2) := by decide +kernel
theorem dL_law__39 : decode cL_law_ 39 = .ok (.iand, 1) := by decide +kernel
theorem dL_law__40 : decode cL_law_ 40 = .ok (.tableswitch 1701 0 24 #[116, 189, 214, 262, 306, 398, 461, 541, 597, 700, 756, 812, 880, 952, 1126, 1198, 1254, 1322, 1390, 1434, 1447, 1503, 1583, 1663, 1676], 116) := by decide +kernel
theorem dL_law__156 : decode cL_law_ 156 = .ok (.aload_n 1, 1) := by decide +kernel
theorem dL_law__157 : decode cL_law_ 157 = .ok (.aload_n 0, 1) := by decide +kernel
theorem dL_law__158 : decode cL_law_ 158 = .ok (.iload 4, 2) := by decide +kernel
theorem dL_law__160 : decode cL_law_ 160 = .ok (.iconst 1, 1) := by decide +kernel
theorem dL_law__161 : decode cL_law_ 161 = .ok (.iadd, 1) := by decide +kernel
theorem dL_law__162 : decode cL_law_ 162 = .ok (.iaload, 1) := by decide +kernel
theorem dL_law__163 : decode cL_law_ 163 = .ok (.aload_n 0, 1) := by decide +kernel
theorem dL_law__164 : decode cL_law_ 164 = .ok (.iload 4, 2) := by decide +kernel
theorem dL_law__166 : decode cL_law_ 166 = .ok (.iconst 2, 1) := by decide +kernel
theorem dL_law__167 : decode cL_law_ 167 = .ok (.iadd, 1) := by decide +kernel
theorem dL_law__168 : decode cL_law_ 168 = .ok (.iaload, 1) := by decide +kernel
theorem dL_law__169 : decode cL_law_ 169 = .ok (.aload_n 0, 1) := by decide +kernel
theorem dL_law__170 : decode cL_law_ 170 = .ok (.iload 4, 2) := by decide +kernel
theorem dL_law__172 : decode cL_law_ 172 = .ok (.iconst 3, 1) := by decide +kernel
theorem dL_law__173 : decode cL_law_ 173 = .ok (.iadd, 1) := by decide +kernel
theorem dL_law__174 : decode cL_law_ 174 = .ok (.iaload, 1) := by decide +kernel
theorem dL_law__175 : decode cL_law_ 175 = .ok (.aload_n 0, 1) := by decide +kernel
theorem dL_law__176 : decode cL_law_ 176 = .ok (.iload 4, 2) := by decide +kernel
theorem dL_law__178 : decode cL_law_ 178 = .ok (.iconst 4, 1) := by decide +kernel
theorem dL_law__179 : decode cL_law_ 179 = .ok (.iadd, 1) := by decide +kernel
theorem dL_law__180 : decode cL_law_ 180 = .ok (.iaload, 1) := by decide +kernel
theorem dL_law__181 : decode cL_law_ 181 = .ok (.aload_n 0, 1) := by decide +kernel
theorem dL_law__182 : decode cL_law_ 182 = .ok (.iload 4, 2) := by decide +kernel
theorem dL_law__184 : decode cL_law_ 184 = .ok (.iconst 5, 1) := by decide +kernel
theorem dL_law__185 : decode cL_law_ 185 = .ok (.iadd, 1) := by decide +kernel
theorem dL_law__186 : decode cL_law_ 186 = .ok (.iaload, 1) := by decide +kernel
theorem dL_law__187 : decode cL_law_ 187 = .ok (.invokevirtual 93, 3) := by decide +kernel
theorem dL_law__190 : decode cL_law_ 190 = .ok (.aload_n 2, 1) := by decide +kernel
theorem dL_law__191 : decode cL_law_ 191 = .ok (.aload_n 0, 1) := by decide +kernel
theorem dL_law__192 : decode cL_law_ 192 = .ok (.iload 4, 2) := by decide +kernel
theorem dL_law__194 : decode cL_law_ 194 = .ok (.iconst 1, 1) := by decide +kernel
theorem dL_law__195 : decode cL_law_ 195 = .ok (.iadd, 1) := by decide +kernel
theorem dL_law__196 : decode cL_law_ 196 = .ok (.iaload, 1) := by decide +kernel
theorem dL_law__197 : decode cL_law_ 197 = .ok (.aload_n 0, 1) := by decide +kernel
theorem dL_law__198 : decode cL_law_ 198 = .ok (.iload 4, 2) := by decide +kernel
theorem dL_law__200 : decode cL_law_ 200 = .ok (.iconst 2, 1) := by decide +kernel
theorem dL_law__201 : decode cL_law_ 201 = .ok (.iadd, 1) := by decide +kernel
theorem dL_law__202 : decode cL_law_ 202 = .ok (.iaload, 1) := by decide +kernel
theorem dL_law__203 : decode cL_law_ 203 = .ok (.aload_n 0, 1) := by decide +kernel
theorem dL_law__204 : decode cL_law_ 204 = .ok (.iload 4, 2) := by decide +kernel
theorem dL_law__206 : decode cL_law_ 206 = .ok (.iconst 3, 1) := by decide +kernel
theorem dL_law__207 : decode cL_law_ 207 = .ok (.iadd, 1) := by decide +kernel
theorem dL_law__208 : decode cL_law_ 208 = .ok (.iaload, 1) := by decide +kernel
theorem dL_law__209 : decode cL_law_ 209 = .ok (.aload_n 0, 1) := by decide +kernel
theorem dL_law__210 : decode cL_law_ 210 = .ok (.iload 4, 2) := by decide +kernel
theorem dL_law__212 : decode cL_law_ 212 = .ok (.iconst 4, 1) := by decide +kernel
theorem dL_law__213 : decode cL_law_ 213 = .ok (.iadd, 1) := by decide +kernel
theorem dL_law__214 : decode cL_law_ 214 = .ok (.iaload, 1) := by decide +kernel
theorem dL_law__215 : decode cL_law_ 215 = .ok (.aload_n 0, 1) := by decide +kernel
theorem dL_law__216 : decode cL_law_ 216 = .ok (.iload 4, 2) := by decide +kernel
theorem dL_law__218 : decode cL_law_ 218 = .ok (.iconst 5, 1) := by decide +kernel
theorem dL_law__219 : decode cL_law_ 219 = .ok (.iadd, 1) := by decide +kernel
theorem dL_law__220 : decode cL_law_ 220 = .ok (.iaload, 1) := by decide +kernel
theorem dL_law__221 : decode cL_law_ 221 = .ok (.invokevirtual 97, 3) := by decide +kernel
theorem dL_law__224 : decode cL_law_ 224 = .ok (.if_icmp .eq 1517, 3) := by decide +kernel
theorem dL_law__227 : decode cL_law_ 227 = .ok (.iconst 0, 1) := by decide +kernel
theorem dL_law__228 : decode cL_law_ 228 = .ok (.ireturn, 1) := by decide +kernel
theorem dL_law__229 : decode cL_law_ 229 = .ok (.aload_n 1, 1) := by decide +kernel
theorem dL_law__230 : decode cL_law_ 230 = .ok (.aload_n 0, 1) := by decide +kernel
theorem dL_law__231 : decode cL_law_ 231 = .ok (.iload 4, 2) := by decide +kernel
theorem dL_law__233 : decode cL_law_ 233 = .ok (.iconst 1, 1) := by decide +kernel
theorem dL_law__234 : decode cL_law_ 234 = .ok (.iadd, 1) := by decide +kernel
theorem dL_law__235 : decode cL_law_ 235 = .ok (.iaload, 1) := by decide +kernel
theorem dL_law__236 : decode cL_law_ 236 = .ok (.invokevirtual 98, 3) := by decide +kernel
theorem dL_law__239 : decode cL_law_ 239 = .ok (.aload_n 2, 1) := by decide +kernel
theorem dL_law__240 : decode cL_law_ 240 = .ok (.aload_n 0, 1) := by decide +kernel
theorem dL_law__241 : decode cL_law_ 241 = .ok (.iload 4, 2) := by decide +kernel
theorem dL_law__243 : decode cL_law_ 243 = .ok (.iconst 1, 1) := by decide +kernel
theorem dL_law__244 : decode cL_law_ 244 = .ok (.iadd, 1) := by decide +kernel
theorem dL_law__245 : decode cL_law_ 245 = .ok (.iaload, 1) := by decide +kernel
theorem dL_law__246 : decode cL_law_ 246 = .ok (.invokevirtual 101, 3) := by decide +kernel
theorem dL_law__249 : decode cL_law_ 249 = .ok (.if_icmp .eq 1492, 3) := by decide +kernel
theorem dL_law__252 : decode cL_law_ 252 = .ok (.iconst 0, 1) := by decide +kernel
theorem dL_law__253 : decode cL_law_ 253 = .ok (.ireturn, 1) := by decide +kernel
theorem dL_law__254 : decode cL_law_ 254 = .ok (.aload_n 1, 1) := by decide +kernel
theorem dL_law__255 : decode cL_law_ 255 = .ok (.aload_n 0, 1) := by decide +kernel
theorem dL_law__256 : decode cL_law_ 256 = .ok (.iload 4, 2) := by decide +kernel
theorem dL_law__258 : decode cL_law_ 258 = .ok (.iconst 1, 1) := by decide +kernel
theorem dL_law__259 : decode cL_law_ 259 = .ok (.iadd, 1) := by decide +kernel
theorem dL_law__260 : decode cL_law_ 260 = .ok (.iaload, 1) := by decide +kernel
theorem dL_law__261 : decode cL_law_ 261 = .ok (.aload_n 0, 1) := by decide +kernel
theorem dL_law__262 : decode cL_law_ 262 = .ok (.iload 4, 2) := by decide +kernel
theorem dL_law__264 : decode cL_law_ 264 = .ok (.iconst 2, 1) := by decide +kernel
theorem dL_law__265 : decode cL_law_ 265 = .ok (.iadd, 1) := by decide +kernel
theorem dL_law__266 : decode cL_law_ 266 = .ok (.iaload, 1) := by decide +kernel
theorem dL_law__267 : decode cL_law_ 267 = .ok (.invokestatic 102, 3) := by decide +kernel
theorem dL_law__270 : decode cL_law_ 270 = .ok (.istore 5, 2) := by decide +kernel
theorem dL_law__272 : decode cL_law_ 272 = .ok (.aload_n 2, 1) := by decide +kernel
theorem dL_law__273 : decode cL_law_ 273 = .ok (.aload_n 0, 1) := by decide +kernel
theorem dL_law__274 : decode cL_law_ 274 = .ok (.iload 4, 2) := by decide +kernel
theorem dL_law__276 : decode cL_law_ 276 = .ok (.iconst 1, 1) := by decide +kernel
theorem dL_law__277 : decode cL_law_ 277 = .ok (.iadd, 1) := by decide +kernel
theorem dL_law__278 : decode cL_law_ 278 = .ok (.iaload, 1) := by decide +kernel
theorem dL_law__279 : decode cL_law_ 279 = .ok (.aload_n 0, 1) := by decide +kernel
theorem dL_law__280 : decode cL_law_ 280 = .ok (.iload 4, 2) := by decide +kernel
theorem dL_law__282 : decode cL_law_ 282 = .ok (.iconst 2, 1) := by decide +kernel
theorem dL_law__283 : decode cL_law_ 283 = .ok (.iadd, 1) := by decide +kernel
theorem dL_law__284 : decode cL_law_ 284 = .ok (.iaload, 1) := by decide +kernel
theorem dL_law__285 : decode cL_law_ 285 = .ok (.invokevirtual 107, 3) := by decide +kernel
theorem dL_law__288 : decode cL_law_ 288 = .ok (.aload_n 2, 1) := by decide +kernel
theorem dL_law__289 : decode cL_law_ 289 = .ok (.invokevirtual 108, 3) := by decide +kernel
theorem dL_law__292 : decode cL_law_ 292 = .ok (.iload 5, 2) := by decide +kernel
theorem dL_law__294 : decode cL_law_ 294 = .ok (.if_icmp .eq 5, 3) := by decide +kernel
theorem dL_law__297 : decode cL_law_ 297 = .ok (.iconst 0, 1) := by decide +kernel
theorem dL_law__298 : decode cL_law_ 298 = .ok (.ireturn, 1) := by decide +kernel
theorem dL_law__299 : decode cL_law_ 299 = .ok (.goto 1442, 3) := by decide +kernel
theorem dL_law__302 : decode cL_law_ 302 = .ok (.aload_n 1, 1) := by decide +kernel
theorem dL_law__303 : decode cL_law_ 303 = .ok (.aload_n 3, 1) := by decide +kernel
theorem dL_law__304 : decode cL_law_ 304 = .ok (.invokestatic 111, 3) := by decide +kernel
theorem dL_law__307 : decode cL_law_ 307 = .ok (.istore 5, 2) := by decide +kernel
theorem dL_law__309 : decode cL_law_ 309 = .ok (.aload_n 2, 1) := by decide +kernel
theorem dL_law__310 : decode cL_law_ 310 = .ok (.invokevirtual 114, 3) := by decide +kernel
theorem dL_law__313 : decode cL_law_ 313 = .ok (.istore 6, 2) := by decide +kernel
theorem dL_law__315 : decode cL_law_ 315 = .ok (.aload_n 2, 1) := by decide +kernel
theorem dL_law__316 : decode cL_law_ 316 = .ok (.invokevirtual 108, 3) := by decide +kernel
theorem dL_law__319 : decode cL_law_ 319 = .ok (.iload 5, 2) := by decide +kernel
theorem dL_law__321 : decode cL_law_ 321 = .ok (.if_icmp .eq 5, 3) := by decide +kernel
theorem dL_law__324 : decode cL_law_ 324 = .ok (.iconst 0, 1) := by decide +kernel
theorem dL_law__325 : decode cL_law_ 325 = .ok (.ireturn, 1) := by decide +kernel
theorem dL_law__326 : decode cL_law_ 326 = .ok (.iload 5, 2) := by decide +kernel
theorem dL_law__328 : decode cL_law_ 328 = .ok (.ifCond .ne 15, 3) := by decide +kernel
theorem dL_law__331 : decode cL_law_ 331 = .ok (.aload_n 3, 1) := by decide +kernel
theorem dL_law__332 : decode cL_law_ 332 = .ok (.iconst 0, 1) := by decide +kernel
theorem dL_law__333 : decode cL_law_ 333 = .ok (.laload, 1) := by decide +kernel
theorem dL_law__334 : decode cL_law_ 334 = .ok (.iload 6, 2) := by decide +kernel
theorem dL_law__336 : decode cL_law_ 336 = .ok (.i2l, 1) := by decide +kernel
theorem dL_law__337 : decode cL_law_ 337 = .ok (.lcmp, 1) := by decide +kernel
theorem dL_law__338 : decode cL_law_ 338 = .ok (.ifCond .eq 5, 3) := by decide +kernel
theorem dL_law__341 : decode cL_law_ 341 = .ok (.iconst 0, 1) := by decide +kernel
theorem dL_law__342 : decode cL_law_ 342 = .ok (.ireturn, 1) := by decide +kernel
theorem dL_law__343 : decode cL_law_ 343 = .ok (.goto 1398, 3) := by decide +kernel
theorem dL_law__346 : decode cL_law_ 346 = .ok (.aload_n 1, 1) := by decide +kernel
theorem dL_law__347 : decode cL_law_ 347 = .ok (.aload_n 0, 1) := by decide +kernel
theorem dL_law__348 : decode cL_law_ 348 = .ok (.iload 4, 2) := by decide +kernel
theorem dL_law__350 : decode cL_law_ 350 = .ok (.iconst 1, 1) := by decide +kernel
theorem dL_law__351 : decode cL_law_ 351 = .ok (.iadd, 1) := by decide +kernel
theorem dL_law__352 : decode cL_law_ 352 = .ok (.iaload, 1) := by decide +kernel
theorem dL_law__353 : decode cL_law_ 353 = .ok (.aload_n 0, 1) := by decide +kernel
theorem dL_law__354 : decode cL_law_ 354 = .ok (.iload 4, 2) := by decide +kernel
theorem dL_law__356 : decode cL_law_ 356 = .ok (.iconst 2, 1) := by decide +kernel
theorem dL_law__357 : decode cL_law_ 357 = .ok (.iadd, 1) := by decide +kernel
theorem dL_law__358 : decode cL_law_ 358 = .ok (.iaload, 1) := by decide +kernel
theorem dL_law__359 : decode cL_law_ 359 = .ok (.aload_n 0, 1) := by decide +kernel
theorem dL_law__360 : decode cL_law_ 360 = .ok (.iload 4, 2) := by decide +kernel
theorem dL_law__362 : decode cL_law_ 362 = .ok (.iconst 3, 1) := by decide +kernel
theorem dL_law__363 : decode cL_law_ 363 = .ok (.iadd, 1) := by decide +kernel
theorem dL_law__364 : decode cL_law_ 364 = .ok (.iaload, 1) := by decide +kernel
theorem dL_law__365 : decode cL_law_ 365 = .ok (.aload_n 0, 1) := by decide +kernel
theorem dL_law__366 : decode cL_law_ 366 = .ok (.iload 4, 2) := by decide +kernel
theorem dL_law__368 : decode cL_law_ 368 = .ok (.iconst 4, 1) := by decide +kernel
theorem dL_law__369 : decode cL_law_ 369 = .ok (.iadd, 1) := by decide +kernel
theorem dL_law__370 : decode cL_law_ 370 = .ok (.iaload, 1) := by decide +kernel
theorem dL_law__371 : decode cL_law_ 371 = .ok (.aload_n 3, 1) := by decide +kernel
theorem dL_law__372 : decode cL_law_ 372 = .ok (.invokestatic 115, 3) := by decide +kernel
theorem dL_law__375 : decode cL_law_ 375 = .ok (.istore 5, 2) := by decide +kernel
theorem dL_law__377 : decode cL_law_ 377 = .ok (.aload_n 2, 1) := by decide +kernel
theorem dL_law__378 : decode cL_law_ 378 = .ok (.aload_n 0, 1) := by decide +kernel
theorem dL_law__379 : decode cL_law_ 379 = .ok (.iload 4, 2) := by decide +kernel
theorem dL_law__381 : decode cL_law_ 381 = .ok (.iconst 1, 1) := by decide +kernel
theorem dL_law__382 : decode cL_law_ 382 = .ok (.iadd, 1) := by decide +kernel
theorem dL_law__383 : decode cL_law_ 383 = .ok (.iaload, 1) := by decide +kernel
theorem dL_law__384 : decode cL_law_ 384 = .ok (.aload_n 0, 1) := by decide +kernel
theorem dL_law__385 : decode cL_law_ 385 = .ok (.iload 4, 2) := by decide +kernel
theorem dL_law__387 : decode cL_law_ 387 = .ok (.iconst 2, 1) := by decide +kernel
theorem dL_law__388 : decode cL_law_ 388 = .ok (.iadd, 1) := by decide +kernel
theorem dL_law__389 : decode cL_law_ 389 = .ok (.iaload, 1) := by decide +kernel
theorem dL_law__390 : decode cL_law_ 390 = .ok (.aload_n 0, 1) := by decide +kernel
theorem dL_law__391 : decode cL_law_ 391 = .ok (.iload 4, 2) := by decide +kernel
theorem dL_law__393 : decode cL_law_ 393 = .ok (.iconst 3, 1) := by decide +kernel
theorem dL_law__394 : decode cL_law_ 394 = .ok (.iadd, 1) := by decide +kernel
theorem dL_law__395 : decode cL_law_ 395 = .ok (.iaload, 1) := by decide +kernel
theorem dL_law__396 : decode cL_law_ 396 = .ok (.aload_n 0, 1) := by decide +kernel
theorem dL_law__397 : decode cL_law_ 397 = .ok (.iload 4, 2) := by decide +kernel
theorem dL_law__399 : decode cL_law_ 399 = .ok (.iconst 4, 1) := by decide +kernel
theorem dL_law__400 : decode cL_law_ 400 = .ok (.iadd, 1) := by decide +kernel
theorem dL_law__401 : decode cL_law_ 401 = .ok (.iaload, 1) := by decide +kernel
theorem dL_law__402 : decode cL_law_ 402 = .ok (.invokevirtual 118, 3) := by decide +kernel
theorem dL_law__405 : decode cL_law_ 405 = .ok (.istore 6, 2) := by decide +kernel
theorem dL_law__407 : decode cL_law_ 407 = .ok (.aload_n 2, 1) := by decide +kernel
theorem dL_law__408 : decode cL_law_ 408 = .ok (.invokevirtual 108, 3) := by decide +kernel
theorem dL_law__411 : decode cL_law_ 411 = .ok (.iload 5, 2) := by decide +kernel
theorem dL_law__413 : decode cL_law_ 413 = .ok (.if_icmp .eq 5, 3) := by decide +kernel
theorem dL_law__416 : decode cL_law_ 416 = .ok (.iconst 0, 1) := by decide +kernel
theorem dL_law__417 : decode cL_law_ 417 = .ok (.ireturn, 1) := by decide +kernel
theorem dL_law__418 : decode cL_law_ 418 = .ok (.iload 5, 2) := by decide +kernel
theorem dL_law__420 : decode cL_law_ 420 = .ok (.ifCond .ne 15, 3) := by decide +kernel
theorem dL_law__423 : decode cL_law_ 423 = .ok (.aload_n 3, 1) := by decide +kernel
theorem dL_law__424 : decode cL_law_ 424 = .ok (.iconst 0, 1) := by decide +kernel
theorem dL_law__425 : decode cL_law_ 425 = .ok (.laload, 1) := by decide +kernel
theorem dL_law__426 : decode cL_law_ 426 = .ok (.iload 6, 2) := by decide +kernel
theorem dL_law__428 : decode cL_law_ 428 = .ok (.i2l, 1) := by decide +kernel
theorem dL_law__429 : decode cL_law_ 429 = .ok (.lcmp, 1) := by decide +kernel
theorem dL_law__430 : decode cL_law_ 430 = .ok (.ifCond .eq 5, 3) := by decide +kernel
theorem dL_law__433 : decode cL_law_ 433 = .ok (.iconst 0, 1) := by decide +kernel
theorem dL_law__434 : decode cL_law_ 434 = .ok (.ireturn, 1) := by decide +kernel
theorem dL_law__435 : decode cL_law_ 435 = .ok (.goto 1306, 3) := by decide +kernel
theorem dL_law__438 : decode cL_law_ 438 = .ok (.aload_n 1, 1) := by decide +kernel
theorem dL_law__439 : decode cL_law_ 439 = .ok (.aload_n 0, 1) := by decide +kernel
theorem dL_law__440 : decode cL_law_ 440 = .ok (.iload 4, 2) := by decide +kernel
theorem dL_law__442 : decode cL_law_ 442 = .ok (.iconst 1, 1) := by decide +kernel
theorem dL_law__443 : decode cL_law_ 443 = .ok (.iadd, 1) := by decide +kernel
theorem dL_law__444 : decode cL_law_ 444 = .ok (.iaload, 1) := by decide +kernel
theorem dL_law__445 : decode cL_law_ 445 = .ok (.aload_n 3, 1) := by decide +kernel
theorem dL_law__446 : decode cL_law_ 446 = .ok (.invokestatic 119, 3) := by decide +kernel
theorem dL_law__449 : decode cL_law_ 449 = .ok (.istore 5, 2) := by decide +kernel
theorem dL_law__451 : decode cL_law_ 451 = .ok (.aload_n 2, 1) := by decide +kernel
theorem dL_law__452 : decode cL_law_ 452 = .ok (.aload_n 0, 1) := by decide +kernel
theorem dL_law__453 : decode cL_law_ 453 = .ok (.iload 4, 2) := by decide +kernel
theorem dL_law__455 : decode cL_law_ 455 = .ok (.iconst 1, 1) := by decide +kernel
theorem dL_law__456 : decode cL_law_ 456 = .ok (.iadd, 1) := by decide +kernel
theorem dL_law__457 : decode cL_law_ 457 = .ok (.iaload, 1) := by decide +kernel
theorem dL_law__458 : decode cL_law_ 458 = .ok (.invokevirtual 122, 3) := by decide +kernel
theorem dL_law__461 : decode cL_law_ 461 = .ok (.istore 6, 2) := by decide +kernel
theorem dL_law__463 : decode cL_law_ 463 = .ok (.aload_n 2, 1) := by decide +kernel
theorem dL_law__464 : decode cL_law_ 464 = .ok (.invokevirtual 108, 3) := by decide +kernel
theorem dL_law__467 : decode cL_law_ 467 = .ok (.iload 5, 2) := by decide +kernel
theorem dL_law__469 : decode cL_law_ 469 = .ok (.if_icmp .eq 5, 3) := by decide +kernel
theorem dL_law__472 : decode cL_law_ 472 = .ok (.iconst 0, 1) := by decide +kernel
theorem dL_law__473 : decode cL_law_ 473 = .ok (.ireturn, 1) := by decide +kernel
theorem dL_law__474 : decode cL_law_ 474 = .ok (.iload 5, 2) := by decide +kernel
theorem dL_law__476 : decode cL_law_ 476 = .ok (.ifCond .ne 22, 3) := by decide +kernel
theorem dL_law__479 : decode cL_law_ 479 = .ok (.aload_n 3, 1) := by decide +kernel
theorem dL_law__480 : decode cL_law_ 480 = .ok (.iconst 0, 1) := by decide +kernel
theorem dL_law__481 : decode cL_law_ 481 = .ok (.laload, 1) := by decide +kernel
theorem dL_law__482 : decode cL_law_ 482 = .ok (.iload 6, 2) := by decide +kernel
theorem dL_law__484 : decode cL_law_ 484 = .ok (.ifCond .eq 7, 3) := by decide +kernel
theorem dL_law__487 : decode cL_law_ 487 = .ok (.lconst 1, 1) := by decide +kernel
theorem dL_law__488 : decode cL_law_ 488 = .ok (.goto 4, 3) := by decide +kernel
theorem dL_law__491 : decode cL_law_ 491 = .ok (.lconst 0, 1) := by decide +kernel
theorem dL_law__492 : decode cL_law_ 492 = .ok (.lcmp, 1) := by decide +kernel
theorem dL_law__493 : decode cL_law_ 493 = .ok (.ifCond .eq 5, 3) := by decide +kernel
theorem dL_law__496 : decode cL_law_ 496 = .ok (.iconst 0, 1) := by decide +kernel
theorem dL_law__497 : decode cL_law_ 497 = .ok (.ireturn, 1) := by decide +kernel
theorem dL_law__498 : decode cL_law_ 498 = .ok (.goto 1243, 3) := by decide +kernel
theorem dL_law__501 : decode cL_law_ 501 = .ok (.aload_n 1, 1) := by decide +kernel
theorem dL_law__502 : decode cL_law_ 502 = .ok (.aload_n 0, 1) := by decide +kernel
theorem dL_law__503 : decode cL_law_ 503 = .ok (.iload 4, 2) := by decide +kernel
theorem dL_law__505 : decode cL_law_ 505 = .ok (.iconst 1, 1) := by decide +kernel
theorem dL_law__506 : decode cL_law_ 506 = .ok (.iadd, 1) := by decide +kernel
theorem dL_law__507 : decode cL_law_ 507 = .ok (.iaload, 1) := by decide +kernel
theorem dL_law__508 : decode cL_law_ 508 = .ok (.aload_n 0, 1) := by decide +kernel
theorem dL_law__509 : decode cL_law_ 509 = .ok (.iload 4, 2) := by decide +kernel
theorem dL_law__511 : decode cL_law_ 511 = .ok (.iconst 2, 1) := by decide +kernel
theorem dL_law__512 : decode cL_law_ 512 = .ok (.iadd, 1) := by decide +kernel
theorem dL_law__513 : decode cL_law_ 513 = .ok (.iaload, 1) := by decide +kernel
theorem dL_law__514 : decode cL_law_ 514 = .ok (.aload_n 0, 1) := by decide +kernel
theorem dL_law__515 : decode cL_law_ 515 = .ok (.iload 4, 2) := by decide +kernel
theorem dL_law__517 : decode cL_law_ 517 = .ok (.iconst 3, 1) := by decide +kernel
theorem dL_law__518 : decode cL_law_ 518 = .ok (.iadd, 1) := by decide +kernel
theorem dL_law__519 : decode cL_law_ 519 = .ok (.iaload, 1) := by decide +kernel
theorem dL_law__520 : decode cL_law_ 520 = .ok (.aload_n 3, 1) := by decide +kernel
theorem dL_law__521 : decode cL_law_ 521 = .ok (.invokestatic 123, 3) := by decide +kernel
theorem dL_law__524 : decode cL_law_ 524 = .ok (.istore 5, 2) := by decide +kernel
theorem dL_law__526 : decode cL_law_ 526 = .ok (.aload_n 2, 1) := by decide +kernel
theorem dL_law__527 : decode cL_law_ 527 = .ok (.aload_n 0, 1) := by decide +kernel
theorem dL_law__528 : decode cL_law_ 528 = .ok (.iload 4, 2) := by decide +kernel
theorem dL_law__530 : decode cL_law_ 530 = .ok (.iconst 1, 1) := by decide +kernel
theorem dL_law__531 : decode cL_law_ 531 = .ok (.iadd, 1) := by decide +kernel
theorem dL_law__532 : decode cL_law_ 532 = .ok (.iaload, 1) := by decide +kernel
theorem dL_law__533 : decode cL_law_ 533 = .ok (.aload_n 0, 1) := by decide +kernel
theorem dL_law__534 : decode cL_law_ 534 = .ok (.iload 4, 2) := by decide +kernel
theorem dL_law__536 : decode cL_law_ 536 = .ok (.iconst 2, 1) := by decide +kernel
theorem dL_law__537 : decode cL_law_ 537 = .ok (.iadd, 1) := by decide +kernel
theorem dL_law__538 : decode cL_law_ 538 = .ok (.iaload, 1) := by decide +kernel
theorem dL_law__539 : decode cL_law_ 539 = .ok (.aload_n 0, 1) := by decide +kernel
theorem dL_law__540 : decode cL_law_ 540 = .ok (.iload 4, 2) := by decide +kernel
theorem dL_law__542 : decode cL_law_ 542 = .ok (.iconst 3, 1) := by decide +kernel
theorem dL_law__543 : decode cL_law_ 543 = .ok (.iadd, 1) := by decide +kernel
theorem dL_law__544 : decode cL_law_ 544 = .ok (.iaload, 1) := by decide +kernel
theorem dL_law__545 : decode cL_law_ 545 = .ok (.invokevirtual 126, 3) := by decide +kernel
theorem dL_law__548 : decode cL_law_ 548 = .ok (.istore 6, 2) := by decide +kernel
theorem dL_law__550 : decode cL_law_ 550 = .ok (.aload_n 2, 1) := by decide +kernel
theorem dL_law__551 : decode cL_law_ 551 = .ok (.invokevirtual 108, 3) := by decide +kernel
theorem dL_law__554 : decode cL_law_ 554 = .ok (.iload 5, 2) := by decide +kernel
theorem dL_law__556 : decode cL_law_ 556 = .ok (.if_icmp .eq 5, 3) := by decide +kernel
theorem dL_law__559 : decode cL_law_ 559 = .ok (.iconst 0, 1) := by decide +kernel
theorem dL_law__560 : decode cL_law_ 560 = .ok (.ireturn, 1) := by decide +kernel
theorem dL_law__561 : decode cL_law_ 561 = .ok (.iload 5, 2) := by decide +kernel
theorem dL_law__563 : decode cL_law_ 563 = .ok (.ifCond .ne 15, 3) := by decide +kernel
theorem dL_law__566 : decode cL_law_ 566 = .ok (.aload_n 3, 1) := by decide +kernel
theorem dL_law__567 : decode cL_law_ 567 = .ok (.iconst 0, 1) := by decide +kernel
theorem dL_law__568 : decode cL_law_ 568 = .ok (.laload, 1) := by decide +kernel
theorem dL_law__569 : decode cL_law_ 569 = .ok (.iload 6, 2) := by decide +kernel
theorem dL_law__571 : decode cL_law_ 571 = .ok (.i2l, 1) := by decide +kernel
theorem dL_law__572 : decode cL_law_ 572 = .ok (.lcmp, 1) := by decide +kernel
theorem dL_law__573 : decode cL_law_ 573 = .ok (.ifCond .eq 5, 3) := by decide +kernel
theorem dL_law__576 : decode cL_law_ 576 = .ok (.iconst 0, 1) := by decide +kernel
theorem dL_law__577 : decode cL_law_ 577 = .ok (.ireturn, 1) := by decide +kernel
theorem dL_law__578 : decode cL_law_ 578 = .ok (.goto 1163, 3) := by decide +kernel
theorem dL_law__581 : decode cL_law_ 581 = .ok (.aload_n 1, 1) := by decide +kernel
theorem dL_law__582 : decode cL_law_ 582 = .ok (.aload_n 0, 1) := by decide +kernel
theorem dL_law__583 : decode cL_law_ 583 = .ok (.iload 4, 2) := by decide +kernel
theorem dL_law__585 : decode cL_law_ 585 = .ok (.iconst 1, 1) := by decide +kernel
theorem dL_law__586 : decode cL_law_ 586 = .ok (.iadd, 1) := by decide +kernel
theorem dL_law__587 : decode cL_law_ 587 = .ok (.iaload, 1) := by decide +kernel
theorem dL_law__588 : decode cL_law_ 588 = .ok (.aload_n 3, 1) := by decide +kernel
theorem dL_law__589 : decode cL_law_ 589 = .ok (.invokestatic 127, 3) := by decide +kernel
theorem dL_law__592 : decode cL_law_ 592 = .ok (.istore 5, 2) := by decide +kernel
theorem dL_law__594 : decode cL_law_ 594 = .ok (.aload_n 2, 1) := by decide +kernel
theorem dL_law__595 : decode cL_law_ 595 = .ok (.aload_n 0, 1) := by decide +kernel
theorem dL_law__596 : decode cL_law_ 596 = .ok (.iload 4, 2) := by decide +kernel
theorem dL_law__598 : decode cL_law_ 598 = .ok (.iconst 1, 1) := by decide +kernel
theorem dL_law__599 : decode cL_law_ 599 = .ok (.iadd, 1) := by decide +kernel
theorem dL_law__600 : decode cL_law_ 600 = .ok (.iaload, 1) := by decide +kernel
theorem dL_law__601 : decode cL_law_ 601 = .ok (.invokevirtual 129, 3) := by decide +kernel
theorem dL_law__604 : decode cL_law_ 604 = .ok (.istore 6, 2) := by decide +kernel
theorem dL_law__606 : decode cL_law_ 606 = .ok (.aload_n 2, 1) := by decide +kernel
theorem dL_law__607 : decode cL_law_ 607 = .ok (.invokevirtual 108, 3) := by decide +kernel
theorem dL_law__610 : decode cL_law_ 610 = .ok (.iload 5, 2) := by decide +kernel
theorem dL_law__612 : decode cL_law_ 612 = .ok (.if_icmp .eq 5, 3) := by decide +kernel
theorem dL_law__615 : decode cL_law_ 615 = .ok (.iconst 0, 1) := by decide +kernel
theorem dL_law__616 : decode cL_law_ 616 = .ok (.ireturn, 1) := by decide +kernel
theorem dL_law__617 : decode cL_law_ 617 = .ok (.iload 5, 2) := by decide +kernel
theorem dL_law__619 : decode cL_law_ 619 = .ok (.ifCond .ne 15, 3) := by decide +kernel
theorem dL_law__622 : decode cL_law_ 622 = .ok (.aload_n 3, 1) := by decide +kernel
theorem dL_law__623 : decode cL_law_ 623 = .ok (.iconst 0, 1) := by decide +kernel
theorem dL_law__624 : decode cL_law_ 624 = .ok (.laload, 1) := by decide +kernel
theorem dL_law__625 : decode cL_law_ 625 = .ok (.iload 6, 2) := by decide +kernel
theorem dL_law__627 : decode cL_law_ 627 = .ok (.i2l, 1) := by decide +kernel
theorem dL_law__628 : decode cL_law_ 628 = .ok (.lcmp, 1) := by decide +kernel
theorem dL_law__629 : decode cL_law_ 629 = .ok (.ifCond .eq 5, 3) := by decide +kernel
theorem dL_law__632 : decode cL_law_ 632 = .ok (.iconst 0, 1) := by decide +kernel
theorem dL_law__633 : decode cL_law_ 633 = .ok (.ireturn, 1) := by decide +kernel
theorem dL_law__634 : decode cL_law_ 634 = .ok (.goto 1107, 3) := by decide +kernel
theorem dL_law__637 : decode cL_law_ 637 = .ok (.aload_n 1, 1) := by decide +kernel
theorem dL_law__638 : decode cL_law_ 638 = .ok (.aload_n 0, 1) := by decide +kernel
theorem dL_law__639 : decode cL_law_ 639 = .ok (.iload 4, 2) := by decide +kernel
theorem dL_law__641 : decode cL_law_ 641 = .ok (.iconst 1, 1) := by decide +kernel
theorem dL_law__642 : decode cL_law_ 642 = .ok (.iadd, 1) := by decide +kernel
theorem dL_law__643 : decode cL_law_ 643 = .ok (.iaload, 1) := by decide +kernel
theorem dL_law__644 : decode cL_law_ 644 = .ok (.aload_n 0, 1) := by decide +kernel
theorem dL_law__645 : decode cL_law_ 645 = .ok (.iload 4, 2) := by decide +kernel
theorem dL_law__647 : decode cL_law_ 647 = .ok (.iconst 2, 1) := by decide +kernel
theorem dL_law__648 : decode cL_law_ 648 = .ok (.iadd, 1) := by decide +kernel
theorem dL_law__649 : decode cL_law_ 649 = .ok (.iaload, 1) := by decide +kernel
theorem dL_law__650 : decode cL_law_ 650 = .ok (.aload_n 0, 1) := by decide +kernel
theorem dL_law__651 : decode cL_law_ 651 = .ok (.iload 4, 2) := by decide +kernel
theorem dL_law__653 : decode cL_law_ 653 = .ok (.iconst 3, 1) := by decide +kernel
theorem dL_law__654 : decode cL_law_ 654 = .ok (.iadd, 1) := by decide +kernel
theorem dL_law__655 : decode cL_law_ 655 = .ok (.iaload, 1) := by decide +kernel
theorem dL_law__656 : decode cL_law_ 656 = .ok (.ifCond .eq 7, 3) := by decide +kernel
theorem dL_law__659 : decode cL_law_ 659 = .ok (.iconst 1, 1) := by decide +kernel
theorem dL_law__660 : decode cL_law_ 660 = .ok (.goto 4, 3) := by decide +kernel
theorem dL_law__663 : decode cL_law_ 663 = .ok (.iconst 0, 1) := by decide +kernel
theorem dL_law__664 : decode cL_law_ 664 = .ok (.aload_n 3, 1) := by decide +kernel
theorem dL_law__665 : decode cL_law_ 665 = .ok (.invokestatic 130, 3) := by decide +kernel
theorem dL_law__668 : decode cL_law_ 668 = .ok (.istore 5, 2) := by decide +kernel
theorem dL_law__670 : decode cL_law_ 670 = .ok (.aload_n 2, 1) := by decide +kernel
theorem dL_law__671 : decode cL_law_ 671 = .ok (.aload_n 0, 1) := by decide +kernel
theorem dL_law__672 : decode cL_law_ 672 = .ok (.iload 4, 2) := by decide +kernel
theorem dL_law__674 : decode cL_law_ 674 = .ok (.iconst 1, 1) := by decide +kernel
theorem dL_law__675 : decode cL_law_ 675 = .ok (.iadd, 1) := by decide +kernel
theorem dL_law__676 : decode cL_law_ 676 = .ok (.iaload, 1) := by decide +kernel
theorem dL_law__677 : decode cL_law_ 677 = .ok (.aload_n 0, 1) := by decide +kernel
theorem dL_law__678 : decode cL_law_ 678 = .ok (.iload 4, 2) := by decide +kernel
theorem dL_law__680 : decode cL_law_ 680 = .ok (.iconst 2, 1) := by decide +kernel
theorem dL_law__681 : decode cL_law_ 681 = .ok (.iadd, 1) := by decide +kernel
theorem dL_law__682 : decode cL_law_ 682 = .ok (.iaload, 1) := by decide +kernel
theorem dL_law__683 : decode cL_law_ 683 = .ok (.aload_n 0, 1) := by decide +kernel
theorem dL_law__684 : decode cL_law_ 684 = .ok (.iload 4, 2) := by decide +kernel
theorem dL_law__686 : decode cL_law_ 686 = .ok (.iconst 3, 1) := by decide +kernel
theorem dL_law__687 : decode cL_law_ 687 = .ok (.iadd, 1) := by decide +kernel
theorem dL_law__688 : decode cL_law_ 688 = .ok (.iaload, 1) := by decide +kernel
theorem dL_law__689 : decode cL_law_ 689 = .ok (.ifCond .eq 7, 3) := by decide +kernel
theorem dL_law__692 : decode cL_law_ 692 = .ok (.iconst 1, 1) := by decide +kernel
theorem dL_law__693 : decode cL_law_ 693 = .ok (.goto 4, 3) := by decide +kernel
theorem dL_law__696 : decode cL_law_ 696 = .ok (.iconst 0, 1) := by decide +kernel
theorem dL_law__697 : decode cL_law_ 697 = .ok (.invokevirtual 133, 3) := by decide +kernel
theorem dL_law__700 : decode cL_law_ 700 = .ok (.istore 6, 2) := by decide +kernel
theorem dL_law__702 : decode cL_law_ 702 = .ok (.aload_n 2, 1) := by decide +kernel
theorem dL_law__703 : decode cL_law_ 703 = .ok (.invokevirtual 108, 3) := by decide +kernel
theorem dL_law__706 : decode cL_law_ 706 = .ok (.iload 5, 2) := by decide +kernel
theorem dL_law__708 : decode cL_law_ 708 = .ok (.if_icmp .eq 5, 3) := by decide +kernel
theorem dL_law__711 : decode cL_law_ 711 = .ok (.iconst 0, 1) := by decide +kernel
theorem dL_law__712 : decode cL_law_ 712 = .ok (.ireturn, 1) := by decide +kernel
theorem dL_law__713 : decode cL_law_ 713 = .ok (.iload 5, 2) := by decide +kernel
theorem dL_law__715 : decode cL_law_ 715 = .ok (.ifCond .ne 22, 3) := by decide +kernel
theorem dL_law__718 : decode cL_law_ 718 = .ok (.aload_n 3, 1) := by decide +kernel
theorem dL_law__719 : decode cL_law_ 719 = .ok (.iconst 0, 1) := by decide +kernel
theorem dL_law__720 : decode cL_law_ 720 = .ok (.laload, 1) := by decide +kernel
theorem dL_law__721 : decode cL_law_ 721 = .ok (.iload 6, 2) := by decide +kernel
theorem dL_law__723 : decode cL_law_ 723 = .ok (.ifCond .eq 7, 3) := by decide +kernel
theorem dL_law__726 : decode cL_law_ 726 = .ok (.lconst 1, 1) := by decide +kernel
theorem dL_law__727 : decode cL_law_ 727 = .ok (.goto 4, 3) := by decide +kernel
theorem dL_law__730 : decode cL_law_ 730 = .ok (.lconst 0, 1) := by decide +kernel
theorem dL_law__731 : decode cL_law_ 731 = .ok (.lcmp, 1) := by decide +kernel
theorem dL_law__732 : decode cL_law_ 732 = .ok (.ifCond .eq 5, 3) := by decide +kernel
theorem dL_law__735 : decode cL_law_ 735 = .ok (.iconst 0, 1) := by decide +kernel
theorem dL_law__736 : decode cL_law_ 736 = .ok (.ireturn, 1) := by decide +kernel
theorem dL_law__737 : decode cL_law_ 737 = .ok (.goto 1004, 3) := by decide +kernel
theorem dL_law__740 : decode cL_law_ 740 = .ok (.aload_n 1, 1) := by decide +kernel
theorem dL_law__741 : decode cL_law_ 741 = .ok (.aload_n 0, 1) := by decide +kernel
theorem dL_law__742 : decode cL_law_ 742 = .ok (.iload 4, 2) := by decide +kernel
theorem dL_law__744 : decode cL_law_ 744 = .ok (.iconst 1, 1) := by decide +kernel
theorem dL_law__745 : decode cL_law_ 745 = .ok (.iadd, 1) := by decide +kernel
theorem dL_law__746 : decode cL_law_ 746 = .ok (.iaload, 1) := by decide +kernel
theorem dL_law__747 : decode cL_law_ 747 = .ok (.aload_n 3, 1) := by decide +kernel
theorem dL_law__748 : decode cL_law_ 748 = .ok (.invokestatic 134, 3) := by decide +kernel
theorem dL_law__751 : decode cL_law_ 751 = .ok (.istore 5, 2) := by decide +kernel
theorem dL_law__753 : decode cL_law_ 753 = .ok (.aload_n 2, 1) := by decide +kernel
theorem dL_law__754 : decode cL_law_ 754 = .ok (.aload_n 0, 1) := by decide +kernel
theorem dL_law__755 : decode cL_law_ 755 = .ok (.iload 4, 2) := by decide +kernel
theorem dL_law__757 : decode cL_law_ 757 = .ok (.iconst 1, 1) := by decide +kernel
theorem dL_law__758 : decode cL_law_ 758 = .ok (.iadd, 1) := by decide +kernel
theorem dL_law__759 : decode cL_law_ 759 = .ok (.iaload, 1) := by decide +kernel
theorem dL_law__760 : decode cL_law_ 760 = .ok (.invokevirtual 136, 3) := by decide +kernel
theorem dL_law__763 : decode cL_law_ 763 = .ok (.istore 6, 2) := by decide +kernel
theorem dL_law__765 : decode cL_law_ 765 = .ok (.aload_n 2, 1) := by decide +kernel
theorem dL_law__766 : decode cL_law_ 766 = .ok (.invokevirtual 108, 3) := by decide +kernel
theorem dL_law__769 : decode cL_law_ 769 = .ok (.iload 5, 2) := by decide +kernel
theorem dL_law__771 : decode cL_law_ 771 = .ok (.if_icmp .eq 5, 3) := by decide +kernel
theorem dL_law__774 : decode cL_law_ 774 = .ok (.iconst 0, 1) := by decide +kernel
theorem dL_law__775 : decode cL_law_ 775 = .ok (.ireturn, 1) := by decide +kernel
theorem dL_law__776 : decode cL_law_ 776 = .ok (.iload 5, 2) := by decide +kernel
theorem dL_law__778 : decode cL_law_ 778 = .ok (.ifCond .ne 15, 3) := by decide +kernel
theorem dL_law__781 : decode cL_law_ 781 = .ok (.aload_n 3, 1) := by decide +kernel
theorem dL_law__782 : decode cL_law_ 782 = .ok (.iconst 0, 1) := by decide +kernel
theorem dL_law__783 : decode cL_law_ 783 = .ok (.laload, 1) := by decide +kernel
theorem dL_law__784 : decode cL_law_ 784 = .ok (.iload 6, 2) := by decide +kernel
theorem dL_law__786 : decode cL_law_ 786 = .ok (.i2l, 1) := by decide +kernel
theorem dL_law__787 : decode cL_law_ 787 = .ok (.lcmp, 1) := by decide +kernel
theorem dL_law__788 : decode cL_law_ 788 = .ok (.ifCond .eq 5, 3) := by decide +kernel
theorem dL_law__791 : decode cL_law_ 791 = .ok (.iconst 0, 1) := by decide +kernel
theorem dL_law__792 : decode cL_law_ 792 = .ok (.ireturn, 1) := by decide +kernel
theorem dL_law__793 : decode cL_law_ 793 = .ok (.goto 948, 3) := by decide +kernel
theorem dL_law__796 : decode cL_law_ 796 = .ok (.aload_n 1, 1) := by decide +kernel
theorem dL_law__797 : decode cL_law_ 797 = .ok (.aload_n 0, 1) := by decide +kernel
theorem dL_law__798 : decode cL_law_ 798 = .ok (.iload 4, 2) := by decide +kernel
theorem dL_law__800 : decode cL_law_ 800 = .ok (.iconst 1, 1) := by decide +kernel
theorem dL_law__801 : decode cL_law_ 801 = .ok (.iadd, 1) := by decide +kernel
theorem dL_law__802 : decode cL_law_ 802 = .ok (.iaload, 1) := by decide +kernel
theorem dL_law__803 : decode cL_law_ 803 = .ok (.aload_n 3, 1) := by decide +kernel
theorem dL_law__804 : decode cL_law_ 804 = .ok (.invokestatic 137, 3) := by decide +kernel
theorem dL_law__807 : decode cL_law_ 807 = .ok (.istore 5, 2) := by decide +kernel
theorem dL_law__809 : decode cL_law_ 809 = .ok (.aload_n 2, 1) := by decide +kernel
theorem dL_law__810 : decode cL_law_ 810 = .ok (.aload_n 0, 1) := by decide +kernel
theorem dL_law__811 : decode cL_law_ 811 = .ok (.iload 4, 2) := by decide +kernel
theorem dL_law__813 : decode cL_law_ 813 = .ok (.iconst 1, 1) := by decide +kernel
theorem dL_law__814 : decode cL_law_ 814 = .ok (.iadd, 1) := by decide +kernel
theorem dL_law__815 : decode cL_law_ 815 = .ok (.iaload, 1) := by decide +kernel
theorem dL_law__816 : decode cL_law_ 816 = .ok (.invokevirtual 139, 3) := by decide +kernel
theorem dL_law__819 : decode cL_law_ 819 = .ok (.istore 6, 2) := by decide +kernel
theorem dL_law__821 : decode cL_law_ 821 = .ok (.aload_n 2, 1) := by decide +kernel
theorem dL_law__822 : decode cL_law_ 822 = .ok (.invokevirtual 108, 3) := by decide +kernel
theorem dL_law__825 : decode cL_law_ 825 = .ok (.iload 5, 2) := by decide +kernel
theorem dL_law__827 : decode cL_law_ 827 = .ok (.if_icmp .eq 5, 3) := by decide +kernel
theorem dL_law__830 : decode cL_law_ 830 = .ok (.iconst 0, 1) := by decide +kernel
theorem dL_law__831 : decode cL_law_ 831 = .ok (.ireturn, 1) := by decide +kernel
theorem dL_law__832 : decode cL_law_ 832 = .ok (.iload 5, 2) := by decide +kernel
theorem dL_law__834 : decode cL_law_ 834 = .ok (.ifCond .ne 15, 3) := by decide +kernel
theorem dL_law__837 : decode cL_law_ 837 = .ok (.aload_n 3, 1) := by decide +kernel
theorem dL_law__838 : decode cL_law_ 838 = .ok (.iconst 0, 1) := by decide +kernel
theorem dL_law__839 : decode cL_law_ 839 = .ok (.laload, 1) := by decide +kernel
theorem dL_law__840 : decode cL_law_ 840 = .ok (.iload 6, 2) := by decide +kernel
theorem dL_law__842 : decode cL_law_ 842 = .ok (.i2l, 1) := by decide +kernel
theorem dL_law__843 : decode cL_law_ 843 = .ok (.lcmp, 1) := by decide +kernel
theorem dL_law__844 : decode cL_law_ 844 = .ok (.ifCond .eq 5, 3) := by decide +kernel
theorem dL_law__847 : decode cL_law_ 847 = .ok (.iconst 0, 1) := by decide +kernel
theorem dL_law__848 : decode cL_law_ 848 = .ok (.ireturn, 1) := by decide +kernel
theorem dL_law__849 : decode cL_law_ 849 = .ok (.goto 892, 3) := by decide +kernel
theorem dL_law__852 : decode cL_law_ 852 = .ok (.aload_n 1, 1) := by decide +kernel
theorem dL_law__853 : decode cL_law_ 853 = .ok (.aload_n 0, 1) := by decide +kernel
theorem dL_law__854 : decode cL_law_ 854 = .ok (.iload 4, 2) := by decide +kernel
theorem dL_law__856 : decode cL_law_ 856 = .ok (.iconst 1, 1) := by decide +kernel
theorem dL_law__857 : decode cL_law_ 857 = .ok (.iadd, 1) := by decide +kernel
theorem dL_law__858 : decode cL_law_ 858 = .ok (.iaload, 1) := by decide +kernel
theorem dL_law__859 : decode cL_law_ 859 = .ok (.aload_n 0, 1) := by decide +kernel
theorem dL_law__860 : decode cL_law_ 860 = .ok (.iload 4, 2) := by decide +kernel
theorem dL_law__862 : decode cL_law_ 862 = .ok (.iconst 2, 1) := by decide +kernel
theorem dL_law__863 : decode cL_law_ 863 = .ok (.iadd, 1) := by decide +kernel
theorem dL_law__864 : decode cL_law_ 864 = .ok (.iaload, 1) := by decide +kernel
theorem dL_law__865 : decode cL_law_ 865 = .ok (.aload_n 3, 1) := by decide +kernel
theorem dL_law__866 : decode cL_law_ 866 = .ok (.invokestatic 140, 3) := by decide +kernel
theorem dL_law__869 : decode cL_law_ 869 = .ok (.istore 5, 2) := by decide +kernel
theorem dL_law__871 : decode cL_law_ 871 = .ok (.aload_n 2, 1) := by decide +kernel
theorem dL_law__872 : decode cL_law_ 872 = .ok (.aload_n 0, 1) := by decide +kernel
theorem dL_law__873 : decode cL_law_ 873 = .ok (.iload 4, 2) := by decide +kernel
theorem dL_law__875 : decode cL_law_ 875 = .ok (.iconst 1, 1) := by decide +kernel
theorem dL_law__876 : decode cL_law_ 876 = .ok (.iadd, 1) := by decide +kernel
theorem dL_law__877 : decode cL_law_ 877 = .ok (.iaload, 1) := by decide +kernel
theorem dL_law__878 : decode cL_law_ 878 = .ok (.aload_n 0, 1) := by decide +kernel
theorem dL_law__879 : decode cL_law_ 879 = .ok (.iload 4, 2) := by decide +kernel
theorem dL_law__881 : decode cL_law_ 881 = .ok (.iconst 2, 1) := by decide +kernel
theorem dL_law__882 : decode cL_law_ 882 = .ok (.iadd, 1) := by decide +kernel
theorem dL_law__883 : decode cL_law_ 883 = .ok (.iaload, 1) := by decide +kernel
theorem dL_law__884 : decode cL_law_ 884 = .ok (.invokevirtual 143, 3) := by decide +kernel
theorem dL_law__887 : decode cL_law_ 887 = .ok (.istore 6, 2) := by decide +kernel
theorem dL_law__889 : decode cL_law_ 889 = .ok (.aload_n 2, 1) := by decide +kernel
theorem dL_law__890 : decode cL_law_ 890 = .ok (.invokevirtual 108, 3) := by decide +kernel
theorem dL_law__893 : decode cL_law_ 893 = .ok (.iload 5, 2) := by decide +kernel
theorem dL_law__895 : decode cL_law_ 895 = .ok (.if_icmp .eq 5, 3) := by decide +kernel
theorem dL_law__898 : decode cL_law_ 898 = .ok (.iconst 0, 1) := by decide +kernel
theorem dL_law__899 : decode cL_law_ 899 = .ok (.ireturn, 1) := by decide +kernel
theorem dL_law__900 : decode cL_law_ 900 = .ok (.iload 5, 2) := by decide +kernel
theorem dL_law__902 : decode cL_law_ 902 = .ok (.ifCond .ne 15, 3) := by decide +kernel
theorem dL_law__905 : decode cL_law_ 905 = .ok (.aload_n 3, 1) := by decide +kernel
theorem dL_law__906 : decode cL_law_ 906 = .ok (.iconst 0, 1) := by decide +kernel
theorem dL_law__907 : decode cL_law_ 907 = .ok (.laload, 1) := by decide +kernel
theorem dL_law__908 : decode cL_law_ 908 = .ok (.iload 6, 2) := by decide +kernel
theorem dL_law__910 : decode cL_law_ 910 = .ok (.i2l, 1) := by decide +kernel
theorem dL_law__911 : decode cL_law_ 911 = .ok (.lcmp, 1) := by decide +kernel
theorem dL_law__912 : decode cL_law_ 912 = .ok (.ifCond .eq 5, 3) := by decide +kernel
theorem dL_law__915 : decode cL_law_ 915 = .ok (.iconst 0, 1) := by decide +kernel
theorem dL_law__916 : decode cL_law_ 916 = .ok (.ireturn, 1) := by decide +kernel
theorem dL_law__917 : decode cL_law_ 917 = .ok (.goto 824, 3) := by decide +kernel
theorem dL_law__920 : decode cL_law_ 920 = .ok (.aload_n 1, 1) := by decide +kernel
theorem dL_law__921 : decode cL_law_ 921 = .ok (.aload_n 0, 1) := by decide +kernel
theorem dL_law__922 : decode cL_law_ 922 = .ok (.iload 4, 2) := by decide +kernel
theorem dL_law__924 : decode cL_law_ 924 = .ok (.iconst 1, 1) := by decide +kernel
theorem dL_law__925 : decode cL_law_ 925 = .ok (.iadd, 1) := by decide +kernel
theorem dL_law__926 : decode cL_law_ 926 = .ok (.iaload, 1) := by decide +kernel
theorem dL_law__927 : decode cL_law_ 927 = .ok (.aload_n 0, 1) := by decide +kernel
theorem dL_law__928 : decode cL_law_ 928 = .ok (.iload 4, 2) := by decide +kernel
theorem dL_law__930 : decode cL_law_ 930 = .ok (.iconst 2, 1) := by decide +kernel
theorem dL_law__931 : decode cL_law_ 931 = .ok (.iadd, 1) := by decide +kernel
theorem dL_law__932 : decode cL_law_ 932 = .ok (.iaload, 1) := by decide +kernel
theorem dL_law__933 : decode cL_law_ 933 = .ok (.aload_n 0, 1) := by decide +kernel
theorem dL_law__934 : decode cL_law_ 934 = .ok (.iload 4, 2) := by decide +kernel
theorem dL_law__936 : decode cL_law_ 936 = .ok (.iconst 3, 1) := by decide +kernel
theorem dL_law__937 : decode cL_law_ 937 = .ok (.iadd, 1) := by decide +kernel
theorem dL_law__938 : decode cL_law_ 938 = .ok (.iaload, 1) := by decide +kernel
theorem dL_law__939 : decode cL_law_ 939 = .ok (.aload_n 0, 1) := by decide +kernel
theorem dL_law__940 : decode cL_law_ 940 = .ok (.iload 4, 2) := by decide +kernel
theorem dL_law__942 : decode cL_law_ 942 = .ok (.iconst 4, 1) := by decide +kernel
theorem dL_law__943 : decode cL_law_ 943 = .ok (.iadd, 1) := by decide +kernel
theorem dL_law__944 : decode cL_law_ 944 = .ok (.iaload, 1) := by decide +kernel
theorem dL_law__945 : decode cL_law_ 945 = .ok (.invokestatic 144, 3) := by decide +kernel
theorem dL_law__948 : decode cL_law_ 948 = .ok (.istore 5, 2) := by decide +kernel
theorem dL_law__950 : decode cL_law_ 950 = .ok (.aload_n 2, 1) := by decide +kernel
theorem dL_law__951 : decode cL_law_ 951 = .ok (.aload_n 0, 1) := by decide +kernel
theorem dL_law__952 : decode cL_law_ 952 = .ok (.iload 4, 2) := by decide +kernel
theorem dL_law__954 : decode cL_law_ 954 = .ok (.iconst 1, 1) := by decide +kernel
theorem dL_law__955 : decode cL_law_ 955 = .ok (.iadd, 1) := by decide +kernel
theorem dL_law__956 : decode cL_law_ 956 = .ok (.iaload, 1) := by decide +kernel
theorem dL_law__957 : decode cL_law_ 957 = .ok (.aload_n 0, 1) := by decide +kernel
theorem dL_law__958 : decode cL_law_ 958 = .ok (.iload 4, 2) := by decide +kernel
theorem dL_law__960 : decode cL_law_ 960 = .ok (.iconst 2, 1) := by decide +kernel
theorem dL_law__961 : decode cL_law_ 961 = .ok (.iadd, 1) := by decide +kernel
theorem dL_law__962 : decode cL_law_ 962 = .ok (.iaload, 1) := by decide +kernel
theorem dL_law__963 : decode cL_law_ 963 = .ok (.aload_n 0, 1) := by decide +kernel
theorem dL_law__964 : decode cL_law_ 964 = .ok (.iload 4, 2) := by decide +kernel
theorem dL_law__966 : decode cL_law_ 966 = .ok (.iconst 3, 1) := by decide +kernel
theorem dL_law__967 : decode cL_law_ 967 = .ok (.iadd, 1) := by decide +kernel
theorem dL_law__968 : decode cL_law_ 968 = .ok (.iaload, 1) := by decide +kernel
theorem dL_law__969 : decode cL_law_ 969 = .ok (.aload_n 0, 1) := by decide +kernel
theorem dL_law__970 : decode cL_law_ 970 = .ok (.iload 4, 2) := by decide +kernel
theorem dL_law__972 : decode cL_law_ 972 = .ok (.iconst 4, 1) := by decide +kernel
theorem dL_law__973 : decode cL_law_ 973 = .ok (.iadd, 1) := by decide +kernel
theorem dL_law__974 : decode cL_law_ 974 = .ok (.iaload, 1) := by decide +kernel
theorem dL_law__975 : decode cL_law_ 975 = .ok (.invokevirtual 147, 3) := by decide +kernel
theorem dL_law__978 : decode cL_law_ 978 = .ok (.aload_n 2, 1) := by decide +kernel
theorem dL_law__979 : decode cL_law_ 979 = .ok (.invokevirtual 108, 3) := by decide +kernel
theorem dL_law__982 : decode cL_law_ 982 = .ok (.iload 5, 2) := by decide +kernel
theorem dL_law__984 : decode cL_law_ 984 = .ok (.if_icmp .eq 5, 3) := by decide +kernel
theorem dL_law__987 : decode cL_law_ 987 = .ok (.iconst 0, 1) := by decide +kernel
theorem dL_law__988 : decode cL_law_ 988 = .ok (.ireturn, 1) := by decide +kernel
theorem dL_law__989 : decode cL_law_ 989 = .ok (.goto 752, 3) := by decide +kernel
theorem dL_law__992 : decode cL_law_ 992 = .ok (.aload_n 1, 1) := by decide +kernel
theorem dL_law__993 : decode cL_law_ 993 = .ok (.aload_n 0, 1) := by decide +kernel
theorem dL_law__994 : decode cL_law_ 994 = .ok (.iload 4, 2) := by decide +kernel
theorem dL_law__996 : decode cL_law_ 996 = .ok (.iconst 1, 1) := by decide +kernel
theorem dL_law__997 : decode cL_law_ 997 = .ok (.iadd, 1) := by decide +kernel
theorem dL_law__998 : decode cL_law_ 998 = .ok (.iaload, 1) := by decide +kernel
theorem dL_law__999 : decode cL_law_ 999 = .ok (.aload_n 0, 1) := by decide +kernel
theorem dL_law__1000 : decode cL_law_ 1000 = .ok (.iload 4, 2) := by decide +kernel
theorem dL_law__1002 : decode cL_law_ 1002 = .ok (.iconst 2, 1) := by decide +kernel
theorem dL_law__1003 : decode cL_law_ 1003 = .ok (.iadd, 1) := by decide +kernel
theorem dL_law__1004 : decode cL_law_ 1004 = .ok (.iaload, 1) := by decide +kernel
theorem dL_law__1005 : decode cL_law_ 1005 = .ok (.aload_n 0, 1) := by decide +kernel
theorem dL_law__1006 : decode cL_law_ 1006 = .ok (.iload 4, 2) := by decide +kernel
theorem dL_law__1008 : decode cL_law_ 1008 = .ok (.iconst 3, 1) := by decide +kernel
theorem dL_law__1009 : decode cL_law_ 1009 = .ok (.iadd, 1) := by decide +kernel
theorem dL_law__1010 : decode cL_law_ 1010 = .ok (.iaload, 1) := by decide +kernel
theorem dL_law__1011 : decode cL_law_ 1011 = .ok (.aload_n 0, 1) := by decide +kernel
theorem dL_law__1012 : decode cL_law_ 1012 = .ok (.iload 4, 2) := by decide +kernel
theorem dL_law__1014 : decode cL_law_ 1014 = .ok (.iconst 4, 1) := by decide +kernel
theorem dL_law__1015 : decode cL_law_ 1015 = .ok (.iadd, 1) := by decide +kernel
theorem dL_law__1016 : decode cL_law_ 1016 = .ok (.iaload, 1) := by decide +kernel
theorem dL_law__1017 : decode cL_law_ 1017 = .ok (.aload_n 0, 1) := by decide +kernel
theorem dL_law__1018 : decode cL_law_ 1018 = .ok (.iload 4, 2) := by decide +kernel
theorem dL_law__1020 : decode cL_law_ 1020 = .ok (.iconst 5, 1) := by decide +kernel
theorem dL_law__1021 : decode cL_law_ 1021 = .ok (.iadd, 1) := by decide +kernel
theorem dL_law__1022 : decode cL_law_ 1022 = .ok (.iaload, 1) := by decide +kernel
theorem dL_law__1023 : decode cL_law_ 1023 = .ok (.aload_n 0, 1) := by decide +kernel
theorem dL_law__1024 : decode cL_law_ 1024 = .ok (.iload 4, 2) := by decide +kernel
theorem dL_law__1026 : decode cL_law_ 1026 = .ok (.bipush 6, 2) := by decide +kernel
theorem dL_law__1028 : decode cL_law_ 1028 = .ok (.iadd, 1) := by decide +kernel
theorem dL_law__1029 : decode cL_law_ 1029 = .ok (.iaload, 1) := by decide +kernel
theorem dL_law__1030 : decode cL_law_ 1030 = .ok (.aload_n 0, 1) := by decide +kernel
theorem dL_law__1031 : decode cL_law_ 1031 = .ok (.iload 4, 2) := by decide +kernel
theorem dL_law__1033 : decode cL_law_ 1033 = .ok (.bipush 7, 2) := by decide +kernel
theorem dL_law__1035 : decode cL_law_ 1035 = .ok (.iadd, 1) := by decide +kernel
theorem dL_law__1036 : decode cL_law_ 1036 = .ok (.iaload, 1) := by decide +kernel
theorem dL_law__1037 : decode cL_law_ 1037 = .ok (.aload_n 0, 1) := by decide +kernel
theorem dL_law__1038 : decode cL_law_ 1038 = .ok (.iload 4, 2) := by decide +kernel
theorem dL_law__1040 : decode cL_law_ 1040 = .ok (.bipush 8, 2) := by decide +kernel
theorem dL_law__1042 : decode cL_law_ 1042 = .ok (.iadd, 1) := by decide +kernel
theorem dL_law__1043 : decode cL_law_ 1043 = .ok (.iaload, 1) := by decide +kernel
theorem dL_law__1044 : decode cL_law_ 1044 = .ok (.aload_n 0, 1) := by decide +kernel
theorem dL_law__1045 : decode cL_law_ 1045 = .ok (.iload 4, 2) := by decide +kernel
theorem dL_law__1047 : decode cL_law_ 1047 = .ok (.bipush 9, 2) := by decide +kernel
theorem dL_law__1049 : decode cL_law_ 1049 = .ok (.iadd, 1) := by decide +kernel
theorem dL_law__1050 : decode cL_law_ 1050 = .ok (.iaload, 1) := by decide +kernel
theorem dL_law__1051 : decode cL_law_ 1051 = .ok (.aload_n 0, 1) := by decide +kernel
theorem dL_law__1052 : decode cL_law_ 1052 = .ok (.iload 4, 2) := by decide +kernel
theorem dL_law__1054 : decode cL_law_ 1054 = .ok (.bipush 10, 2) := by decide +kernel
theorem dL_law__1056 : decode cL_law_ 1056 = .ok (.iadd, 1) := by decide +kernel
theorem dL_law__1057 : decode cL_law_ 1057 = .ok (.iaload, 1) := by decide +kernel
theorem dL_law__1058 : decode cL_law_ 1058 = .ok (.aload_n 3, 1) := by decide +kernel
theorem dL_law__1059 : decode cL_law_ 1059 = .ok (.invokestatic 148, 3) := by decide +kernel
theorem dL_law__1062 : decode cL_law_ 1062 = .ok (.istore 5, 2) := by decide +kernel
theorem dL_law__1064 : decode cL_law_ 1064 = .ok (.aload_n 2, 1) := by decide +kernel
theorem dL_law__1065 : decode cL_law_ 1065 = .ok (.aload_n 0, 1) := by decide +kernel
theorem dL_law__1066 : decode cL_law_ 1066 = .ok (.iload 4, 2) := by decide +kernel
theorem dL_law__1068 : decode cL_law_ 1068 = .ok (.iconst 1, 1) := by decide +kernel
theorem dL_law__1069 : decode cL_law_ 1069 = .ok (.iadd, 1) := by decide +kernel
theorem dL_law__1070 : decode cL_law_ 1070 = .ok (.iaload, 1) := by decide +kernel
theorem dL_law__1071 : decode cL_law_ 1071 = .ok (.aload_n 0, 1) := by decide +kernel
theorem dL_law__1072 : decode cL_law_ 1072 = .ok (.iload 4, 2) := by decide +kernel
theorem dL_law__1074 : decode cL_law_ 1074 = .ok (.iconst 2, 1) := by decide +kernel
theorem dL_law__1075 : decode cL_law_ 1075 = .ok (.iadd, 1) := by decide +kernel
theorem dL_law__1076 : decode cL_law_ 1076 = .ok (.iaload, 1) := by decide +kernel
theorem dL_law__1077 : decode cL_law_ 1077 = .ok (.aload_n 0, 1) := by decide +kernel
theorem dL_law__1078 : decode cL_law_ 1078 = .ok (.iload 4, 2) := by decide +kernel
theorem dL_law__1080 : decode cL_law_ 1080 = .ok (.iconst 3, 1) := by decide +kernel
theorem dL_law__1081 : decode cL_law_ 1081 = .ok (.iadd, 1) := by decide +kernel
theorem dL_law__1082 : decode cL_law_ 1082 = .ok (.iaload, 1) := by decide +kernel
theorem dL_law__1083 : decode cL_law_ 1083 = .ok (.aload_n 0, 1) := by decide +kernel
theorem dL_law__1084 : decode cL_law_ 1084 = .ok (.iload 4, 2) := by decide +kernel
theorem dL_law__1086 : decode cL_law_ 1086 = .ok (.iconst 4, 1) := by decide +kernel
theorem dL_law__1087 : decode cL_law_ 1087 = .ok (.iadd, 1) := by decide +kernel
theorem dL_law__1088 : decode cL_law_ 1088 = .ok (.iaload, 1) := by decide +kernel
theorem dL_law__1089 : decode cL_law_ 1089 = .ok (.aload_n 0, 1) := by decide +kernel
theorem dL_law__1090 : decode cL_law_ 1090 = .ok (.iload 4, 2) := by decide +kernel
theorem dL_law__1092 : decode cL_law_ 1092 = .ok (.iconst 5, 1) := by decide +kernel
theorem dL_law__1093 : decode cL_law_ 1093 = .ok (.iadd, 1) := by decide +kernel
theorem dL_law__1094 : decode cL_law_ 1094 = .ok (.iaload, 1) := by decide +kernel
theorem dL_law__1095 : decode cL_law_ 1095 = .ok (.aload_n 0, 1) := by decide +kernel
theorem dL_law__1096 : decode cL_law_ 1096 = .ok (.iload 4, 2) := by decide +kernel
theorem dL_law__1098 : decode cL_law_ 1098 = .ok (.bipush 6, 2) := by decide +kernel
theorem dL_law__1100 : decode cL_law_ 1100 = .ok (.iadd, 1) := by decide +kernel
theorem dL_law__1101 : decode cL_law_ 1101 = .ok (.iaload, 1) := by decide +kernel
theorem dL_law__1102 : decode cL_law_ 1102 = .ok (.aload_n 0, 1) := by decide +kernel
theorem dL_law__1103 : decode cL_law_ 1103 = .ok (.iload 4, 2) := by decide +kernel
theorem dL_law__1105 : decode cL_law_ 1105 = .ok (.bipush 7, 2) := by decide +kernel
theorem dL_law__1107 : decode cL_law_ 1107 = .ok (.iadd, 1) := by decide +kernel
theorem dL_law__1108 : decode cL_law_ 1108 = .ok (.iaload, 1) := by decide +kernel
theorem dL_law__1109 : decode cL_law_ 1109 = .ok (.aload_n 0, 1) := by decide +kernel
theorem dL_law__1110 : decode cL_law_ 1110 = .ok (.iload 4, 2) := by decide +kernel
theorem dL_law__1112 : decode cL_law_ 1112 = .ok (.bipush 8, 2) := by decide +kernel
theorem dL_law__1114 : decode cL_law_ 1114 = .ok (.iadd, 1) := by decide +kernel
theorem dL_law__1115 : decode cL_law_ 1115 = .ok (.iaload, 1) := by decide +kernel
theorem dL_law__1116 : decode cL_law_ 1116 = .ok (.aload_n 0, 1) := by decide +kernel
theorem dL_law__1117 : decode cL_law_ 1117 = .ok (.iload 4, 2) := by decide +kernel
theorem dL_law__1119 : decode cL_law_ 1119 = .ok (.bipush 9, 2) := by decide +kernel
theorem dL_law__1121 : decode cL_law_ 1121 = .ok (.iadd, 1) := by decide +kernel
theorem dL_law__1122 : decode cL_law_ 1122 = .ok (.iaload, 1) := by decide +kernel
theorem dL_law__1123 : decode cL_law_ 1123 = .ok (.aload_n 0, 1) := by decide +kernel
theorem dL_law__1124 : decode cL_law_ 1124 = .ok (.iload 4, 2) := by decide +kernel
theorem dL_law__1126 : decode cL_law_ 1126 = .ok (.bipush 10, 2) := by decide +kernel
theorem dL_law__1128 : decode cL_law_ 1128 = .ok (.iadd, 1) := by decide +kernel
theorem dL_law__1129 : decode cL_law_ 1129 = .ok (.iaload, 1) := by decide +kernel
theorem dL_law__1130 : decode cL_law_ 1130 = .ok (.invokevirtual 151, 3) := by decide +kernel
theorem dL_law__1133 : decode cL_law_ 1133 = .ok (.istore 6, 2) := by decide +kernel
theorem dL_law__1135 : decode cL_law_ 1135 = .ok (.aload_n 2, 1) := by decide +kernel
theorem dL_law__1136 : decode cL_law_ 1136 = .ok (.invokevirtual 108, 3) := by decide +kernel
theorem dL_law__1139 : decode cL_law_ 1139 = .ok (.iload 5, 2) := by decide +kernel
theorem dL_law__1141 : decode cL_law_ 1141 = .ok (.if_icmp .eq 5, 3) := by decide +kernel
theorem dL_law__1144 : decode cL_law_ 1144 = .ok (.iconst 0, 1) := by decide +kernel
theorem dL_law__1145 : decode cL_law_ 1145 = .ok (.ireturn, 1) := by decide +kernel
theorem dL_law__1146 : decode cL_law_ 1146 = .ok (.iload 5, 2) := by decide +kernel
theorem dL_law__1148 : decode cL_law_ 1148 = .ok (.ifCond .ne 15, 3) := by decide +kernel
theorem dL_law__1151 : decode cL_law_ 1151 = .ok (.aload_n 3, 1) := by decide +kernel
theorem dL_law__1152 : decode cL_law_ 1152 = .ok (.iconst 0, 1) := by decide +kernel
theorem dL_law__1153 : decode cL_law_ 1153 = .ok (.laload, 1) := by decide +kernel
theorem dL_law__1154 : decode cL_law_ 1154 = .ok (.iload 6, 2) := by decide +kernel
theorem dL_law__1156 : decode cL_law_ 1156 = .ok (.i2l, 1) := by decide +kernel
theorem dL_law__1157 : decode cL_law_ 1157 = .ok (.lcmp, 1) := by decide +kernel
theorem dL_law__1158 : decode cL_law_ 1158 = .ok (.ifCond .eq 5, 3) := by decide +kernel
theorem dL_law__1161 : decode cL_law_ 1161 = .ok (.iconst 0, 1) := by decide +kernel
theorem dL_law__1162 : decode cL_law_ 1162 = .ok (.ireturn, 1) := by decide +kernel
theorem dL_law__1163 : decode cL_law_ 1163 = .ok (.goto 578, 3) := by decide +kernel
theorem dL_law__1166 : decode cL_law_ 1166 = .ok (.aload_n 1, 1) := by decide +kernel
theorem dL_law__1167 : decode cL_law_ 1167 = .ok (.aload_n 0, 1) := by decide +kernel
theorem dL_law__1168 : decode cL_law_ 1168 = .ok (.iload 4, 2) := by decide +kernel
theorem dL_law__1170 : decode cL_law_ 1170 = .ok (.iconst 1, 1) := by decide +kernel
theorem dL_law__1171 : decode cL_law_ 1171 = .ok (.iadd, 1) := by decide +kernel
theorem dL_law__1172 : decode cL_law_ 1172 = .ok (.iaload, 1) := by decide +kernel
theorem dL_law__1173 : decode cL_law_ 1173 = .ok (.aload_n 0, 1) := by decide +kernel
theorem dL_law__1174 : decode cL_law_ 1174 = .ok (.iload 4, 2) := by decide +kernel
theorem dL_law__1176 : decode cL_law_ 1176 = .ok (.iconst 2, 1) := by decide +kernel
theorem dL_law__1177 : decode cL_law_ 1177 = .ok (.iadd, 1) := by decide +kernel
theorem dL_law__1178 : decode cL_law_ 1178 = .ok (.iaload, 1) := by decide +kernel
theorem dL_law__1179 : decode cL_law_ 1179 = .ok (.aload_n 0, 1) := by decide +kernel
theorem dL_law__1180 : decode cL_law_ 1180 = .ok (.iload 4, 2) := by decide +kernel
theorem dL_law__1182 : decode cL_law_ 1182 = .ok (.iconst 3, 1) := by decide +kernel
theorem dL_law__1183 : decode cL_law_ 1183 = .ok (.iadd, 1) := by decide +kernel
theorem dL_law__1184 : decode cL_law_ 1184 = .ok (.iaload, 1) := by decide +kernel
theorem dL_law__1185 : decode cL_law_ 1185 = .ok (.aload_n 0, 1) := by decide +kernel
theorem dL_law__1186 : decode cL_law_ 1186 = .ok (.iload 4, 2) := by decide +kernel
theorem dL_law__1188 : decode cL_law_ 1188 = .ok (.iconst 4, 1) := by decide +kernel
theorem dL_law__1189 : decode cL_law_ 1189 = .ok (.iadd, 1) := by decide +kernel
theorem dL_law__1190 : decode cL_law_ 1190 = .ok (.iaload, 1) := by decide +kernel
theorem dL_law__1191 : decode cL_law_ 1191 = .ok (.invokestatic 152, 3) := by decide +kernel
theorem dL_law__1194 : decode cL_law_ 1194 = .ok (.istore 5, 2) := by decide +kernel
theorem dL_law__1196 : decode cL_law_ 1196 = .ok (.aload_n 2, 1) := by decide +kernel
theorem dL_law__1197 : decode cL_law_ 1197 = .ok (.aload_n 0, 1) := by decide +kernel
theorem dL_law__1198 : decode cL_law_ 1198 = .ok (.iload 4, 2) := by decide +kernel
theorem dL_law__1200 : decode cL_law_ 1200 = .ok (.iconst 1, 1) := by decide +kernel
theorem dL_law__1201 : decode cL_law_ 1201 = .ok (.iadd, 1) := by decide +kernel
theorem dL_law__1202 : decode cL_law_ 1202 = .ok (.iaload, 1) := by decide +kernel
theorem dL_law__1203 : decode cL_law_ 1203 = .ok (.aload_n 0, 1) := by decide +kernel
theorem dL_law__1204 : decode cL_law_ 1204 = .ok (.iload 4, 2) := by decide +kernel
theorem dL_law__1206 : decode cL_law_ 1206 = .ok (.iconst 2, 1) := by decide +kernel
theorem dL_law__1207 : decode cL_law_ 1207 = .ok (.iadd, 1) := by decide +kernel
theorem dL_law__1208 : decode cL_law_ 1208 = .ok (.iaload, 1) := by decide +kernel
theorem dL_law__1209 : decode cL_law_ 1209 = .ok (.aload_n 0, 1) := by decide +kernel
theorem dL_law__1210 : decode cL_law_ 1210 = .ok (.iload 4, 2) := by decide +kernel
theorem dL_law__1212 : decode cL_law_ 1212 = .ok (.iconst 3, 1) := by decide +kernel
theorem dL_law__1213 : decode cL_law_ 1213 = .ok (.iadd, 1) := by decide +kernel
theorem dL_law__1214 : decode cL_law_ 1214 = .ok (.iaload, 1) := by decide +kernel
theorem dL_law__1215 : decode cL_law_ 1215 = .ok (.aload_n 0, 1) := by decide +kernel
theorem dL_law__1216 : decode cL_law_ 1216 = .ok (.iload 4, 2) := by decide +kernel
theorem dL_law__1218 : decode cL_law_ 1218 = .ok (.iconst 4, 1) := by decide +kernel
theorem dL_law__1219 : decode cL_law_ 1219 = .ok (.iadd, 1) := by decide +kernel
theorem dL_law__1220 : decode cL_law_ 1220 = .ok (.iaload, 1) := by decide +kernel
theorem dL_law__1221 : decode cL_law_ 1221 = .ok (.invokevirtual 154, 3) := by decide +kernel
theorem dL_law__1224 : decode cL_law_ 1224 = .ok (.aload_n 2, 1) := by decide +kernel
theorem dL_law__1225 : decode cL_law_ 1225 = .ok (.invokevirtual 108, 3) := by decide +kernel
theorem dL_law__1228 : decode cL_law_ 1228 = .ok (.iload 5, 2) := by decide +kernel
theorem dL_law__1230 : decode cL_law_ 1230 = .ok (.if_icmp .eq 5, 3) := by decide +kernel
theorem dL_law__1233 : decode cL_law_ 1233 = .ok (.iconst 0, 1) := by decide +kernel
theorem dL_law__1234 : decode cL_law_ 1234 = .ok (.ireturn, 1) := by decide +kernel
theorem dL_law__1235 : decode cL_law_ 1235 = .ok (.goto 506, 3) := by decide +kernel
theorem dL_law__1238 : decode cL_law_ 1238 = .ok (.aload_n 1, 1) := by decide +kernel
theorem dL_law__1239 : decode cL_law_ 1239 = .ok (.aload_n 0, 1) := by decide +kernel
theorem dL_law__1240 : decode cL_law_ 1240 = .ok (.iload 4, 2) := by decide +kernel
theorem dL_law__1242 : decode cL_law_ 1242 = .ok (.iconst 1, 1) := by decide +kernel
theorem dL_law__1243 : decode cL_law_ 1243 = .ok (.iadd, 1) := by decide +kernel
theorem dL_law__1244 : decode cL_law_ 1244 = .ok (.iaload, 1) := by decide +kernel
theorem dL_law__1245 : decode cL_law_ 1245 = .ok (.aload_n 3, 1) := by decide +kernel
theorem dL_law__1246 : decode cL_law_ 1246 = .ok (.invokestatic 155, 3) := by decide +kernel
theorem dL_law__1249 : decode cL_law_ 1249 = .ok (.istore 5, 2) := by decide +kernel
theorem dL_law__1251 : decode cL_law_ 1251 = .ok (.aload_n 2, 1) := by decide +kernel
theorem dL_law__1252 : decode cL_law_ 1252 = .ok (.aload_n 0, 1) := by decide +kernel
theorem dL_law__1253 : decode cL_law_ 1253 = .ok (.iload 4, 2) := by decide +kernel
theorem dL_law__1255 : decode cL_law_ 1255 = .ok (.iconst 1, 1) := by decide +kernel
theorem dL_law__1256 : decode cL_law_ 1256 = .ok (.iadd, 1) := by decide +kernel
theorem dL_law__1257 : decode cL_law_ 1257 = .ok (.iaload, 1) := by decide +kernel
theorem dL_law__1258 : decode cL_law_ 1258 = .ok (.invokevirtual 157, 3) := by decide +kernel
theorem dL_law__1261 : decode cL_law_ 1261 = .ok (.istore 6, 2) := by decide +kernel
theorem dL_law__1263 : decode cL_law_ 1263 = .ok (.aload_n 2, 1) := by decide +kernel
theorem dL_law__1264 : decode cL_law_ 1264 = .ok (.invokevirtual 108, 3) := by decide +kernel
theorem dL_law__1267 : decode cL_law_ 1267 = .ok (.iload 5, 2) := by decide +kernel
theorem dL_law__1269 : decode cL_law_ 1269 = .ok (.if_icmp .eq 5, 3) := by decide +kernel
theorem dL_law__1272 : decode cL_law_ 1272 = .ok (.iconst 0, 1) := by decide +kernel
theorem dL_law__1273 : decode cL_law_ 1273 = .ok (.ireturn, 1) := by decide +kernel
theorem dL_law__1274 : decode cL_law_ 1274 = .ok (.iload 5, 2) := by decide +kernel
theorem dL_law__1276 : decode cL_law_ 1276 = .ok (.ifCond .ne 15, 3) := by decide +kernel
theorem dL_law__1279 : decode cL_law_ 1279 = .ok (.aload_n 3, 1) := by decide +kernel
theorem dL_law__1280 : decode cL_law_ 1280 = .ok (.iconst 0, 1) := by decide +kernel
theorem dL_law__1281 : decode cL_law_ 1281 = .ok (.laload, 1) := by decide +kernel
theorem dL_law__1282 : decode cL_law_ 1282 = .ok (.iload 6, 2) := by decide +kernel
theorem dL_law__1284 : decode cL_law_ 1284 = .ok (.i2l, 1) := by decide +kernel
theorem dL_law__1285 : decode cL_law_ 1285 = .ok (.lcmp, 1) := by decide +kernel
theorem dL_law__1286 : decode cL_law_ 1286 = .ok (.ifCond .eq 5, 3) := by decide +kernel
theorem dL_law__1289 : decode cL_law_ 1289 = .ok (.iconst 0, 1) := by decide +kernel
theorem dL_law__1290 : decode cL_law_ 1290 = .ok (.ireturn, 1) := by decide +kernel
theorem dL_law__1291 : decode cL_law_ 1291 = .ok (.goto 450, 3) := by decide +kernel
theorem dL_law__1294 : decode cL_law_ 1294 = .ok (.aload_n 1, 1) := by decide +kernel
theorem dL_law__1295 : decode cL_law_ 1295 = .ok (.aload_n 0, 1) := by decide +kernel
theorem dL_law__1296 : decode cL_law_ 1296 = .ok (.iload 4, 2) := by decide +kernel
theorem dL_law__1298 : decode cL_law_ 1298 = .ok (.iconst 1, 1) := by decide +kernel
theorem dL_law__1299 : decode cL_law_ 1299 = .ok (.iadd, 1) := by decide +kernel
theorem dL_law__1300 : decode cL_law_ 1300 = .ok (.iaload, 1) := by decide +kernel
theorem dL_law__1301 : decode cL_law_ 1301 = .ok (.aload_n 0, 1) := by decide +kernel
theorem dL_law__1302 : decode cL_law_ 1302 = .ok (.iload 4, 2) := by decide +kernel
theorem dL_law__1304 : decode cL_law_ 1304 = .ok (.iconst 2, 1) := by decide +kernel
theorem dL_law__1305 : decode cL_law_ 1305 = .ok (.iadd, 1) := by decide +kernel
theorem dL_law__1306 : decode cL_law_ 1306 = .ok (.iaload, 1) := by decide +kernel
theorem dL_law__1307 : decode cL_law_ 1307 = .ok (.aload_n 3, 1) := by decide +kernel
theorem dL_law__1308 : decode cL_law_ 1308 = .ok (.invokestatic 158, 3) := by decide +kernel
theorem dL_law__1311 : decode cL_law_ 1311 = .ok (.istore 5, 2) := by decide +kernel
theorem dL_law__1313 : decode cL_law_ 1313 = .ok (.aload_n 2, 1) := by decide +kernel
theorem dL_law__1314 : decode cL_law_ 1314 = .ok (.aload_n 0, 1) := by decide +kernel
theorem dL_law__1315 : decode cL_law_ 1315 = .ok (.iload 4, 2) := by decide +kernel
theorem dL_law__1317 : decode cL_law_ 1317 = .ok (.iconst 1, 1) := by decide +kernel
theorem dL_law__1318 : decode cL_law_ 1318 = .ok (.iadd, 1) := by decide +kernel
theorem dL_law__1319 : decode cL_law_ 1319 = .ok (.iaload, 1) := by decide +kernel
theorem dL_law__1320 : decode cL_law_ 1320 = .ok (.aload_n 0, 1) := by decide +kernel
theorem dL_law__1321 : decode cL_law_ 1321 = .ok (.iload 4, 2) := by decide +kernel
theorem dL_law__1323 : decode cL_law_ 1323 = .ok (.iconst 2, 1) := by decide +kernel
theorem dL_law__1324 : decode cL_law_ 1324 = .ok (.iadd, 1) := by decide +kernel
theorem dL_law__1325 : decode cL_law_ 1325 = .ok (.iaload, 1) := by decide +kernel
theorem dL_law__1326 : decode cL_law_ 1326 = .ok (.invokevirtual 160, 3) := by decide +kernel
theorem dL_law__1329 : decode cL_law_ 1329 = .ok (.istore 6, 2) := by decide +kernel
theorem dL_law__1331 : decode cL_law_ 1331 = .ok (.aload_n 2, 1) := by decide +kernel
theorem dL_law__1332 : decode cL_law_ 1332 = .ok (.invokevirtual 108, 3) := by decide +kernel
theorem dL_law__1335 : decode cL_law_ 1335 = .ok (.iload 5, 2) := by decide +kernel
theorem dL_law__1337 : decode cL_law_ 1337 = .ok (.if_icmp .eq 5, 3) := by decide +kernel
theorem dL_law__1340 : decode cL_law_ 1340 = .ok (.iconst 0, 1) := by decide +kernel
theorem dL_law__1341 : decode cL_law_ 1341 = .ok (.ireturn, 1) := by decide +kernel
theorem dL_law__1342 : decode cL_law_ 1342 = .ok (.iload 5, 2) := by decide +kernel
theorem dL_law__1344 : decode cL_law_ 1344 = .ok (.ifCond .ne 15, 3) := by decide +kernel
theorem dL_law__1347 : decode cL_law_ 1347 = .ok (.aload_n 3, 1) := by decide +kernel
theorem dL_law__1348 : decode cL_law_ 1348 = .ok (.iconst 0, 1) := by decide +kernel
theorem dL_law__1349 : decode cL_law_ 1349 = .ok (.laload, 1) := by decide +kernel
theorem dL_law__1350 : decode cL_law_ 1350 = .ok (.iload 6, 2) := by decide +kernel
theorem dL_law__1352 : decode cL_law_ 1352 = .ok (.i2l, 1) := by decide +kernel
theorem dL_law__1353 : decode cL_law_ 1353 = .ok (.lcmp, 1) := by decide +kernel
theorem dL_law__1354 : decode cL_law_ 1354 = .ok (.ifCond .eq 5, 3) := by decide +kernel
theorem dL_law__1357 : decode cL_law_ 1357 = .ok (.iconst 0, 1) := by decide +kernel
theorem dL_law__1358 : decode cL_law_ 1358 = .ok (.ireturn, 1) := by decide +kernel
theorem dL_law__1359 : decode cL_law_ 1359 = .ok (.goto 382, 3) := by decide +kernel
theorem dL_law__1362 : decode cL_law_ 1362 = .ok (.aload_n 1, 1) := by decide +kernel
theorem dL_law__1363 : decode cL_law_ 1363 = .ok (.aload_n 0, 1) := by decide +kernel
theorem dL_law__1364 : decode cL_law_ 1364 = .ok (.iload 4, 2) := by decide +kernel
theorem dL_law__1366 : decode cL_law_ 1366 = .ok (.iconst 1, 1) := by decide +kernel
theorem dL_law__1367 : decode cL_law_ 1367 = .ok (.iadd, 1) := by decide +kernel
theorem dL_law__1368 : decode cL_law_ 1368 = .ok (.iaload, 1) := by decide +kernel
theorem dL_law__1369 : decode cL_law_ 1369 = .ok (.aload_n 0, 1) := by decide +kernel
theorem dL_law__1370 : decode cL_law_ 1370 = .ok (.iload 4, 2) := by decide +kernel
theorem dL_law__1372 : decode cL_law_ 1372 = .ok (.iconst 2, 1) := by decide +kernel
theorem dL_law__1373 : decode cL_law_ 1373 = .ok (.iadd, 1) := by decide +kernel
theorem dL_law__1374 : decode cL_law_ 1374 = .ok (.iaload, 1) := by decide +kernel
theorem dL_law__1375 : decode cL_law_ 1375 = .ok (.aload_n 3, 1) := by decide +kernel
theorem dL_law__1376 : decode cL_law_ 1376 = .ok (.invokestatic 161, 3) := by decide +kernel
theorem dL_law__1379 : decode cL_law_ 1379 = .ok (.istore 5, 2) := by decide +kernel
theorem dL_law__1381 : decode cL_law_ 1381 = .ok (.aload_n 2, 1) := by decide +kernel
theorem dL_law__1382 : decode cL_law_ 1382 = .ok (.aload_n 0, 1) := by decide +kernel
theorem dL_law__1383 : decode cL_law_ 1383 = .ok (.iload 4, 2) := by decide +kernel
theorem dL_law__1385 : decode cL_law_ 1385 = .ok (.iconst 1, 1) := by decide +kernel
theorem dL_law__1386 : decode cL_law_ 1386 = .ok (.iadd, 1) := by decide +kernel
theorem dL_law__1387 : decode cL_law_ 1387 = .ok (.iaload, 1) := by decide +kernel
theorem dL_law__1388 : decode cL_law_ 1388 = .ok (.aload_n 0, 1) := by decide +kernel
theorem dL_law__1389 : decode cL_law_ 1389 = .ok (.iload 4, 2) := by decide +kernel
theorem dL_law__1391 : decode cL_law_ 1391 = .ok (.iconst 2, 1) := by decide +kernel
theorem dL_law__1392 : decode cL_law_ 1392 = .ok (.iadd, 1) := by decide +kernel
theorem dL_law__1393 : decode cL_law_ 1393 = .ok (.iaload, 1) := by decide +kernel
theorem dL_law__1394 : decode cL_law_ 1394 = .ok (.invokevirtual 163, 3) := by decide +kernel
theorem dL_law__1397 : decode cL_law_ 1397 = .ok (.istore 6, 2) := by decide +kernel
theorem dL_law__1399 : decode cL_law_ 1399 = .ok (.aload_n 2, 1) := by decide +kernel
theorem dL_law__1400 : decode cL_law_ 1400 = .ok (.invokevirtual 108, 3) := by decide +kernel
theorem dL_law__1403 : decode cL_law_ 1403 = .ok (.iload 5, 2) := by decide +kernel
theorem dL_law__1405 : decode cL_law_ 1405 = .ok (.if_icmp .eq 5, 3) := by decide +kernel
theorem dL_law__1408 : decode cL_law_ 1408 = .ok (.iconst 0, 1) := by decide +kernel
theorem dL_law__1409 : decode cL_law_ 1409 = .ok (.ireturn, 1) := by decide +kernel
theorem dL_law__1410 : decode cL_law_ 1410 = .ok (.iload 5, 2) := by decide +kernel
theorem dL_law__1412 : decode cL_law_ 1412 = .ok (.ifCond .ne 15, 3) := by decide +kernel
theorem dL_law__1415 : decode cL_law_ 1415 = .ok (.aload_n 3, 1) := by decide +kernel
theorem dL_law__1416 : decode cL_law_ 1416 = .ok (.iconst 0, 1) := by decide +kernel
theorem dL_law__1417 : decode cL_law_ 1417 = .ok (.laload, 1) := by decide +kernel
theorem dL_law__1418 : decode cL_law_ 1418 = .ok (.iload 6, 2) := by decide +kernel
theorem dL_law__1420 : decode cL_law_ 1420 = .ok (.i2l, 1) := by decide +kernel
theorem dL_law__1421 : decode cL_law_ 1421 = .ok (.lcmp, 1) := by decide +kernel
theorem dL_law__1422 : decode cL_law_ 1422 = .ok (.ifCond .eq 5, 3) := by decide +kernel
theorem dL_law__1425 : decode cL_law_ 1425 = .ok (.iconst 0, 1) := by decide +kernel
theorem dL_law__1426 : decode cL_law_ 1426 = .ok (.ireturn, 1) := by decide +kernel
theorem dL_law__1427 : decode cL_law_ 1427 = .ok (.goto 314, 3) := by decide +kernel
theorem dL_law__1430 : decode cL_law_ 1430 = .ok (.aload_n 1, 1) := by decide +kernel
theorem dL_law__1431 : decode cL_law_ 1431 = .ok (.aload_n 3, 1) := by decide +kernel
theorem dL_law__1432 : decode cL_law_ 1432 = .ok (.invokestatic 164, 3) := by decide +kernel
theorem dL_law__1435 : decode cL_law_ 1435 = .ok (.istore 5, 2) := by decide +kernel
theorem dL_law__1437 : decode cL_law_ 1437 = .ok (.aload_n 2, 1) := by decide +kernel
theorem dL_law__1438 : decode cL_law_ 1438 = .ok (.invokevirtual 166, 3) := by decide +kernel
theorem dL_law__1441 : decode cL_law_ 1441 = .ok (.istore 6, 2) := by decide +kernel
theorem dL_law__1443 : decode cL_law_ 1443 = .ok (.aload_n 2, 1) := by decide +kernel
theorem dL_law__1444 : decode cL_law_ 1444 = .ok (.invokevirtual 108, 3) := by decide +kernel
theorem dL_law__1447 : decode cL_law_ 1447 = .ok (.iload 5, 2) := by decide +kernel
theorem dL_law__1449 : decode cL_law_ 1449 = .ok (.if_icmp .eq 5, 3) := by decide +kernel
theorem dL_law__1452 : decode cL_law_ 1452 = .ok (.iconst 0, 1) := by decide +kernel
theorem dL_law__1453 : decode cL_law_ 1453 = .ok (.ireturn, 1) := by decide +kernel
theorem dL_law__1454 : decode cL_law_ 1454 = .ok (.iload 5, 2) := by decide +kernel
theorem dL_law__1456 : decode cL_law_ 1456 = .ok (.ifCond .ne 15, 3) := by decide +kernel
theorem dL_law__1459 : decode cL_law_ 1459 = .ok (.aload_n 3, 1) := by decide +kernel
theorem dL_law__1460 : decode cL_law_ 1460 = .ok (.iconst 0, 1) := by decide +kernel
theorem dL_law__1461 : decode cL_law_ 1461 = .ok (.laload, 1) := by decide +kernel
theorem dL_law__1462 : decode cL_law_ 1462 = .ok (.iload 6, 2) := by decide +kernel
theorem dL_law__1464 : decode cL_law_ 1464 = .ok (.i2l, 1) := by decide +kernel
theorem dL_law__1465 : decode cL_law_ 1465 = .ok (.lcmp, 1) := by decide +kernel
theorem dL_law__1466 : decode cL_law_ 1466 = .ok (.ifCond .eq 5, 3) := by decide +kernel
theorem dL_law__1469 : decode cL_law_ 1469 = .ok (.iconst 0, 1) := by decide +kernel
theorem dL_law__1470 : decode cL_law_ 1470 = .ok (.ireturn, 1) := by decide +kernel
theorem dL_law__1471 : decode cL_law_ 1471 = .ok (.goto 270, 3) := by decide +kernel
theorem dL_law__1474 : decode cL_law_ 1474 = .ok (.aload_n 1, 1) := by decide +kernel
theorem dL_law__1475 : decode cL_law_ 1475 = .ok (.invokevirtual 167, 3) := by decide +kernel
theorem dL_law__1478 : decode cL_law_ 1478 = .ok (.aload_n 2, 1) := by decide +kernel
theorem dL_law__1479 : decode cL_law_ 1479 = .ok (.invokevirtual 170, 3) := by decide +kernel
theorem dL_law__1482 : decode cL_law_ 1482 = .ok (.if_icmp .eq 259, 3) := by decide +kernel
theorem dL_law__1485 : decode cL_law_ 1485 = .ok (.iconst 0, 1) := by decide +kernel
theorem dL_law__1486 : decode cL_law_ 1486 = .ok (.ireturn, 1) := by decide +kernel
theorem dL_law__1487 : decode cL_law_ 1487 = .ok (.aload_n 1, 1) := by decide +kernel
theorem dL_law__1488 : decode cL_law_ 1488 = .ok (.aload_n 0, 1) := by decide +kernel
theorem dL_law__1489 : decode cL_law_ 1489 = .ok (.iload 4, 2) := by decide +kernel
theorem dL_law__1491 : decode cL_law_ 1491 = .ok (.iconst 1, 1) := by decide +kernel
theorem dL_law__1492 : decode cL_law_ 1492 = .ok (.iadd, 1) := by decide +kernel
theorem dL_law__1493 : decode cL_law_ 1493 = .ok (.iaload, 1) := by decide +kernel
theorem dL_law__1494 : decode cL_law_ 1494 = .ok (.aload_n 3, 1) := by decide +kernel
theorem dL_law__1495 : decode cL_law_ 1495 = .ok (.invokestatic 171, 3) := by decide +kernel
theorem dL_law__1498 : decode cL_law_ 1498 = .ok (.istore 5, 2) := by decide +kernel
theorem dL_law__1500 : decode cL_law_ 1500 = .ok (.aload_n 2, 1) := by decide +kernel
theorem dL_law__1501 : decode cL_law_ 1501 = .ok (.aload_n 0, 1) := by decide +kernel
theorem dL_law__1502 : decode cL_law_ 1502 = .ok (.iload 4, 2) := by decide +kernel
theorem dL_law__1504 : decode cL_law_ 1504 = .ok (.iconst 1, 1) := by decide +kernel
theorem dL_law__1505 : decode cL_law_ 1505 = .ok (.iadd, 1) := by decide +kernel
theorem dL_law__1506 : decode cL_law_ 1506 = .ok (.iaload, 1) := by decide +kernel
theorem dL_law__1507 : decode cL_law_ 1507 = .ok (.invokevirtual 173, 3) := by decide +kernel
theorem dL_law__1510 : decode cL_law_ 1510 = .ok (.istore 6, 2) := by decide +kernel
theorem dL_law__1512 : decode cL_law_ 1512 = .ok (.aload_n 2, 1) := by decide +kernel
theorem dL_law__1513 : decode cL_law_ 1513 = .ok (.invokevirtual 108, 3) := by decide +kernel
theorem dL_law__1516 : decode cL_law_ 1516 = .ok (.iload 5, 2) := by decide +kernel
theorem dL_law__1518 : decode cL_law_ 1518 = .ok (.if_icmp .eq 5, 3) := by decide +kernel
theorem dL_law__1521 : decode cL_law_ 1521 = .ok (.iconst 0, 1) := by decide +kernel
theorem dL_law__1522 : decode cL_law_ 1522 = .ok (.ireturn, 1) := by decide +kernel
theorem dL_law__1523 : decode cL_law_ 1523 = .ok (.iload 5, 2) := by decide +kernel
theorem dL_law__1525 : decode cL_law_ 1525 = .ok (.ifCond .ne 15, 3) := by decide +kernel
theorem dL_law__1528 : decode cL_law_ 1528 = .ok (.aload_n 3, 1) := by decide +kernel
theorem dL_law__1529 : decode cL_law_ 1529 = .ok (.iconst 0, 1) := by decide +kernel
theorem dL_law__1530 : decode cL_law_ 1530 = .ok (.laload, 1) := by decide +kernel
theorem dL_law__1531 : decode cL_law_ 1531 = .ok (.iload 6, 2) := by decide +kernel
theorem dL_law__1533 : decode cL_law_ 1533 = .ok (.i2l, 1) := by decide +kernel
theorem dL_law__1534 : decode cL_law_ 1534 = .ok (.lcmp, 1) := by decide +kernel
theorem dL_law__1535 : decode cL_law_ 1535 = .ok (.ifCond .eq 5, 3) := by decide +kernel
theorem dL_law__1538 : decode cL_law_ 1538 = .ok (.iconst 0, 1) := by decide +kernel
theorem dL_law__1539 : decode cL_law_ 1539 = .ok (.ireturn, 1) := by decide +kernel
theorem dL_law__1540 : decode cL_law_ 1540 = .ok (.goto 201, 3) := by decide +kernel
theorem dL_law__1543 : decode cL_law_ 1543 = .ok (.aload_n 1, 1) := by decide +kernel
theorem dL_law__1544 : decode cL_law_ 1544 = .ok (.aload_n 0, 1) := by decide +kernel
theorem dL_law__1545 : decode cL_law_ 1545 = .ok (.iload 4, 2) := by decide +kernel
theorem dL_law__1547 : decode cL_law_ 1547 = .ok (.iconst 1, 1) := by decide +kernel
theorem dL_law__1548 : decode cL_law_ 1548 = .ok (.iadd, 1) := by decide +kernel
theorem dL_law__1549 : decode cL_law_ 1549 = .ok (.iaload, 1) := by decide +kernel
theorem dL_law__1550 : decode cL_law_ 1550 = .ok (.aload_n 0, 1) := by decide +kernel
theorem dL_law__1551 : decode cL_law_ 1551 = .ok (.iload 4, 2) := by decide +kernel
theorem dL_law__1553 : decode cL_law_ 1553 = .ok (.iconst 2, 1) := by decide +kernel
theorem dL_law__1554 : decode cL_law_ 1554 = .ok (.iadd, 1) := by decide +kernel
theorem dL_law__1555 : decode cL_law_ 1555 = .ok (.iaload, 1) := by decide +kernel
theorem dL_law__1556 : decode cL_law_ 1556 = .ok (.aload_n 0, 1) := by decide +kernel
theorem dL_law__1557 : decode cL_law_ 1557 = .ok (.iload 4, 2) := by decide +kernel
theorem dL_law__1559 : decode cL_law_ 1559 = .ok (.iconst 3, 1) := by decide +kernel
theorem dL_law__1560 : decode cL_law_ 1560 = .ok (.iadd, 1) := by decide +kernel
theorem dL_law__1561 : decode cL_law_ 1561 = .ok (.iaload, 1) := by decide +kernel
theorem dL_law__1562 : decode cL_law_ 1562 = .ok (.aload_n 3, 1) := by decide +kernel
theorem dL_law__1563 : decode cL_law_ 1563 = .ok (.invokestatic 174, 3) := by decide +kernel
theorem dL_law__1566 : decode cL_law_ 1566 = .ok (.istore 5, 2) := by decide +kernel
theorem dL_law__1568 : decode cL_law_ 1568 = .ok (.aload_n 2, 1) := by decide +kernel
theorem dL_law__1569 : decode cL_law_ 1569 = .ok (.aload_n 0, 1) := by decide +kernel
theorem dL_law__1570 : decode cL_law_ 1570 = .ok (.iload 4, 2) := by decide +kernel
theorem dL_law__1572 : decode cL_law_ 1572 = .ok (.iconst 1, 1) := by decide +kernel
theorem dL_law__1573 : decode cL_law_ 1573 = .ok (.iadd, 1) := by decide +kernel
theorem dL_law__1574 : decode cL_law_ 1574 = .ok (.iaload, 1) := by decide +kernel
theorem dL_law__1575 : decode cL_law_ 1575 = .ok (.aload_n 0, 1) := by decide +kernel
theorem dL_law__1576 : decode cL_law_ 1576 = .ok (.iload 4, 2) := by decide +kernel
theorem dL_law__1578 : decode cL_law_ 1578 = .ok (.iconst 2, 1) := by decide +kernel
theorem dL_law__1579 : decode cL_law_ 1579 = .ok (.iadd, 1) := by decide +kernel
theorem dL_law__1580 : decode cL_law_ 1580 = .ok (.iaload, 1) := by decide +kernel
theorem dL_law__1581 : decode cL_law_ 1581 = .ok (.aload_n 0, 1) := by decide +kernel
theorem dL_law__1582 : decode cL_law_ 1582 = .ok (.iload 4, 2) := by decide +kernel
theorem dL_law__1584 : decode cL_law_ 1584 = .ok (.iconst 3, 1) := by decide +kernel
theorem dL_law__1585 : decode cL_law_ 1585 = .ok (.iadd, 1) := by decide +kernel
theorem dL_law__1586 : decode cL_law_ 1586 = .ok (.iaload, 1) := by decide +kernel
theorem dL_law__1587 : decode cL_law_ 1587 = .ok (.invokevirtual 176, 3) := by decide +kernel
theorem dL_law__1590 : decode cL_law_ 1590 = .ok (.istore 6, 2) := by decide +kernel
theorem dL_law__1592 : decode cL_law_ 1592 = .ok (.aload_n 2, 1) := by decide +kernel
theorem dL_law__1593 : decode cL_law_ 1593 = .ok (.invokevirtual 108, 3) := by decide +kernel
theorem dL_law__1596 : decode cL_law_ 1596 = .ok (.iload 5, 2) := by decide +kernel
theorem dL_law__1598 : decode cL_law_ 1598 = .ok (.if_icmp .eq 5, 3) := by decide +kernel
theorem dL_law__1601 : decode cL_law_ 1601 = .ok (.iconst 0, 1) := by decide +kernel
theorem dL_law__1602 : decode cL_law_ 1602 = .ok (.ireturn, 1) := by decide +kernel
theorem dL_law__1603 : decode cL_law_ 1603 = .ok (.iload 5, 2) := by decide +kernel
theorem dL_law__1605 : decode cL_law_ 1605 = .ok (.ifCond .ne 15, 3) := by decide +kernel
theorem dL_law__1608 : decode cL_law_ 1608 = .ok (.aload_n 3, 1) := by decide +kernel
theorem dL_law__1609 : decode cL_law_ 1609 = .ok (.iconst 0, 1) := by decide +kernel
theorem dL_law__1610 : decode cL_law_ 1610 = .ok (.laload, 1) := by decide +kernel
theorem dL_law__1611 : decode cL_law_ 1611 = .ok (.iload 6, 2) := by decide +kernel
theorem dL_law__1613 : decode cL_law_ 1613 = .ok (.i2l, 1) := by decide +kernel
theorem dL_law__1614 : decode cL_law_ 1614 = .ok (.lcmp, 1) := by decide +kernel
theorem dL_law__1615 : decode cL_law_ 1615 = .ok (.ifCond .eq 5, 3) := by decide +kernel
theorem dL_law__1618 : decode cL_law_ 1618 = .ok (.iconst 0, 1) := by decide +kernel
theorem dL_law__1619 : decode cL_law_ 1619 = .ok (.ireturn, 1) := by decide +kernel
theorem dL_law__1620 : decode cL_law_ 1620 = .ok (.goto 121, 3) := by decide +kernel
theorem dL_law__1623 : decode cL_law_ 1623 = .ok (.aload_n 1, 1) := by decide +kernel
theorem dL_law__1624 : decode cL_law_ 1624 = .ok (.aload_n 0, 1) := by decide +kernel
theorem dL_law__1625 : decode cL_law_ 1625 = .ok (.iload 4, 2) := by decide +kernel
theorem dL_law__1627 : decode cL_law_ 1627 = .ok (.iconst 1, 1) := by decide +kernel
theorem dL_law__1628 : decode cL_law_ 1628 = .ok (.iadd, 1) := by decide +kernel
theorem dL_law__1629 : decode cL_law_ 1629 = .ok (.iaload, 1) := by decide +kernel
theorem dL_law__1630 : decode cL_law_ 1630 = .ok (.aload_n 0, 1) := by decide +kernel
theorem dL_law__1631 : decode cL_law_ 1631 = .ok (.iload 4, 2) := by decide +kernel
theorem dL_law__1633 : decode cL_law_ 1633 = .ok (.iconst 2, 1) := by decide +kernel
theorem dL_law__1634 : decode cL_law_ 1634 = .ok (.iadd, 1) := by decide +kernel
theorem dL_law__1635 : decode cL_law_ 1635 = .ok (.iaload, 1) := by decide +kernel
theorem dL_law__1636 : decode cL_law_ 1636 = .ok (.aload_n 0, 1) := by decide +kernel
theorem dL_law__1637 : decode cL_law_ 1637 = .ok (.iload 4, 2) := by decide +kernel
theorem dL_law__1639 : decode cL_law_ 1639 = .ok (.iconst 3, 1) := by decide +kernel
theorem dL_law__1640 : decode cL_law_ 1640 = .ok (.iadd, 1) := by decide +kernel
theorem dL_law__1641 : decode cL_law_ 1641 = .ok (.iaload, 1) := by decide +kernel
theorem dL_law__1642 : decode cL_law_ 1642 = .ok (.aload_n 3, 1) := by decide +kernel
theorem dL_law__1643 : decode cL_law_ 1643 = .ok (.invokestatic 177, 3) := by decide +kernel
theorem dL_law__1646 : decode cL_law_ 1646 = .ok (.istore 5, 2) := by decide +kernel
theorem dL_law__1648 : decode cL_law_ 1648 = .ok (.aload_n 2, 1) := by decide +kernel
theorem dL_law__1649 : decode cL_law_ 1649 = .ok (.aload_n 0, 1) := by decide +kernel
theorem dL_law__1650 : decode cL_law_ 1650 = .ok (.iload 4, 2) := by decide +kernel
theorem dL_law__1652 : decode cL_law_ 1652 = .ok (.iconst 1, 1) := by decide +kernel
theorem dL_law__1653 : decode cL_law_ 1653 = .ok (.iadd, 1) := by decide +kernel
theorem dL_law__1654 : decode cL_law_ 1654 = .ok (.iaload, 1) := by decide +kernel
theorem dL_law__1655 : decode cL_law_ 1655 = .ok (.aload_n 0, 1) := by decide +kernel
theorem dL_law__1656 : decode cL_law_ 1656 = .ok (.iload 4, 2) := by decide +kernel
theorem dL_law__1658 : decode cL_law_ 1658 = .ok (.iconst 2, 1) := by decide +kernel
theorem dL_law__1659 : decode cL_law_ 1659 = .ok (.iadd, 1) := by decide +kernel
theorem dL_law__1660 : decode cL_law_ 1660 = .ok (.iaload, 1) := by decide +kernel
theorem dL_law__1661 : decode cL_law_ 1661 = .ok (.aload_n 0, 1) := by decide +kernel
theorem dL_law__1662 : decode cL_law_ 1662 = .ok (.iload 4, 2) := by decide +kernel
theorem dL_law__1664 : decode cL_law_ 1664 = .ok (.iconst 3, 1) := by decide +kernel
theorem dL_law__1665 : decode cL_law_ 1665 = .ok (.iadd, 1) := by decide +kernel
theorem dL_law__1666 : decode cL_law_ 1666 = .ok (.iaload, 1) := by decide +kernel
theorem dL_law__1667 : decode cL_law_ 1667 = .ok (.invokevirtual 179, 3) := by decide +kernel
theorem dL_law__1670 : decode cL_law_ 1670 = .ok (.istore 6, 2) := by decide +kernel
theorem dL_law__1672 : decode cL_law_ 1672 = .ok (.aload_n 2, 1) := by decide +kernel
theorem dL_law__1673 : decode cL_law_ 1673 = .ok (.invokevirtual 108, 3) := by decide +kernel
theorem dL_law__1676 : decode cL_law_ 1676 = .ok (.iload 5, 2) := by decide +kernel
theorem dL_law__1678 : decode cL_law_ 1678 = .ok (.if_icmp .eq 5, 3) := by decide +kernel
theorem dL_law__1681 : decode cL_law_ 1681 = .ok (.iconst 0, 1) := by decide +kernel
theorem dL_law__1682 : decode cL_law_ 1682 = .ok (.ireturn, 1) := by decide +kernel
theorem dL_law__1683 : decode cL_law_ 1683 = .ok (.iload 5, 2) := by decide +kernel
theorem dL_law__1685 : decode cL_law_ 1685 = .ok (.ifCond .ne 15, 3) := by decide +kernel
theorem dL_law__1688 : decode cL_law_ 1688 = .ok (.aload_n 3, 1) := by decide +kernel
theorem dL_law__1689 : decode cL_law_ 1689 = .ok (.iconst 0, 1) := by decide +kernel
theorem dL_law__1690 : decode cL_law_ 1690 = .ok (.laload, 1) := by decide +kernel
theorem dL_law__1691 : decode cL_law_ 1691 = .ok (.iload 6, 2) := by decide +kernel
theorem dL_law__1693 : decode cL_law_ 1693 = .ok (.i2l, 1) := by decide +kernel
theorem dL_law__1694 : decode cL_law_ 1694 = .ok (.lcmp, 1) := by decide +kernel
theorem dL_law__1695 : decode cL_law_ 1695 = .ok (.ifCond .eq 5, 3) := by decide +kernel
theorem dL_law__1698 : decode cL_law_ 1698 = .ok (.iconst 0, 1) := by decide +kernel
theorem dL_law__1699 : decode cL_law_ 1699 = .ok (.ireturn, 1) := by decide +kernel
theorem dL_law__1700 : decode cL_law_ 1700 = .ok (.goto 41, 3) := by decide +kernel
theorem dL_law__1703 : decode cL_law_ 1703 = .ok (.aload_n 1, 1) := by decide +kernel
theorem dL_law__1704 : decode cL_law_ 1704 = .ok (.invokevirtual 180, 3) := by decide +kernel
theorem dL_law__1707 : decode cL_law_ 1707 = .ok (.aload_n 2, 1) := by decide +kernel
theorem dL_law__1708 : decode cL_law_ 1708 = .ok (.invokevirtual 183, 3) := by decide +kernel
theorem dL_law__1711 : decode cL_law_ 1711 = .ok (.if_icmp .eq 30, 3) := by decide +kernel
theorem dL_law__1714 : decode cL_law_ 1714 = .ok (.iconst 0, 1) := by decide +kernel
theorem dL_law__1715 : decode cL_law_ 1715 = .ok (.ireturn, 1) := by decide +kernel
theorem dL_law__1716 : decode cL_law_ 1716 = .ok (.aload_n 1, 1) := by decide +kernel
theorem dL_law__1717 : decode cL_law_ 1717 = .ok (.aload_n 0, 1) := by decide +kernel
theorem dL_law__1718 : decode cL_law_ 1718 = .ok (.iload 4, 2) := by decide +kernel
theorem dL_law__1720 : decode cL_law_ 1720 = .ok (.iconst 1, 1) := by decide +kernel
theorem dL_law__1721 : decode cL_law_ 1721 = .ok (.iadd, 1) := by decide +kernel
theorem dL_law__1722 : decode cL_law_ 1722 = .ok (.iaload, 1) := by decide +kernel
theorem dL_law__1723 : decode cL_law_ 1723 = .ok (.invokevirtual 184, 3) := by decide +kernel
theorem dL_law__1726 : decode cL_law_ 1726 = .ok (.aload_n 2, 1) := by decide +kernel
theorem dL_law__1727 : decode cL_law_ 1727 = .ok (.aload_n 0, 1) := by decide +kernel
theorem dL_law__1728 : decode cL_law_ 1728 = .ok (.iload 4, 2) := by decide +kernel
theorem dL_law__1730 : decode cL_law_ 1730 = .ok (.iconst 1, 1) := by decide +kernel
theorem dL_law__1731 : decode cL_law_ 1731 = .ok (.iadd, 1) := by decide +kernel
theorem dL_law__1732 : decode cL_law_ 1732 = .ok (.iaload, 1) := by decide +kernel
theorem dL_law__1733 : decode cL_law_ 1733 = .ok (.invokevirtual 187, 3) := by decide +kernel
theorem dL_law__1736 : decode cL_law_ 1736 = .ok (.if_icmp .eq 5, 3) := by decide +kernel
theorem dL_law__1739 : decode cL_law_ 1739 = .ok (.iconst 0, 1) := by decide +kernel
theorem dL_law__1740 : decode cL_law_ 1740 = .ok (.ireturn, 1) := by decide +kernel
theorem dL_law__1741 : decode cL_law_ 1741 = .ok (.iinc 4 11, 3) := by decide +kernel
theorem dL_law__1744 : decode cL_law_ 1744 = .ok (.goto (-1721), 3) := by decide +kernel
theorem dL_law__1747 : decode cL_law_ 1747 = .ok (.iconst 1, 1) := by decide +kernel
theorem dL_law__1748 : decode cL_law_ 1748 = .ok (.ireturn, 1) := by decide +kernel
