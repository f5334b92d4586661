theorem fl_c47 : fl_P 271 5 := by
  unfold fl_P
  decide +kernel
theorem fl_c48 : fl_P 276 5 := by
  unfold fl_P
  decide +kernel
theorem fl_c49 : fl_P 281 5 := by
  unfold fl_P
  decide +kernel
theorem fl_c50 : fl_P 286 5 := by
  unfold fl_P
  decide +kernel
theorem fl_c51 : fl_P 291 5 := by
  unfold fl_P
  decide +kernel
theorem fl_c52 : fl_P 296 5 := by
  unfold fl_P
  decide +kernel
theorem fl_c53 : fl_P 301 5 := by
  unfold fl_P
  decide +kernel
theorem fl_c54 : fl_P 306 5 := by
  unfold fl_P
  decide +kernel
theorem fl_c55 : fl_P 311 5 := by
  unfold fl_P
  decide +kernel
theorem fl_c56 : fl_P 316 5 := by
  unfold fl_P
  decide +kernel
theorem fl_c57 : fl_P 321 5 := by
  unfold fl_P
  decide +kernel
theorem fl_c58 : fl_P 326 5 := by
  unfold fl_P
  decide +kernel
theorem fl_c59 : fl_P 331 5 := by
  unfold fl_P
  decide +kernel
theorem fl_c60 : fl_P 336 5 := by
  unfold fl_P
  decide +kernel
theorem fl_c61 : fl_P 341 5 := by
  unfold fl_P
  decide +kernel
theorem fl_c62 : fl_P 346 5 := by
  unfold fl_P
  decide +kernel
theorem fl_c63 : fl_P 351 5 := by
  unfold fl_P
  decide +kernel
theorem fl_c64 : fl_P 356 5 := by
  unfold fl_P
  decide +kernel
theorem fl_c65 : fl_P 361 5 := by
  unfold fl_P
  decide +kernel
theorem fl_c66 : fl_P 366 5 := by
  unfold fl_P
  decide +kernel
theorem fl_c67 : fl_P 371 5 := by
  unfold fl_P
  decide +kernel
theorem fl_c68 : fl_P 376 5 := by
  unfold fl_P
  decide +kernel
theorem fl_c69 : fl_P 381 5 := by
  unfold fl_P
  decide +kernel
theorem fl_c70 : fl_P 386 5 := by
  unfold fl_P
  decide +kernel
theorem fl_c71 : fl_P 391 5 := by
  unfold fl_P
  decide +kernel
theorem fl_c72 : fl_P 396 5 := by
  unfold fl_P
  decide +kernel
theorem fl_c73 : fl_P 401 5 := by
  unfold fl_P
  decide +kernel
theorem fl_c74 : fl_P 406 5 := by
  unfold fl_P
  decide +kernel
theorem fl_c75 : fl_P 411 5 := by
  unfold fl_P
  decide +kernel
theorem fl_c76 : fl_P 416 5 := by
  unfold fl_P
  decide +kernel
theorem fl_c77 : fl_P 421 5 := by
  unfold fl_P
  decide +kernel
theorem fl_c78 : fl_P 426 5 := by
  unfold fl_P
  decide +kernel
theorem fl_c79 : fl_P 431 5 := by
  unfold fl_P
  decide +kernel
theorem fl_c80 : fl_P 436 5 := by
  unfold fl_P
  decide +kernel
theorem fl_c81 : fl_P 441 5 := by
  unfold fl_P
  decide +kernel
theorem fl_c82 : fl_P 446 5 := by
  unfold fl_P
  decide +kernel
theorem fl_c83 : fl_P 451 5 := by
  unfold fl_P
  decide +kernel
theorem fl_c84 : fl_P 456 5 := by
  unfold fl_P
  decide +kernel
theorem fl_c85 : fl_P 461 5 := by
  unfold fl_P
  decide +kernel
theorem fl_c86 : fl_P 466 5 := by
  unfold fl_P
  decide +kernel
theorem fl_c87 : fl_P 471 5 := by
  unfold fl_P
  decide +kernel
theorem fl_c88 : fl_P 476 5 := by
  unfold fl_P
  decide +kernel
theorem fl_c89 : fl_P 481 5 := by
  unfold fl_P
  decide +kernel
theorem fl_c90 : fl_P 486 5 := by
  unfold fl_P
  decide +kernel
theorem fl_c91 : fl_P 491 5 := by
  unfold fl_P
  decide +kernel
theorem fl_c92 : fl_P 496 5 := by
  unfold fl_P
  decide +kernel
theorem fl_c93 : fl_P 501 5 := by
  unfold fl_P
  decide +kernel
