/-! What is at an id: by program (wip/whole/gen/emit.py). 0 the script, 1 .. 42 the constants, 43 .. the class's cells, 704 .. the reference's, 775 a film's row -/
def a_kd (id : Nat) : Nat := bif Nat.blt id 385 then (bif Nat.blt id 228 then (bif Nat.blt id 138 then (bif Nat.blt id 69 then (bif Nat.blt id 49 then (bif Nat.blt id 43 then (bif Nat.blt id 12 then (bif Nat.blt id 3 then (20) else (bif Nat.blt id 4 then (42) else (12))) else (bif Nat.blt id 27 then (13) else (bif Nat.blt id 28 then (99) else (21)))) else (bif Nat.blt id 46 then (bif Nat.blt id 44 then (10) else (bif Nat.blt id 45 then (1) else (21))) else (bif Nat.blt id 47 then (1) else (bif Nat.blt id 48 then (21) else (33))))) else (bif Nat.blt id 58 then (bif Nat.blt id 54 then (bif Nat.blt id 50 then (3) else (bif Nat.blt id 51 then (39) else (20))) else (bif Nat.blt id 55 then (9) else (bif Nat.blt id 57 then (20) else (9)))) else (bif Nat.blt id 63 then (bif Nat.blt id 60 then (20) else (bif Nat.blt id 61 then (9) else (20))) else (bif Nat.blt id 66 then (bif Nat.blt id 64 then (9) else (20)) else (bif Nat.blt id 67 then (9) else (20)))))) else (bif Nat.blt id 98 then (bif Nat.blt id 78 then (bif Nat.blt id 73 then (bif Nat.blt id 70 then (9) else (bif Nat.blt id 72 then (20) else (9))) else (bif Nat.blt id 75 then (20) else (bif Nat.blt id 76 then (9) else (20)))) else (bif Nat.blt id 86 then (bif Nat.blt id 79 then (2) else (bif Nat.blt id 85 then (20) else (50))) else (bif Nat.blt id 91 then (bif Nat.blt id 90 then (20) else (35)) else (bif Nat.blt id 92 then (7) else (20))))) else (bif Nat.blt id 112 then (bif Nat.blt id 101 then (bif Nat.blt id 99 then (30) else (bif Nat.blt id 100 then (0) else (4))) else (bif Nat.blt id 105 then (20) else (bif Nat.blt id 106 then (6) else (20)))) else (bif Nat.blt id 115 then (bif Nat.blt id 113 then (34) else (bif Nat.blt id 114 then (8) else (42))) else (bif Nat.blt id 127 then (bif Nat.blt id 116 then (50) else (20)) else (bif Nat.blt id 128 then (50) else (20))))))) else (bif Nat.blt id 188 then (bif Nat.blt id 168 then (bif Nat.blt id 159 then (bif Nat.blt id 144 then (bif Nat.blt id 139 then (22) else (bif Nat.blt id 143 then (20) else (50))) else (bif Nat.blt id 152 then (20) else (bif Nat.blt id 153 then (50) else (20)))) else (bif Nat.blt id 164 then (bif Nat.blt id 160 then (3) else (bif Nat.blt id 161 then (39) else (20))) else (bif Nat.blt id 165 then (9) else (bif Nat.blt id 167 then (20) else (9))))) else (bif Nat.blt id 177 then (bif Nat.blt id 173 then (bif Nat.blt id 170 then (20) else (bif Nat.blt id 171 then (9) else (20))) else (bif Nat.blt id 174 then (9) else (bif Nat.blt id 176 then (20) else (9)))) else (bif Nat.blt id 182 then (bif Nat.blt id 179 then (20) else (bif Nat.blt id 180 then (9) else (20))) else (bif Nat.blt id 185 then (bif Nat.blt id 183 then (9) else (20)) else (bif Nat.blt id 186 then (9) else (20)))))) else (bif Nat.blt id 208 then (bif Nat.blt id 197 then (bif Nat.blt id 193 then (bif Nat.blt id 189 then (3) else (bif Nat.blt id 190 then (39) else (20))) else (bif Nat.blt id 194 then (9) else (bif Nat.blt id 196 then (20) else (9)))) else (bif Nat.blt id 202 then (bif Nat.blt id 199 then (20) else (bif Nat.blt id 200 then (9) else (20))) else (bif Nat.blt id 205 then (bif Nat.blt id 203 then (9) else (20)) else (bif Nat.blt id 206 then (9) else (20))))) else (bif Nat.blt id 217 then (bif Nat.blt id 212 then (bif Nat.blt id 209 then (9) else (bif Nat.blt id 211 then (20) else (9))) else (bif Nat.blt id 214 then (20) else (bif Nat.blt id 215 then (9) else (20)))) else (bif Nat.blt id 222 then (bif Nat.blt id 218 then (3) else (bif Nat.blt id 219 then (39) else (20))) else (bif Nat.blt id 225 then (bif Nat.blt id 223 then (9) else (20)) else (bif Nat.blt id 226 then (9) else (20)))))))) else (bif Nat.blt id 305 then (bif Nat.blt id 266 then (bif Nat.blt id 246 then (bif Nat.blt id 237 then (bif Nat.blt id 232 then (bif Nat.blt id 229 then (9) else (bif Nat.blt id 231 then (20) else (9))) else (bif Nat.blt id 234 then (20) else (bif Nat.blt id 235 then (9) else (20)))) else (bif Nat.blt id 241 then (bif Nat.blt id 238 then (9) else (bif Nat.blt id 240 then (20) else (9))) else (bif Nat.blt id 243 then (20) else (bif Nat.blt id 244 then (9) else (20))))) else (bif Nat.blt id 255 then (bif Nat.blt id 251 then (bif Nat.blt id 247 then (3) else (bif Nat.blt id 248 then (39) else (20))) else (bif Nat.blt id 252 then (9) else (bif Nat.blt id 254 then (20) else (9)))) else (bif Nat.blt id 260 then (bif Nat.blt id 257 then (20) else (bif Nat.blt id 258 then (9) else (20))) else (bif Nat.blt id 263 then (bif Nat.blt id 261 then (9) else (20)) else (bif Nat.blt id 264 then (9) else (20)))))) else (bif Nat.blt id 286 then (bif Nat.blt id 275 then (bif Nat.blt id 270 then (bif Nat.blt id 267 then (9) else (bif Nat.blt id 269 then (20) else (9))) else (bif Nat.blt id 272 then (20) else (bif Nat.blt id 273 then (9) else (20)))) else (bif Nat.blt id 280 then (bif Nat.blt id 276 then (3) else (bif Nat.blt id 277 then (39) else (20))) else (bif Nat.blt id 283 then (bif Nat.blt id 281 then (9) else (20)) else (bif Nat.blt id 284 then (9) else (20))))) else (bif Nat.blt id 295 then (bif Nat.blt id 290 then (bif Nat.blt id 287 then (9) else (bif Nat.blt id 289 then (20) else (9))) else (bif Nat.blt id 292 then (20) else (bif Nat.blt id 293 then (9) else (20)))) else (bif Nat.blt id 299 then (bif Nat.blt id 296 then (9) else (bif Nat.blt id 298 then (20) else (9))) else (bif Nat.blt id 302 then (bif Nat.blt id 301 then (20) else (9)) else (bif Nat.blt id 304 then (20) else (3))))))) else (bif Nat.blt id 345 then (bif Nat.blt id 325 then (bif Nat.blt id 315 then (bif Nat.blt id 310 then (bif Nat.blt id 306 then (39) else (bif Nat.blt id 309 then (20) else (9))) else (bif Nat.blt id 312 then (20) else (bif Nat.blt id 313 then (9) else (20)))) else (bif Nat.blt id 319 then (bif Nat.blt id 316 then (9) else (bif Nat.blt id 318 then (20) else (9))) else (bif Nat.blt id 322 then (bif Nat.blt id 321 then (20) else (9)) else (bif Nat.blt id 324 then (20) else (9))))) else (bif Nat.blt id 334 then (bif Nat.blt id 330 then (bif Nat.blt id 327 then (20) else (bif Nat.blt id 328 then (9) else (20))) else (bif Nat.blt id 331 then (9) else (bif Nat.blt id 333 then (20) else (3)))) else (bif Nat.blt id 339 then (bif Nat.blt id 335 then (39) else (bif Nat.blt id 338 then (20) else (9))) else (bif Nat.blt id 342 then (bif Nat.blt id 341 then (20) else (9)) else (bif Nat.blt id 344 then (20) else (9)))))) else (bif Nat.blt id 364 then (bif Nat.blt id 354 then (bif Nat.blt id 350 then (bif Nat.blt id 347 then (20) else (bif Nat.blt id 348 then (9) else (20))) else (bif Nat.blt id 351 then (9) else (bif Nat.blt id 353 then (20) else (9)))) else (bif Nat.blt id 359 then (bif Nat.blt id 356 then (20) else (bif Nat.blt id 357 then (9) else (20))) else (bif Nat.blt id 362 then (bif Nat.blt id 360 then (9) else (20)) else (bif Nat.blt id 363 then (3) else (39))))) else (bif Nat.blt id 374 then (bif Nat.blt id 370 then (bif Nat.blt id 367 then (20) else (bif Nat.blt id 368 then (9) else (20))) else (bif Nat.blt id 371 then (9) else (bif Nat.blt id 373 then (20) else (9)))) else (bif Nat.blt id 379 then (bif Nat.blt id 376 then (20) else (bif Nat.blt id 377 then (9) else (20))) else (bif Nat.blt id 382 then (bif Nat.blt id 380 then (9) else (20)) else (bif Nat.blt id 383 then (9) else (20))))))))) else (bif Nat.blt id 542 then (bif Nat.blt id 463 then (bif Nat.blt id 422 then (bif Nat.blt id 403 then (bif Nat.blt id 393 then (bif Nat.blt id 389 then (bif Nat.blt id 386 then (9) else (bif Nat.blt id 388 then (20) else (9))) else (bif Nat.blt id 391 then (20) else (bif Nat.blt id 392 then (3) else (39)))) else (bif Nat.blt id 399 then (bif Nat.blt id 396 then (20) else (bif Nat.blt id 397 then (9) else (20))) else (bif Nat.blt id 400 then (9) else (bif Nat.blt id 402 then (20) else (9))))) else (bif Nat.blt id 412 then (bif Nat.blt id 408 then (bif Nat.blt id 405 then (20) else (bif Nat.blt id 406 then (9) else (20))) else (bif Nat.blt id 409 then (9) else (bif Nat.blt id 411 then (20) else (9)))) else (bif Nat.blt id 417 then (bif Nat.blt id 414 then (20) else (bif Nat.blt id 415 then (9) else (20))) else (bif Nat.blt id 420 then (bif Nat.blt id 418 then (9) else (20)) else (bif Nat.blt id 421 then (3) else (39)))))) else (bif Nat.blt id 443 then (bif Nat.blt id 432 then (bif Nat.blt id 428 then (bif Nat.blt id 425 then (20) else (bif Nat.blt id 426 then (9) else (20))) else (bif Nat.blt id 429 then (9) else (bif Nat.blt id 431 then (20) else (9)))) else (bif Nat.blt id 437 then (bif Nat.blt id 434 then (20) else (bif Nat.blt id 435 then (9) else (20))) else (bif Nat.blt id 440 then (bif Nat.blt id 438 then (9) else (20)) else (bif Nat.blt id 441 then (9) else (20))))) else (bif Nat.blt id 451 then (bif Nat.blt id 447 then (bif Nat.blt id 444 then (9) else (bif Nat.blt id 446 then (20) else (9))) else (bif Nat.blt id 449 then (20) else (bif Nat.blt id 450 then (3) else (39)))) else (bif Nat.blt id 457 then (bif Nat.blt id 454 then (20) else (bif Nat.blt id 455 then (9) else (20))) else (bif Nat.blt id 460 then (bif Nat.blt id 458 then (9) else (20)) else (bif Nat.blt id 461 then (9) else (20))))))) else (bif Nat.blt id 502 then (bif Nat.blt id 483 then (bif Nat.blt id 472 then (bif Nat.blt id 467 then (bif Nat.blt id 464 then (9) else (bif Nat.blt id 466 then (20) else (9))) else (bif Nat.blt id 469 then (20) else (bif Nat.blt id 470 then (9) else (20)))) else (bif Nat.blt id 476 then (bif Nat.blt id 473 then (9) else (bif Nat.blt id 475 then (20) else (9))) else (bif Nat.blt id 479 then (bif Nat.blt id 478 then (20) else (3)) else (bif Nat.blt id 480 then (39) else (20))))) else (bif Nat.blt id 492 then (bif Nat.blt id 487 then (bif Nat.blt id 484 then (9) else (bif Nat.blt id 486 then (20) else (9))) else (bif Nat.blt id 489 then (20) else (bif Nat.blt id 490 then (9) else (20)))) else (bif Nat.blt id 496 then (bif Nat.blt id 493 then (9) else (bif Nat.blt id 495 then (20) else (9))) else (bif Nat.blt id 499 then (bif Nat.blt id 498 then (20) else (9)) else (bif Nat.blt id 501 then (20) else (9)))))) else (bif Nat.blt id 522 then (bif Nat.blt id 512 then (bif Nat.blt id 507 then (bif Nat.blt id 504 then (20) else (bif Nat.blt id 505 then (9) else (20))) else (bif Nat.blt id 508 then (3) else (bif Nat.blt id 509 then (39) else (20)))) else (bif Nat.blt id 516 then (bif Nat.blt id 513 then (9) else (bif Nat.blt id 515 then (20) else (9))) else (bif Nat.blt id 519 then (bif Nat.blt id 518 then (20) else (9)) else (bif Nat.blt id 521 then (20) else (9))))) else (bif Nat.blt id 531 then (bif Nat.blt id 527 then (bif Nat.blt id 524 then (20) else (bif Nat.blt id 525 then (9) else (20))) else (bif Nat.blt id 528 then (9) else (bif Nat.blt id 530 then (20) else (9)))) else (bif Nat.blt id 536 then (bif Nat.blt id 533 then (20) else (bif Nat.blt id 534 then (9) else (20))) else (bif Nat.blt id 538 then (bif Nat.blt id 537 then (3) else (39)) else (bif Nat.blt id 541 then (20) else (9)))))))) else (bif Nat.blt id 620 then (bif Nat.blt id 580 then (bif Nat.blt id 560 then (bif Nat.blt id 551 then (bif Nat.blt id 547 then (bif Nat.blt id 544 then (20) else (bif Nat.blt id 545 then (9) else (20))) else (bif Nat.blt id 548 then (9) else (bif Nat.blt id 550 then (20) else (9)))) else (bif Nat.blt id 556 then (bif Nat.blt id 553 then (20) else (bif Nat.blt id 554 then (9) else (20))) else (bif Nat.blt id 557 then (9) else (bif Nat.blt id 559 then (20) else (9))))) else (bif Nat.blt id 570 then (bif Nat.blt id 565 then (bif Nat.blt id 562 then (20) else (bif Nat.blt id 563 then (9) else (20))) else (bif Nat.blt id 566 then (3) else (bif Nat.blt id 567 then (39) else (20)))) else (bif Nat.blt id 574 then (bif Nat.blt id 571 then (9) else (bif Nat.blt id 573 then (20) else (9))) else (bif Nat.blt id 577 then (bif Nat.blt id 576 then (20) else (9)) else (bif Nat.blt id 579 then (20) else (9)))))) else (bif Nat.blt id 600 then (bif Nat.blt id 589 then (bif Nat.blt id 585 then (bif Nat.blt id 582 then (20) else (bif Nat.blt id 583 then (9) else (20))) else (bif Nat.blt id 586 then (9) else (bif Nat.blt id 588 then (20) else (9)))) else (bif Nat.blt id 594 then (bif Nat.blt id 591 then (20) else (bif Nat.blt id 592 then (9) else (20))) else (bif Nat.blt id 596 then (bif Nat.blt id 595 then (3) else (39)) else (bif Nat.blt id 599 then (20) else (9))))) else (bif Nat.blt id 609 then (bif Nat.blt id 605 then (bif Nat.blt id 602 then (20) else (bif Nat.blt id 603 then (9) else (20))) else (bif Nat.blt id 606 then (9) else (bif Nat.blt id 608 then (20) else (9)))) else (bif Nat.blt id 614 then (bif Nat.blt id 611 then (20) else (bif Nat.blt id 612 then (9) else (20))) else (bif Nat.blt id 617 then (bif Nat.blt id 615 then (9) else (20)) else (bif Nat.blt id 618 then (9) else (20))))))) else (bif Nat.blt id 666 then (bif Nat.blt id 641 then (bif Nat.blt id 629 then (bif Nat.blt id 624 then (bif Nat.blt id 621 then (9) else (bif Nat.blt id 623 then (20) else (5))) else (bif Nat.blt id 626 then (20) else (bif Nat.blt id 627 then (5) else (20)))) else (bif Nat.blt id 633 then (bif Nat.blt id 630 then (5) else (bif Nat.blt id 632 then (20) else (5))) else (bif Nat.blt id 636 then (bif Nat.blt id 635 then (20) else (0)) else (bif Nat.blt id 637 then (4) else (20))))) else (bif Nat.blt id 653 then (bif Nat.blt id 647 then (bif Nat.blt id 642 then (0) else (bif Nat.blt id 643 then (4) else (20))) else (bif Nat.blt id 648 then (0) else (bif Nat.blt id 649 then (4) else (20)))) else (bif Nat.blt id 659 then (bif Nat.blt id 654 then (0) else (bif Nat.blt id 655 then (4) else (20))) else (bif Nat.blt id 661 then (bif Nat.blt id 660 then (0) else (4)) else (bif Nat.blt id 665 then (20) else (0)))))) else (bif Nat.blt id 691 then (bif Nat.blt id 678 then (bif Nat.blt id 672 then (bif Nat.blt id 667 then (4) else (bif Nat.blt id 671 then (20) else (0))) else (bif Nat.blt id 673 then (4) else (bif Nat.blt id 677 then (20) else (0)))) else (bif Nat.blt id 684 then (bif Nat.blt id 679 then (4) else (bif Nat.blt id 683 then (20) else (0))) else (bif Nat.blt id 689 then (bif Nat.blt id 685 then (4) else (20)) else (bif Nat.blt id 690 then (0) else (4))))) else (bif Nat.blt id 702 then (bif Nat.blt id 698 then (bif Nat.blt id 695 then (20) else (bif Nat.blt id 696 then (4) else (20))) else (bif Nat.blt id 699 then (4) else (bif Nat.blt id 701 then (20) else (4)))) else (bif Nat.blt id 728 then (bif Nat.blt id 704 then (20) else (bif Nat.blt id 705 then (11) else (20))) else (bif Nat.blt id 775 then (bif Nat.blt id 730 then (22) else (20)) else (bif Nat.blt id 776 then (21) else (99)))))))))
def a_lnS (id : Nat) : Nat := bif Nat.blt id 399 then (bif Nat.blt id 223 then (bif Nat.blt id 112 then (bif Nat.blt id 61 then (bif Nat.blt id 42 then (bif Nat.blt id 33 then (bif Nat.blt id 4 then (bif Nat.blt id 1 then (0) else (bif Nat.blt id 2 then (9) else (8))) else (bif Nat.blt id 30 then (bif Nat.blt id 28 then (0) else (5)) else (bif Nat.blt id 31 then (4) else (5)))) else (bif Nat.blt id 37 then (bif Nat.blt id 35 then (4) else (bif Nat.blt id 36 then (6) else (1))) else (bif Nat.blt id 40 then (bif Nat.blt id 39 then (2) else (3)) else (bif Nat.blt id 41 then (4) else (1))))) else (bif Nat.blt id 50 then (bif Nat.blt id 46 then (bif Nat.blt id 43 then (5) else (bif Nat.blt id 45 then (0) else (1600))) else (bif Nat.blt id 48 then (bif Nat.blt id 47 then (0) else (512)) else (bif Nat.blt id 49 then (16) else (0)))) else (bif Nat.blt id 55 then (bif Nat.blt id 51 then (8) else (bif Nat.blt id 54 then (6) else (0))) else (bif Nat.blt id 58 then (bif Nat.blt id 57 then (10) else (0)) else (bif Nat.blt id 60 then (10) else (0)))))) else (bif Nat.blt id 85 then (bif Nat.blt id 72 then (bif Nat.blt id 66 then (bif Nat.blt id 63 then (10) else (bif Nat.blt id 64 then (0) else (10))) else (bif Nat.blt id 69 then (bif Nat.blt id 67 then (0) else (10)) else (bif Nat.blt id 70 then (0) else (10)))) else (bif Nat.blt id 76 then (bif Nat.blt id 73 then (0) else (bif Nat.blt id 75 then (10) else (0))) else (bif Nat.blt id 79 then (bif Nat.blt id 78 then (10) else (0)) else (bif Nat.blt id 83 then (1536) else (16))))) else (bif Nat.blt id 96 then (bif Nat.blt id 91 then (bif Nat.blt id 86 then (4) else (bif Nat.blt id 90 then (16) else (4))) else (bif Nat.blt id 94 then (bif Nat.blt id 92 then (0) else (4)) else (bif Nat.blt id 95 then (72) else (2304)))) else (bif Nat.blt id 103 then (bif Nat.blt id 99 then (bif Nat.blt id 98 then (8) else (10)) else (bif Nat.blt id 101 then (0) else (6))) else (bif Nat.blt id 106 then (bif Nat.blt id 105 then (32) else (0)) else (bif Nat.blt id 108 then (26) else (120))))))) else (bif Nat.blt id 179 then (bif Nat.blt id 153 then (bif Nat.blt id 138 then (bif Nat.blt id 115 then (bif Nat.blt id 113 then (3) else (bif Nat.blt id 114 then (0) else (10))) else (bif Nat.blt id 127 then (bif Nat.blt id 116 then (11) else (5)) else (bif Nat.blt id 128 then (10) else (1536)))) else (bif Nat.blt id 141 then (bif Nat.blt id 139 then (10) else (bif Nat.blt id 140 then (48) else (32))) else (bif Nat.blt id 144 then (bif Nat.blt id 143 then (1536) else (8)) else (bif Nat.blt id 152 then (1536) else (4))))) else (bif Nat.blt id 167 then (bif Nat.blt id 160 then (bif Nat.blt id 157 then (100) else (bif Nat.blt id 159 then (3) else (0))) else (bif Nat.blt id 164 then (bif Nat.blt id 161 then (8) else (6)) else (bif Nat.blt id 165 then (0) else (10)))) else (bif Nat.blt id 173 then (bif Nat.blt id 170 then (bif Nat.blt id 168 then (0) else (10)) else (bif Nat.blt id 171 then (0) else (10))) else (bif Nat.blt id 176 then (bif Nat.blt id 174 then (0) else (10)) else (bif Nat.blt id 177 then (0) else (10)))))) else (bif Nat.blt id 200 then (bif Nat.blt id 189 then (bif Nat.blt id 183 then (bif Nat.blt id 180 then (0) else (bif Nat.blt id 182 then (10) else (0))) else (bif Nat.blt id 186 then (bif Nat.blt id 185 then (10) else (0)) else (bif Nat.blt id 188 then (10) else (0)))) else (bif Nat.blt id 194 then (bif Nat.blt id 190 then (8) else (bif Nat.blt id 193 then (6) else (0))) else (bif Nat.blt id 197 then (bif Nat.blt id 196 then (10) else (0)) else (bif Nat.blt id 199 then (10) else (0))))) else (bif Nat.blt id 211 then (bif Nat.blt id 205 then (bif Nat.blt id 202 then (10) else (bif Nat.blt id 203 then (0) else (10))) else (bif Nat.blt id 208 then (bif Nat.blt id 206 then (0) else (10)) else (bif Nat.blt id 209 then (0) else (10)))) else (bif Nat.blt id 217 then (bif Nat.blt id 214 then (bif Nat.blt id 212 then (0) else (10)) else (bif Nat.blt id 215 then (0) else (10))) else (bif Nat.blt id 219 then (bif Nat.blt id 218 then (0) else (8)) else (bif Nat.blt id 222 then (6) else (0)))))))) else (bif Nat.blt id 310 then (bif Nat.blt id 266 then (bif Nat.blt id 244 then (bif Nat.blt id 234 then (bif Nat.blt id 228 then (bif Nat.blt id 225 then (10) else (bif Nat.blt id 226 then (0) else (10))) else (bif Nat.blt id 231 then (bif Nat.blt id 229 then (0) else (10)) else (bif Nat.blt id 232 then (0) else (10)))) else (bif Nat.blt id 238 then (bif Nat.blt id 235 then (0) else (bif Nat.blt id 237 then (10) else (0))) else (bif Nat.blt id 241 then (bif Nat.blt id 240 then (10) else (0)) else (bif Nat.blt id 243 then (10) else (0))))) else (bif Nat.blt id 255 then (bif Nat.blt id 248 then (bif Nat.blt id 246 then (10) else (bif Nat.blt id 247 then (0) else (8))) else (bif Nat.blt id 252 then (bif Nat.blt id 251 then (6) else (0)) else (bif Nat.blt id 254 then (10) else (0)))) else (bif Nat.blt id 260 then (bif Nat.blt id 257 then (10) else (bif Nat.blt id 258 then (0) else (10))) else (bif Nat.blt id 263 then (bif Nat.blt id 261 then (0) else (10)) else (bif Nat.blt id 264 then (0) else (10)))))) else (bif Nat.blt id 287 then (bif Nat.blt id 276 then (bif Nat.blt id 270 then (bif Nat.blt id 267 then (0) else (bif Nat.blt id 269 then (10) else (0))) else (bif Nat.blt id 273 then (bif Nat.blt id 272 then (10) else (0)) else (bif Nat.blt id 275 then (10) else (0)))) else (bif Nat.blt id 281 then (bif Nat.blt id 277 then (8) else (bif Nat.blt id 280 then (6) else (0))) else (bif Nat.blt id 284 then (bif Nat.blt id 283 then (10) else (0)) else (bif Nat.blt id 286 then (10) else (0))))) else (bif Nat.blt id 298 then (bif Nat.blt id 292 then (bif Nat.blt id 289 then (10) else (bif Nat.blt id 290 then (0) else (10))) else (bif Nat.blt id 295 then (bif Nat.blt id 293 then (0) else (10)) else (bif Nat.blt id 296 then (0) else (10)))) else (bif Nat.blt id 304 then (bif Nat.blt id 301 then (bif Nat.blt id 299 then (0) else (10)) else (bif Nat.blt id 302 then (0) else (10))) else (bif Nat.blt id 306 then (bif Nat.blt id 305 then (0) else (8)) else (bif Nat.blt id 309 then (6) else (0))))))) else (bif Nat.blt id 354 then (bif Nat.blt id 331 then (bif Nat.blt id 321 then (bif Nat.blt id 315 then (bif Nat.blt id 312 then (10) else (bif Nat.blt id 313 then (0) else (10))) else (bif Nat.blt id 318 then (bif Nat.blt id 316 then (0) else (10)) else (bif Nat.blt id 319 then (0) else (10)))) else (bif Nat.blt id 325 then (bif Nat.blt id 322 then (0) else (bif Nat.blt id 324 then (10) else (0))) else (bif Nat.blt id 328 then (bif Nat.blt id 327 then (10) else (0)) else (bif Nat.blt id 330 then (10) else (0))))) else (bif Nat.blt id 342 then (bif Nat.blt id 335 then (bif Nat.blt id 333 then (10) else (bif Nat.blt id 334 then (0) else (8))) else (bif Nat.blt id 339 then (bif Nat.blt id 338 then (6) else (0)) else (bif Nat.blt id 341 then (10) else (0)))) else (bif Nat.blt id 348 then (bif Nat.blt id 345 then (bif Nat.blt id 344 then (10) else (0)) else (bif Nat.blt id 347 then (10) else (0))) else (bif Nat.blt id 351 then (bif Nat.blt id 350 then (10) else (0)) else (bif Nat.blt id 353 then (10) else (0)))))) else (bif Nat.blt id 376 then (bif Nat.blt id 364 then (bif Nat.blt id 359 then (bif Nat.blt id 356 then (10) else (bif Nat.blt id 357 then (0) else (10))) else (bif Nat.blt id 362 then (bif Nat.blt id 360 then (0) else (10)) else (bif Nat.blt id 363 then (0) else (8)))) else (bif Nat.blt id 370 then (bif Nat.blt id 367 then (6) else (bif Nat.blt id 368 then (0) else (10))) else (bif Nat.blt id 373 then (bif Nat.blt id 371 then (0) else (10)) else (bif Nat.blt id 374 then (0) else (10))))) else (bif Nat.blt id 386 then (bif Nat.blt id 380 then (bif Nat.blt id 377 then (0) else (bif Nat.blt id 379 then (10) else (0))) else (bif Nat.blt id 383 then (bif Nat.blt id 382 then (10) else (0)) else (bif Nat.blt id 385 then (10) else (0)))) else (bif Nat.blt id 392 then (bif Nat.blt id 389 then (bif Nat.blt id 388 then (10) else (0)) else (bif Nat.blt id 391 then (10) else (0))) else (bif Nat.blt id 396 then (bif Nat.blt id 393 then (8) else (6)) else (bif Nat.blt id 397 then (0) else (10))))))))) else (bif Nat.blt id 574 then (bif Nat.blt id 486 then (bif Nat.blt id 441 then (bif Nat.blt id 420 then (bif Nat.blt id 409 then (bif Nat.blt id 403 then (bif Nat.blt id 400 then (0) else (bif Nat.blt id 402 then (10) else (0))) else (bif Nat.blt id 406 then (bif Nat.blt id 405 then (10) else (0)) else (bif Nat.blt id 408 then (10) else (0)))) else (bif Nat.blt id 414 then (bif Nat.blt id 411 then (10) else (bif Nat.blt id 412 then (0) else (10))) else (bif Nat.blt id 417 then (bif Nat.blt id 415 then (0) else (10)) else (bif Nat.blt id 418 then (0) else (10))))) else (bif Nat.blt id 431 then (bif Nat.blt id 425 then (bif Nat.blt id 421 then (0) else (bif Nat.blt id 422 then (8) else (6))) else (bif Nat.blt id 428 then (bif Nat.blt id 426 then (0) else (10)) else (bif Nat.blt id 429 then (0) else (10)))) else (bif Nat.blt id 435 then (bif Nat.blt id 432 then (0) else (bif Nat.blt id 434 then (10) else (0))) else (bif Nat.blt id 438 then (bif Nat.blt id 437 then (10) else (0)) else (bif Nat.blt id 440 then (10) else (0)))))) else (bif Nat.blt id 463 then (bif Nat.blt id 451 then (bif Nat.blt id 446 then (bif Nat.blt id 443 then (10) else (bif Nat.blt id 444 then (0) else (10))) else (bif Nat.blt id 449 then (bif Nat.blt id 447 then (0) else (10)) else (bif Nat.blt id 450 then (0) else (8)))) else (bif Nat.blt id 457 then (bif Nat.blt id 454 then (6) else (bif Nat.blt id 455 then (0) else (10))) else (bif Nat.blt id 460 then (bif Nat.blt id 458 then (0) else (10)) else (bif Nat.blt id 461 then (0) else (10))))) else (bif Nat.blt id 473 then (bif Nat.blt id 467 then (bif Nat.blt id 464 then (0) else (bif Nat.blt id 466 then (10) else (0))) else (bif Nat.blt id 470 then (bif Nat.blt id 469 then (10) else (0)) else (bif Nat.blt id 472 then (10) else (0)))) else (bif Nat.blt id 479 then (bif Nat.blt id 476 then (bif Nat.blt id 475 then (10) else (0)) else (bif Nat.blt id 478 then (10) else (0))) else (bif Nat.blt id 483 then (bif Nat.blt id 480 then (8) else (6)) else (bif Nat.blt id 484 then (0) else (10))))))) else (bif Nat.blt id 530 then (bif Nat.blt id 507 then (bif Nat.blt id 496 then (bif Nat.blt id 490 then (bif Nat.blt id 487 then (0) else (bif Nat.blt id 489 then (10) else (0))) else (bif Nat.blt id 493 then (bif Nat.blt id 492 then (10) else (0)) else (bif Nat.blt id 495 then (10) else (0)))) else (bif Nat.blt id 501 then (bif Nat.blt id 498 then (10) else (bif Nat.blt id 499 then (0) else (10))) else (bif Nat.blt id 504 then (bif Nat.blt id 502 then (0) else (10)) else (bif Nat.blt id 505 then (0) else (10))))) else (bif Nat.blt id 518 then (bif Nat.blt id 512 then (bif Nat.blt id 508 then (0) else (bif Nat.blt id 509 then (8) else (6))) else (bif Nat.blt id 515 then (bif Nat.blt id 513 then (0) else (10)) else (bif Nat.blt id 516 then (0) else (10)))) else (bif Nat.blt id 524 then (bif Nat.blt id 521 then (bif Nat.blt id 519 then (0) else (10)) else (bif Nat.blt id 522 then (0) else (10))) else (bif Nat.blt id 527 then (bif Nat.blt id 525 then (0) else (10)) else (bif Nat.blt id 528 then (0) else (10)))))) else (bif Nat.blt id 551 then (bif Nat.blt id 541 then (bif Nat.blt id 534 then (bif Nat.blt id 531 then (0) else (bif Nat.blt id 533 then (10) else (0))) else (bif Nat.blt id 537 then (bif Nat.blt id 536 then (10) else (0)) else (bif Nat.blt id 538 then (8) else (6)))) else (bif Nat.blt id 545 then (bif Nat.blt id 542 then (0) else (bif Nat.blt id 544 then (10) else (0))) else (bif Nat.blt id 548 then (bif Nat.blt id 547 then (10) else (0)) else (bif Nat.blt id 550 then (10) else (0))))) else (bif Nat.blt id 562 then (bif Nat.blt id 556 then (bif Nat.blt id 553 then (10) else (bif Nat.blt id 554 then (0) else (10))) else (bif Nat.blt id 559 then (bif Nat.blt id 557 then (0) else (10)) else (bif Nat.blt id 560 then (0) else (10)))) else (bif Nat.blt id 567 then (bif Nat.blt id 565 then (bif Nat.blt id 563 then (0) else (10)) else (bif Nat.blt id 566 then (0) else (8))) else (bif Nat.blt id 571 then (bif Nat.blt id 570 then (6) else (0)) else (bif Nat.blt id 573 then (10) else (0)))))))) else (bif Nat.blt id 669 then (bif Nat.blt id 617 then (bif Nat.blt id 595 then (bif Nat.blt id 585 then (bif Nat.blt id 579 then (bif Nat.blt id 576 then (10) else (bif Nat.blt id 577 then (0) else (10))) else (bif Nat.blt id 582 then (bif Nat.blt id 580 then (0) else (10)) else (bif Nat.blt id 583 then (0) else (10)))) else (bif Nat.blt id 589 then (bif Nat.blt id 586 then (0) else (bif Nat.blt id 588 then (10) else (0))) else (bif Nat.blt id 592 then (bif Nat.blt id 591 then (10) else (0)) else (bif Nat.blt id 594 then (10) else (0))))) else (bif Nat.blt id 606 then (bif Nat.blt id 600 then (bif Nat.blt id 596 then (8) else (bif Nat.blt id 599 then (6) else (0))) else (bif Nat.blt id 603 then (bif Nat.blt id 602 then (10) else (0)) else (bif Nat.blt id 605 then (10) else (0)))) else (bif Nat.blt id 611 then (bif Nat.blt id 608 then (10) else (bif Nat.blt id 609 then (0) else (10))) else (bif Nat.blt id 614 then (bif Nat.blt id 612 then (0) else (10)) else (bif Nat.blt id 615 then (0) else (10)))))) else (bif Nat.blt id 639 then (bif Nat.blt id 627 then (bif Nat.blt id 621 then (bif Nat.blt id 618 then (0) else (bif Nat.blt id 620 then (10) else (0))) else (bif Nat.blt id 624 then (bif Nat.blt id 623 then (10) else (0)) else (bif Nat.blt id 626 then (120) else (0)))) else (bif Nat.blt id 632 then (bif Nat.blt id 629 then (120) else (bif Nat.blt id 630 then (0) else (120))) else (bif Nat.blt id 635 then (bif Nat.blt id 633 then (0) else (120)) else (bif Nat.blt id 637 then (0) else (6))))) else (bif Nat.blt id 653 then (bif Nat.blt id 645 then (bif Nat.blt id 641 then (32) else (bif Nat.blt id 643 then (0) else (6))) else (bif Nat.blt id 649 then (bif Nat.blt id 647 then (32) else (0)) else (bif Nat.blt id 651 then (6) else (32)))) else (bif Nat.blt id 661 then (bif Nat.blt id 657 then (bif Nat.blt id 655 then (0) else (6)) else (bif Nat.blt id 659 then (32) else (0))) else (bif Nat.blt id 665 then (bif Nat.blt id 663 then (6) else (32)) else (bif Nat.blt id 667 then (0) else (6))))))) else (bif Nat.blt id 720 then (bif Nat.blt id 696 then (bif Nat.blt id 683 then (bif Nat.blt id 675 then (bif Nat.blt id 671 then (32) else (bif Nat.blt id 673 then (0) else (6))) else (bif Nat.blt id 679 then (bif Nat.blt id 677 then (32) else (0)) else (bif Nat.blt id 681 then (6) else (32)))) else (bif Nat.blt id 689 then (bif Nat.blt id 685 then (0) else (bif Nat.blt id 687 then (6) else (32))) else (bif Nat.blt id 693 then (bif Nat.blt id 691 then (0) else (6)) else (bif Nat.blt id 695 then (32) else (0))))) else (bif Nat.blt id 707 then (bif Nat.blt id 701 then (bif Nat.blt id 698 then (8) else (bif Nat.blt id 699 then (0) else (8))) else (bif Nat.blt id 704 then (bif Nat.blt id 702 then (0) else (8)) else (bif Nat.blt id 705 then (0) else (1600)))) else (bif Nat.blt id 713 then (bif Nat.blt id 709 then (bif Nat.blt id 708 then (49264) else (16)) else (bif Nat.blt id 711 then (128) else (1280))) else (bif Nat.blt id 717 then (bif Nat.blt id 715 then (10) else (80)) else (bif Nat.blt id 719 then (800) else (16)))))) else (bif Nat.blt id 750 then (bif Nat.blt id 736 then (bif Nat.blt id 731 then (bif Nat.blt id 724 then (96) else (bif Nat.blt id 726 then (80) else (1536))) else (bif Nat.blt id 734 then (bif Nat.blt id 733 then (16) else (64)) else (bif Nat.blt id 735 then (480) else (4)))) else (bif Nat.blt id 740 then (bif Nat.blt id 737 then (120) else (bif Nat.blt id 739 then (4) else (2304))) else (bif Nat.blt id 747 then (bif Nat.blt id 742 then (8) else (10)) else (bif Nat.blt id 749 then (60) else (10))))) else (bif Nat.blt id 767 then (bif Nat.blt id 760 then (bif Nat.blt id 752 then (26) else (bif Nat.blt id 756 then (120) else (8))) else (bif Nat.blt id 765 then (bif Nat.blt id 764 then (4) else (10)) else (bif Nat.blt id 766 then (60) else (6)))) else (bif Nat.blt id 772 then (bif Nat.blt id 769 then (bif Nat.blt id 768 then (15360) else (12288)) else (bif Nat.blt id 771 then (1536) else (300))) else (bif Nat.blt id 775 then (bif Nat.blt id 774 then (3) else (100)) else (bif Nat.blt id 776 then (49264) else (0)))))))))
def a_ln (E : AEn) (id : Nat) : Nat := bif Nat.beq id 0 then E.1 else a_lnS id
def a_cI (id k : Nat) : Int32 := match id with
  | 1 => ([0, 200, 392, 569, 724, 851, 946, 1004, 1024] : List Int32).getD k 0
  | 2 => ([1, 0, 2, 3, 4, 5, 6, 7] : List Int32).getD k 0
  | 4 => ([0, 0, 0, 0] : List Int32).getD k 0
  | 5 => ([0, 0, 0, 1] : List Int32).getD k 0
  | 6 => ([0, 0, 2, 2] : List Int32).getD k 0
  | 7 => ([0, 0, 1, 3] : List Int32).getD k 0
  | 8 => ([0, 0, 2, 4] : List Int32).getD k 0
  | 9 => ([0, 0, 2, 5] : List Int32).getD k 0
  | 10 => ([0, 0, 1, 6] : List Int32).getD k 0
  | 11 => ([0, 0, 0, 7] : List Int32).getD k 0
  | 28 => ([112, 97, 112, 101, 114] : List Int32).getD k 0
  | 29 => ([108, 97, 121, 101, 114] : List Int32).getD k 0
  | 30 => ([111, 118, 101, 114] : List Int32).getD k 0
  | 31 => ([115, 104, 105, 102, 116] : List Int32).getD k 0
  | 32 => ([109, 97, 116, 116, 101] : List Int32).getD k 0
  | 33 => ([102, 97, 100, 101] : List Int32).getD k 0
  | 34 => ([98, 108, 117, 114] : List Int32).getD k 0
  | 35 => ([115, 112, 97, 114, 107, 115] : List Int32).getD k 0
  | 36 => ([99] : List Int32).getD k 0
  | 37 => ([108, 108] : List Int32).getD k 0
  | 38 => ([110, 110] : List Int32).getD k 0
  | 39 => ([110, 115, 115] : List Int32).getD k 0
  | 40 => ([110, 110, 102, 103] : List Int32).getD k 0
  | 41 => ([110] : List Int32).getD k 0
  | 42 => ([104, 120, 121, 107, 99] : List Int32).getD k 0
  | _ => 0
def a_cR (id k : Nat) : Option Nat := match id with
  | 3 => ([4, 5, 6, 7, 8, 9, 10, 11] : List Nat)[k]?
  | 4 => ([12, 20] : List Nat)[k]?
  | 5 => ([13, 21] : List Nat)[k]?
  | 6 => ([14, 22] : List Nat)[k]?
  | 7 => ([15, 23] : List Nat)[k]?
  | 8 => ([16, 22] : List Nat)[k]?
  | 9 => ([17, 24] : List Nat)[k]?
  | 10 => ([18, 25] : List Nat)[k]?
  | 11 => ([19, 26] : List Nat)[k]?
  | 12 => ([28] : List Nat)[k]?
  | 13 => ([29] : List Nat)[k]?
  | 14 => ([30] : List Nat)[k]?
  | 15 => ([31] : List Nat)[k]?
  | 16 => ([32] : List Nat)[k]?
  | 17 => ([33] : List Nat)[k]?
  | 18 => ([34] : List Nat)[k]?
  | 19 => ([35] : List Nat)[k]?
  | 20 => ([36] : List Nat)[k]?
  | 21 => ([37] : List Nat)[k]?
  | 22 => ([38] : List Nat)[k]?
  | 23 => ([39] : List Nat)[k]?
  | 24 => ([40] : List Nat)[k]?
  | 25 => ([41] : List Nat)[k]?
  | 26 => ([42] : List Nat)[k]?
  | _ => none
def rI (E : AEn) (h : AHi) (a k : Nat) : Int32 := bif Nat.blt a 43 then (bif Nat.beq a 0 then E.2 k else a_cI a k) else h a k
def rR (h : AHr) (a k : Nat) : Option Nat := bif Nat.blt a 43 then a_cR a k else h a k
/-- an id that is there, of a kind; one that may be written -/
def a_is (n a C : Nat) : Prop := a_kd a = C ∧ a < n
def a_wr (n a C : Nat) : Prop := a_kd a = C ∧ a < n ∧ 43 ≤ a
/-- what arraycopy leaves -/
def a_cpy (E : AEn) (hi : AHi) (a sp d dp c : Nat) : AHi := va_up hi d (va_cpy (rI E hi a) (hi d) sp dp c)
/-- the rows of a new array of arrays -/
def a_rows (hr : AHr) (n c : Nat) : AHr := fun x => if x = n then (fun i => if i < c then some (n + 1 + i) else none) else if n < x ∧ x ≤ n + c then (fun _ => none) else hr x
def a_zero (hi : AHi) (n c : Nat) : AHi := fun x => if n ≤ x ∧ x ≤ n + c then (fun _ => 0) else hi x
abbrev ASt : Type := List Value × List Value × AHi × AHr × Nat
/-- what one operation does that neither jumps nor calls -/
def a_sem (E : AEn) (o : AOp) (ls st : List Value) (hi : AHi) (hr : AHr) (n : Nat) : Option ASt :=
  match o.1 with
  | 1 => some (ls, .int (Int32.ofInt o.2.2.2.1) :: st, hi, hr, n)
  | 2 => some (ls, .long (Int64.ofInt o.2.2.2.1) :: st, hi, hr, n)
  | 3 => match ls[o.2.1]? with
    | some (.int x) => some (ls, .int x :: st, hi, hr, n)
    | _ => none
  | 4 => match ls[o.2.1]? with
    | some (.long x) => some (ls, .long x :: st, hi, hr, n)
    | _ => none
  | 5 => match ls[o.2.1]? with
    | some (.ref x) => some (ls, .ref x :: st, hi, hr, n)
    | some .null => some (ls, .null :: st, hi, hr, n)
    | _ => none
  | 6 => match st with
    | .int x :: st => if o.2.1 < ls.length then some (a_st1 ls o.2.1 (.int x), st, hi, hr, n) else none
    | _ => none
  | 7 => match st with
    | .long x :: st => if o.2.1 + 1 < ls.length then some (a_st2 ls o.2.1 (.long x), st, hi, hr, n) else none
    | _ => none
  | 8 => match st with
    | .ref x :: st => if o.2.1 < ls.length then some (a_st1 ls o.2.1 (.ref x), st, hi, hr, n) else none
    | .null :: st => if o.2.1 < ls.length then some (a_st1 ls o.2.1 .null, st, hi, hr, n) else none
    | _ => none
  | 9 => match ls[o.2.1]? with
    | some (.int x) => some (a_st1 ls o.2.1 (.int (x + Int32.ofInt o.2.2.2.1)), st, hi, hr, n)
    | _ => none
  | 10 => match st with
    | .int y :: .int x :: st => match a_bin o.2.1 x y with
      | some z => some (ls, .int z :: st, hi, hr, n)
      | none => none
    | _ => none
  | 11 => match st with
    | .long y :: .long x :: st => match a_binL o.2.1 x y with
      | some z => some (ls, z :: st, hi, hr, n)
      | none => none
    | _ => none
  | 12 => match st with
    | v :: st => match a_un o.2.1 v with
      | some z => some (ls, z :: st, hi, hr, n)
      | none => none
    | _ => none
  | 13 => match st with
    | v :: st => if v.category = 1 then some (ls, v :: v :: st, hi, hr, n) else none
    | _ => none
  | 14 => match st with
    | v :: st => if v.category = 1 then some (ls, st, hi, hr, n) else none
    | _ => none
  | 15 => match st with
    | v :: w :: st => if v.category = 1 ∧ w.category = 1 then some (ls, v :: w :: v :: w :: st, hi, hr, n) else none
    | _ => none
  | 16 => match st with
    | .ref a :: st => if a_kd a = o.2.1 ∧ a < n then some (ls, .int (rI E hi a o.2.2.1) :: st, hi, hr, n) else none
    | _ => none
  | 17 => match st with
    | .ref a :: st => if a_kd a = o.2.1 ∧ a < n then some (ls, a_ref (rR hr a o.2.2.1) :: st, hi, hr, n) else none
    | _ => none
  | 18 => match st with
    | .int v :: .ref a :: st => if (a_kd a = o.2.1 ∧ a < n ∧ 43 ≤ a) ∧ (o.2.2.2.1 = 0 ∨ v = 0 ∨ v = 1) then some (ls, st, hI hi a o.2.2.1 v, hr, n) else none
    | _ => none
  | 19 => match st with
    | .ref v :: .ref a :: st => if a_kd a = o.2.1 ∧ a < n ∧ 43 ≤ a then some (ls, st, hi, hR hr a o.2.2.1 (some v), n) else none
    | _ => none
  | 20 => some (ls, .ref o.2.1 :: st, hi, hr, n)
  | 21 => match st with
    | .int j :: .ref a :: st => if (a_kd a = 20 ∧ a < n) ∧ ¬ (j < 0 ∨ a_ln E a ≤ j.toNatClampNeg) then some (ls, .int (rI E hi a j.toNatClampNeg) :: st, hi, hr, n) else none
    | _ => none
  | 22 => match st with
    | .int j :: .ref a :: st => if ((a_kd a = 21 ∨ a_kd a = 22) ∧ a < n) ∧ ¬ (j < 0 ∨ a_ln E a ≤ j.toNatClampNeg) then some (ls, .int (rI E hi a j.toNatClampNeg) :: st, hi, hr, n) else none
    | _ => none
  | 23 => match st with
    | .int j :: .ref a :: st => if (30 ≤ a_kd a ∧ a_kd a ≤ 50 ∧ a < n) ∧ ¬ (j < 0 ∨ a_ln E a ≤ j.toNatClampNeg) then some (ls, a_ref (rR hr a j.toNatClampNeg) :: st, hi, hr, n) else none
    | _ => none
  | 24 => match st with
    | .int v :: .int j :: .ref a :: st => if (a_kd a = 20 ∧ a < n ∧ 43 ≤ a) ∧ ¬ (j < 0 ∨ a_ln E a ≤ j.toNatClampNeg) then some (ls, st, hI hi a j.toNatClampNeg v, hr, n) else none
    | _ => none
  | 25 => match st with
    | .int v :: .int j :: .ref a :: st =>
      if ((a_kd a = 21 ∨ a_kd a = 22) ∧ a < n ∧ 43 ≤ a) ∧ ¬ (j < 0 ∨ a_ln E a ≤ j.toNatClampNeg) then some (ls, st, hI hi a j.toNatClampNeg (if a_kd a = 21 then a_byte v else a_bool v), hr, n) else none
    | _ => none
  | 26 => match st with
    | .ref v :: .int j :: .ref a :: st => if ((30 ≤ a_kd a ∧ a_kd a ≤ 42) ∧ a < n ∧ 43 ≤ a) ∧ (a_kd v + 30 = a_kd a ∧ v < n) ∧ ¬ (j < 0 ∨ a_ln E a ≤ j.toNatClampNeg) then some (ls, st, hi, hR hr a j.toNatClampNeg (some v), n) else none
    | _ => none
  | 27 => match st with
    | .ref a :: st => if (20 ≤ a_kd a ∧ a_kd a ≤ 50) ∧ a < n then some (ls, .int (nI (a_ln E a)) :: st, hi, hr, n) else none
    | _ => none
  | 28 => if a_kd n = o.2.1 then some (ls, .ref n :: st, va_up hi n (fun _ => 0), va_up hr n (fun _ => none), n + 1) else none
  | 29 => match st with
    | .int j :: st => if a_kd n = o.2.1 ∧ ¬ j < 0 ∧ a_ln E n = j.toNatClampNeg ∧ j.toNatClampNeg ≤ 60000 then some (ls, .ref n :: st, va_up hi n (fun _ => 0), hr, n + 1) else none
    | _ => none
  | 30 => match st with
    | .int j :: st => if a_kd n = o.2.1 ∧ ¬ j < 0 ∧ a_ln E n = j.toNatClampNeg ∧ j.toNatClampNeg ≤ 60000 then some (ls, .ref n :: st, hi, va_up hr n (fun _ => none), n + 1) else none
    | _ => none
  | 31 => match st with
    | .int k :: .int j :: st => if a_kd n = 50 ∧ ¬ j < 0 ∧ ¬ k < 0 ∧ a_ln E n = j.toNatClampNeg ∧ j.toNatClampNeg ≤ 60000 ∧ k.toNatClampNeg ≤ 60000 ∧ ∀ i, i < j.toNatClampNeg → a_kd (n + 1 + i) = 20 ∧ a_ln E (n + 1 + i) = k.toNatClampNeg
      then some (ls, .ref n :: st, a_zero hi n j.toNatClampNeg, a_rows hr n j.toNatClampNeg, n + 1 + j.toNatClampNeg) else none
    | _ => none
  | 32 => match st with
    | .ref a :: st => if 43 ≤ a ∧ st.length ≤ 4 then some (ls, st, hi, hr, n) else none
    | _ => none
  | 33 => match st with
    | .int c :: .int dp :: .ref d :: .int sp :: .ref a :: st =>
      if ((a_kd a = 20 ∨ a_kd a = 21) ∧ a_kd d = a_kd a ∧ a < n ∧ d < n ∧ 43 ≤ a ∧ 43 ≤ d) ∧ (¬ sp < 0 ∧ ¬ dp < 0 ∧ ¬ c < 0) ∧ sp.toNatClampNeg + c.toNatClampNeg ≤ a_ln E a ∧ dp.toNatClampNeg + c.toNatClampNeg ≤ a_ln E d ∧ st.length ≤ 4
      then some (ls, st, a_cpy E hi a sp.toNatClampNeg d dp.toNatClampNeg c.toNatClampNeg, hr, n) else none
    | _ => none
  | _ => none
/-- whether a branch is taken, and what is left of the stack -/
def a_cnd (c : Nat) (st : List Value) : Option (Bool × List Value) :=
  if c < 6 then match st with
    | .int x :: st => match a_cmp c x 0 with
      | some b => some (b, st)
      | none => none
    | _ => none
  else if c < 12 then match st with
    | .int y :: .int x :: st => match a_cmp (c - 6) x y with
      | some b => some (b, st)
      | none => none
    | _ => none
  else if c = 12 then match st with
    | .ref x :: st => if 43 ≤ x then some (true, st) else none
    | .null :: st => some (false, st)
    | _ => none
  else match st with
    | .ref y :: .ref x :: st => if (43 ≤ x ∧ 43 ≤ y) ∨ ((4 ≤ x ∧ x < 12) ∧ (4 ≤ y ∧ y < 12)) then some ((if c = 13 then decide (x = y) else decide (¬ x = y)), st) else none
    | _ => none
/-- the target of a switch -/
def a_sw (lo : Int) (d : Nat) (ts : List Nat) (x : Int32) : Nat := if x.toInt < lo then d else ts.getD (x.toInt - lo).toNat d
/-! the operations by name -/
def o_I (v : Int32) : AOp := (1, 0, 0, v.toInt, [])
def o_L (v : Int64) : AOp := (2, 0, 0, v.toInt, [])
def o_il (i : Nat) : AOp := (3, i, 0, 0, [])
def o_ll (i : Nat) : AOp := (4, i, 0, 0, [])
def o_al (i : Nat) : AOp := (5, i, 0, 0, [])
def o_is (i : Nat) : AOp := (6, i, 0, 0, [])
def o_lst (i : Nat) : AOp := (7, i, 0, 0, [])
def o_as (i : Nat) : AOp := (8, i, 0, 0, [])
def o_iinc (i : Nat) (v : Int32) : AOp := (9, i, 0, v.toInt, [])
def o_bin (c : Nat) : AOp := (10, c, 0, 0, [])
def o_binL (c : Nat) : AOp := (11, c, 0, 0, [])
def o_un (c : Nat) : AOp := (12, c, 0, 0, [])
def o_dup : AOp := (13, 0, 0, 0, [])
def o_pop : AOp := (14, 0, 0, 0, [])
def o_dup2 : AOp := (15, 0, 0, 0, [])
def o_getI (C k : Nat) : AOp := (16, C, k, 0, [])
def o_getR (C k : Nat) : AOp := (17, C, k, 0, [])
def o_putI (C k : Nat) : AOp := (18, C, k, 0, [])
def o_putZ (C k : Nat) : AOp := (18, C, k, 1, [])
def o_putR (C k : Nat) : AOp := (19, C, k, 0, [])
def o_cR (a : Nat) : AOp := (20, a, 0, 0, [])
def o_iald : AOp := (21, 0, 0, 0, [])
def o_bald : AOp := (22, 0, 0, 0, [])
def o_aald : AOp := (23, 0, 0, 0, [])
def o_iast : AOp := (24, 0, 0, 0, [])
def o_bast : AOp := (25, 0, 0, 0, [])
def o_aast : AOp := (26, 0, 0, 0, [])
def o_alen : AOp := (27, 0, 0, 0, [])
def o_new (C : Nat) : AOp := (28, C, 0, 0, [])
def o_newa (k : Nat) : AOp := (29, k, 0, 0, [])
def o_anew (k : Nat) : AOp := (30, k, 0, 0, [])
def o_mna : AOp := (31, 0, 0, 0, [])
def o_obj : AOp := (32, 0, 0, 0, [])
def o_cp : AOp := (33, 0, 0, 0, [])
def o_bad : AOp := (99, 0, 0, 0, [])
def o_goto (L : Nat) : AOp := (100, L, 0, 0, [])
def o_if (c L : Nat) : AOp := (101, L, c, 0, [])
def o_ic (c L : Nat) : AOp := (101, L, c + 6, 0, [])
def o_nn (L : Nat) : AOp := (101, L, 12, 0, [])
def o_ae (L : Nat) : AOp := (101, L, 13, 0, [])
def o_an (L : Nat) : AOp := (101, L, 14, 0, [])
def o_sw (lo : Int) (d : Nat) (ts : List Nat) : AOp := (102, d, 0, lo, ts)
def o_call (m : Nat) : AOp := (103, m, 0, 0, [])
def o_ret (c : Nat) : AOp := (104, c, 0, 0, [])
def o_ft (L : Nat) : AOp := (105, L, 0, 0, [])
abbrev ABl : Type := List (Nat × List AOp)
/-- a method: name, code, locals, what it returns, how many it takes (this among them), receiver's class + 1 (0: static), frames, words of locals, place of its word, blocks -/
abbrev AMe : Type := MethodName × ByteArray × Nat × Option FieldType × Nat × Nat × Nat × Nat × Nat × ABl
