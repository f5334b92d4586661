theorem fl_c94 : fl_P 506 5 := by
  unfold fl_P
  decide +kernel
theorem fl_c95 : fl_P 511 5 := by
  unfold fl_P
  decide +kernel
theorem fl_c96 : fl_P 516 5 := by
  unfold fl_P
  decide +kernel
theorem fl_c97 : fl_P 521 5 := by
  unfold fl_P
  decide +kernel
theorem fl_c98 : fl_P 526 5 := by
  unfold fl_P
  decide +kernel
theorem fl_c99 : fl_P 531 5 := by
  unfold fl_P
  decide +kernel
theorem fl_c100 : fl_P 536 5 := by
  unfold fl_P
  decide +kernel
theorem fl_c101 : fl_P 541 5 := by
  unfold fl_P
  decide +kernel
theorem fl_c102 : fl_P 546 5 := by
  unfold fl_P
  decide +kernel
theorem fl_c103 : fl_P 551 5 := by
  unfold fl_P
  decide +kernel
theorem fl_c104 : fl_P 556 5 := by
  unfold fl_P
  decide +kernel
theorem fl_c105 : fl_P 561 5 := by
  unfold fl_P
  decide +kernel
theorem fl_c106 : fl_P 566 5 := by
  unfold fl_P
  decide +kernel
theorem fl_c107 : fl_P 571 5 := by
  unfold fl_P
  decide +kernel
theorem fl_c108 : fl_P 576 5 := by
  unfold fl_P
  decide +kernel
theorem fl_c109 : fl_P 581 5 := by
  unfold fl_P
  decide +kernel
theorem fl_c110 : fl_P 586 5 := by
  unfold fl_P
  decide +kernel
theorem fl_c111 : fl_P 591 5 := by
  unfold fl_P
  decide +kernel
theorem fl_c112 : fl_P 596 5 := by
  unfold fl_P
  decide +kernel
theorem fl_c113 : fl_P 601 5 := by
  unfold fl_P
  decide +kernel
theorem fl_c114 : fl_P 606 5 := by
  unfold fl_P
  decide +kernel
theorem fl_c115 : fl_P 611 5 := by
  unfold fl_P
  decide +kernel
theorem fl_c116 : fl_P 616 5 := by
  unfold fl_P
  decide +kernel
theorem fl_c117 : fl_P 621 5 := by
  unfold fl_P
  decide +kernel
theorem fl_c118 : fl_P 626 5 := by
  unfold fl_P
  decide +kernel
theorem fl_c119 : fl_P 631 5 := by
  unfold fl_P
  decide +kernel
theorem fl_c120 : fl_P 636 5 := by
  unfold fl_P
  decide +kernel
theorem fl_c121 : fl_P 641 5 := by
  unfold fl_P
  decide +kernel
theorem fl_c122 : fl_P 646 5 := by
  unfold fl_P
  decide +kernel
theorem fl_c123 : fl_P 651 5 := by
  unfold fl_P
  decide +kernel
theorem fl_c124 : fl_P 656 5 := by
  unfold fl_P
  decide +kernel
theorem fl_c125 : fl_P 661 5 := by
  unfold fl_P
  decide +kernel
theorem fl_c126 : fl_P 666 5 := by
  unfold fl_P
  decide +kernel
theorem fl_c127 : fl_P 671 5 := by
  unfold fl_P
  decide +kernel
theorem fl_c128 : fl_P 676 5 := by
  unfold fl_P
  decide +kernel
theorem fl_c129 : fl_P 681 5 := by
  unfold fl_P
  decide +kernel
theorem fl_c130 : fl_P 686 5 := by
  unfold fl_P
  decide +kernel
theorem fl_c131 : fl_P 691 5 := by
  unfold fl_P
  decide +kernel
theorem fl_c132 : fl_P 696 5 := by
  unfold fl_P
  decide +kernel
theorem fl_c133 : fl_P 701 5 := by
  unfold fl_P
  decide +kernel
theorem fl_c134 : fl_P 706 5 := by
  unfold fl_P
  decide +kernel
theorem fl_c135 : fl_P 711 5 := by
  unfold fl_P
  decide +kernel
theorem fl_c136 : fl_P 716 5 := by
  unfold fl_P
  decide +kernel
theorem fl_c137 : fl_P 721 5 := by
  unfold fl_P
  decide +kernel
theorem fl_c138 : fl_P 726 3 := by
  unfold fl_P
  decide +kernel
