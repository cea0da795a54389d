theorem dL_law_634 : decode cL_law 634 = .ok (.aload_n 2, 1) := by decide +kernel
theorem dL_law_635 : decode cL_law 635 = .ok (.invokevirtual 153, 3) := by decide +kernel
theorem dL_law_638 : decode cL_law 638 = .ok (.istore 10, 2) := by decide +kernel
theorem dL_law_640 : decode cL_law 640 = .ok (.iload 10, 2) := by decide +kernel
theorem dL_law_642 : decode cL_law 642 = .ok (.iload 8, 2) := by decide +kernel
theorem dL_law_644 : decode cL_law 644 = .ok (.iload 9, 2) := by decide +kernel
theorem dL_law_646 : decode cL_law 646 = .ok (.isub, 1) := by decide +kernel
theorem dL_law_647 : decode cL_law 647 = .ok (.if_icmp .lt 29, 3) := by decide +kernel
theorem dL_law_650 : decode cL_law 650 = .ok (.iload 10, 2) := by decide +kernel
theorem dL_law_652 : decode cL_law 652 = .ok (.bipush 8, 2) := by decide +kernel
theorem dL_law_654 : decode cL_law 654 = .ok (.iload 9, 2) := by decide +kernel
theorem dL_law_656 : decode cL_law 656 = .ok (.isub, 1) := by decide +kernel
theorem dL_law_657 : decode cL_law 657 = .ok (.if_icmp .gt 19, 3) := by decide +kernel
theorem dL_law_660 : decode cL_law 660 = .ok (.aload_n 2, 1) := by decide +kernel
theorem dL_law_661 : decode cL_law 661 = .ok (.invokestatic 136, 3) := by decide +kernel
theorem dL_law_664 : decode cL_law 664 = .ok (.aload 6, 2) := by decide +kernel
theorem dL_law_666 : decode cL_law 666 = .ok (.iload 7, 2) := by decide +kernel
theorem dL_law_668 : decode cL_law 668 = .ok (.iload 9, 2) := by decide +kernel
theorem dL_law_670 : decode cL_law 670 = .ok (.isub, 1) := by decide +kernel
theorem dL_law_671 : decode cL_law 671 = .ok (.laload, 1) := by decide +kernel
theorem dL_law_672 : decode cL_law 672 = .ok (.lcmp, 1) := by decide +kernel
theorem dL_law_673 : decode cL_law 673 = .ok (.ifCond .eq 5, 3) := by decide +kernel
theorem dL_law_676 : decode cL_law 676 = .ok (.iconst 0, 1) := by decide +kernel
theorem dL_law_677 : decode cL_law 677 = .ok (.ireturn, 1) := by decide +kernel
theorem dL_law_678 : decode cL_law 678 = .ok (.iinc 9 1, 3) := by decide +kernel
theorem dL_law_681 : decode cL_law 681 = .ok (.goto (-54), 3) := by decide +kernel
theorem dL_law_684 : decode cL_law 684 = .ok (.aload_n 2, 1) := by decide +kernel
theorem dL_law_685 : decode cL_law 685 = .ok (.invokevirtual 156, 3) := by decide +kernel
theorem dL_law_688 : decode cL_law 688 = .ok (.iload 5, 2) := by decide +kernel
theorem dL_law_690 : decode cL_law 690 = .ok (.if_icmp .ne 43, 3) := by decide +kernel
theorem dL_law_693 : decode cL_law 693 = .ok (.aload_n 2, 1) := by decide +kernel
theorem dL_law_694 : decode cL_law 694 = .ok (.invokevirtual 153, 3) := by decide +kernel
theorem dL_law_697 : decode cL_law 697 = .ok (.bipush (-4), 2) := by decide +kernel
theorem dL_law_699 : decode cL_law 699 = .ok (.if_icmp .ne 34, 3) := by decide +kernel
theorem dL_law_702 : decode cL_law 702 = .ok (.aload_n 2, 1) := by decide +kernel
theorem dL_law_703 : decode cL_law 703 = .ok (.invokestatic 136, 3) := by decide +kernel
theorem dL_law_706 : decode cL_law 706 = .ok (.lload_n 3, 1) := by decide +kernel
theorem dL_law_707 : decode cL_law 707 = .ok (.lcmp, 1) := by decide +kernel
theorem dL_law_708 : decode cL_law 708 = .ok (.ifCond .ne 25, 3) := by decide +kernel
theorem dL_law_711 : decode cL_law 711 = .ok (.aload_n 2, 1) := by decide +kernel
theorem dL_law_712 : decode cL_law 712 = .ok (.invokevirtual 156, 3) := by decide +kernel
theorem dL_law_715 : decode cL_law 715 = .ok (.iload 5, 2) := by decide +kernel
theorem dL_law_717 : decode cL_law 717 = .ok (.if_icmp .ne 16, 3) := by decide +kernel
theorem dL_law_720 : decode cL_law 720 = .ok (.aload_n 2, 1) := by decide +kernel
theorem dL_law_721 : decode cL_law 721 = .ok (.invokestatic 136, 3) := by decide +kernel
theorem dL_law_724 : decode cL_law 724 = .ok (.lload_n 3, 1) := by decide +kernel
theorem dL_law_725 : decode cL_law 725 = .ok (.lcmp, 1) := by decide +kernel
theorem dL_law_726 : decode cL_law 726 = .ok (.ifCond .ne 7, 3) := by decide +kernel
theorem dL_law_729 : decode cL_law 729 = .ok (.iconst 1, 1) := by decide +kernel
theorem dL_law_730 : decode cL_law 730 = .ok (.goto 4, 3) := by decide +kernel
theorem dL_law_733 : decode cL_law 733 = .ok (.iconst 0, 1) := by decide +kernel
theorem dL_law_734 : decode cL_law 734 = .ok (.ireturn, 1) := by decide +kernel
