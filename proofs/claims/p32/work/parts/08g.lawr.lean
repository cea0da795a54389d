theorem dL_refused_610 : decode cL_refused 610 = .ok (.iconst (-1), 1) := by decide +kernel
theorem dL_refused_611 : decode cL_refused 611 = .ok (.if_icmp .ne 214, 3) := by decide +kernel
theorem dL_refused_614 : decode cL_refused 614 = .ok (.aload_n 0, 1) := by decide +kernel
theorem dL_refused_615 : decode cL_refused 615 = .ok (.iconst 0, 1) := by decide +kernel
theorem dL_refused_616 : decode cL_refused 616 = .ok (.iconst (-1), 1) := by decide +kernel
theorem dL_refused_617 : decode cL_refused 617 = .ok (.invokevirtual 88, 3) := by decide +kernel
theorem dL_refused_620 : decode cL_refused 620 = .ok (.iconst (-1), 1) := by decide +kernel
theorem dL_refused_621 : decode cL_refused 621 = .ok (.if_icmp .ne 204, 3) := by decide +kernel
theorem dL_refused_624 : decode cL_refused 624 = .ok (.aload_n 0, 1) := by decide +kernel
theorem dL_refused_625 : decode cL_refused 625 = .ok (.iconst 0, 1) := by decide +kernel
theorem dL_refused_626 : decode cL_refused 626 = .ok (.iconst 5, 1) := by decide +kernel
theorem dL_refused_627 : decode cL_refused 627 = .ok (.invokevirtual 91, 3) := by decide +kernel
theorem dL_refused_630 : decode cL_refused 630 = .ok (.iconst (-1), 1) := by decide +kernel
theorem dL_refused_631 : decode cL_refused 631 = .ok (.if_icmp .ne 194, 3) := by decide +kernel
theorem dL_refused_634 : decode cL_refused 634 = .ok (.aload_n 0, 1) := by decide +kernel
theorem dL_refused_635 : decode cL_refused 635 = .ok (.iconst (-1), 1) := by decide +kernel
theorem dL_refused_636 : decode cL_refused 636 = .ok (.iconst 0, 1) := by decide +kernel
theorem dL_refused_637 : decode cL_refused 637 = .ok (.invokevirtual 94, 3) := by decide +kernel
theorem dL_refused_640 : decode cL_refused 640 = .ok (.iconst (-1), 1) := by decide +kernel
theorem dL_refused_641 : decode cL_refused 641 = .ok (.if_icmp .ne 184, 3) := by decide +kernel
theorem dL_refused_644 : decode cL_refused 644 = .ok (.aload_n 0, 1) := by decide +kernel
theorem dL_refused_645 : decode cL_refused 645 = .ok (.iconst 5, 1) := by decide +kernel
theorem dL_refused_646 : decode cL_refused 646 = .ok (.iconst 0, 1) := by decide +kernel
theorem dL_refused_647 : decode cL_refused 647 = .ok (.invokevirtual 85, 3) := by decide +kernel
theorem dL_refused_650 : decode cL_refused 650 = .ok (.iconst (-1), 1) := by decide +kernel
theorem dL_refused_651 : decode cL_refused 651 = .ok (.if_icmp .ne 174, 3) := by decide +kernel
theorem dL_refused_654 : decode cL_refused 654 = .ok (.aload_n 0, 1) := by decide +kernel
theorem dL_refused_655 : decode cL_refused 655 = .ok (.iconst 0, 1) := by decide +kernel
theorem dL_refused_656 : decode cL_refused 656 = .ok (.iconst (-1), 1) := by decide +kernel
theorem dL_refused_657 : decode cL_refused 657 = .ok (.invokevirtual 85, 3) := by decide +kernel
theorem dL_refused_660 : decode cL_refused 660 = .ok (.iconst (-1), 1) := by decide +kernel
theorem dL_refused_661 : decode cL_refused 661 = .ok (.if_icmp .ne 164, 3) := by decide +kernel
theorem dL_refused_664 : decode cL_refused 664 = .ok (.aload_n 0, 1) := by decide +kernel
theorem dL_refused_665 : decode cL_refused 665 = .ok (.iconst 4, 1) := by decide +kernel
theorem dL_refused_666 : decode cL_refused 666 = .ok (.invokevirtual 109, 3) := by decide +kernel
theorem dL_refused_669 : decode cL_refused 669 = .ok (.iconst (-1), 1) := by decide +kernel
theorem dL_refused_670 : decode cL_refused 670 = .ok (.if_icmp .ne 155, 3) := by decide +kernel
theorem dL_refused_673 : decode cL_refused 673 = .ok (.aload_n 0, 1) := by decide +kernel
theorem dL_refused_674 : decode cL_refused 674 = .ok (.iconst (-1), 1) := by decide +kernel
theorem dL_refused_675 : decode cL_refused 675 = .ok (.invokevirtual 109, 3) := by decide +kernel
theorem dL_refused_678 : decode cL_refused 678 = .ok (.iconst (-1), 1) := by decide +kernel
theorem dL_refused_679 : decode cL_refused 679 = .ok (.if_icmp .ne 146, 3) := by decide +kernel
theorem dL_refused_682 : decode cL_refused 682 = .ok (.aload_n 0, 1) := by decide +kernel
theorem dL_refused_683 : decode cL_refused 683 = .ok (.iconst 5, 1) := by decide +kernel
theorem dL_refused_684 : decode cL_refused 684 = .ok (.invokevirtual 103, 3) := by decide +kernel
theorem dL_refused_687 : decode cL_refused 687 = .ok (.iconst (-1), 1) := by decide +kernel
theorem dL_refused_688 : decode cL_refused 688 = .ok (.if_icmp .ne 137, 3) := by decide +kernel
theorem dL_refused_691 : decode cL_refused 691 = .ok (.aload_n 0, 1) := by decide +kernel
theorem dL_refused_692 : decode cL_refused 692 = .ok (.iconst 5, 1) := by decide +kernel
theorem dL_refused_693 : decode cL_refused 693 = .ok (.invokevirtual 106, 3) := by decide +kernel
theorem dL_refused_696 : decode cL_refused 696 = .ok (.iconst (-1), 1) := by decide +kernel
theorem dL_refused_697 : decode cL_refused 697 = .ok (.if_icmp .ne 128, 3) := by decide +kernel
theorem dL_refused_700 : decode cL_refused 700 = .ok (.aload_n 0, 1) := by decide +kernel
theorem dL_refused_701 : decode cL_refused 701 = .ok (.iconst (-1), 1) := by decide +kernel
theorem dL_refused_702 : decode cL_refused 702 = .ok (.invokevirtual 106, 3) := by decide +kernel
theorem dL_refused_705 : decode cL_refused 705 = .ok (.iconst (-1), 1) := by decide +kernel
theorem dL_refused_706 : decode cL_refused 706 = .ok (.if_icmp .ne 119, 3) := by decide +kernel
theorem dL_refused_709 : decode cL_refused 709 = .ok (.aload_n 0, 1) := by decide +kernel
theorem dL_refused_710 : decode cL_refused 710 = .ok (.iconst 5, 1) := by decide +kernel
theorem dL_refused_711 : decode cL_refused 711 = .ok (.invokevirtual 97, 3) := by decide +kernel
theorem dL_refused_714 : decode cL_refused 714 = .ok (.iconst (-1), 1) := by decide +kernel
theorem dL_refused_715 : decode cL_refused 715 = .ok (.if_icmp .ne 110, 3) := by decide +kernel
theorem dL_refused_718 : decode cL_refused 718 = .ok (.aload_n 0, 1) := by decide +kernel
theorem dL_refused_719 : decode cL_refused 719 = .ok (.iconst (-1), 1) := by decide +kernel
theorem dL_refused_720 : decode cL_refused 720 = .ok (.invokevirtual 100, 3) := by decide +kernel
theorem dL_refused_723 : decode cL_refused 723 = .ok (.iconst (-1), 1) := by decide +kernel
theorem dL_refused_724 : decode cL_refused 724 = .ok (.if_icmp .ne 101, 3) := by decide +kernel
theorem dL_refused_727 : decode cL_refused 727 = .ok (.aload_n 0, 1) := by decide +kernel
theorem dL_refused_728 : decode cL_refused 728 = .ok (.iconst (-1), 1) := by decide +kernel
theorem dL_refused_729 : decode cL_refused 729 = .ok (.invokevirtual 29, 3) := by decide +kernel
theorem dL_refused_732 : decode cL_refused 732 = .ok (.iconst (-1), 1) := by decide +kernel
theorem dL_refused_733 : decode cL_refused 733 = .ok (.if_icmp .ne 92, 3) := by decide +kernel
theorem dL_refused_736 : decode cL_refused 736 = .ok (.aload_n 0, 1) := by decide +kernel
theorem dL_refused_737 : decode cL_refused 737 = .ok (.sipush 200, 3) := by decide +kernel
theorem dL_refused_740 : decode cL_refused 740 = .ok (.invokevirtual 29, 3) := by decide +kernel
theorem dL_refused_743 : decode cL_refused 743 = .ok (.iconst (-1), 1) := by decide +kernel
theorem dL_refused_744 : decode cL_refused 744 = .ok (.if_icmp .ne 81, 3) := by decide +kernel
theorem dL_refused_747 : decode cL_refused 747 = .ok (.aload_n 0, 1) := by decide +kernel
theorem dL_refused_748 : decode cL_refused 748 = .ok (.iconst 3, 1) := by decide +kernel
theorem dL_refused_749 : decode cL_refused 749 = .ok (.invokevirtual 26, 3) := by decide +kernel
theorem dL_refused_752 : decode cL_refused 752 = .ok (.bipush (-2), 2) := by decide +kernel
theorem dL_refused_754 : decode cL_refused 754 = .ok (.if_icmp .ne 71, 3) := by decide +kernel
theorem dL_refused_757 : decode cL_refused 757 = .ok (.aload_n 0, 1) := by decide +kernel
theorem dL_refused_758 : decode cL_refused 758 = .ok (.iconst (-1), 1) := by decide +kernel
theorem dL_refused_759 : decode cL_refused 759 = .ok (.invokevirtual 26, 3) := by decide +kernel
theorem dL_refused_762 : decode cL_refused 762 = .ok (.bipush (-2), 2) := by decide +kernel
theorem dL_refused_764 : decode cL_refused 764 = .ok (.if_icmp .ne 61, 3) := by decide +kernel
theorem dL_refused_767 : decode cL_refused 767 = .ok (.aload_n 0, 1) := by decide +kernel
theorem dL_refused_768 : decode cL_refused 768 = .ok (.bipush 13, 2) := by decide +kernel
theorem dL_refused_770 : decode cL_refused 770 = .ok (.invokevirtual 76, 3) := by decide +kernel
theorem dL_refused_773 : decode cL_refused 773 = .ok (.bipush (-2), 2) := by decide +kernel
theorem dL_refused_775 : decode cL_refused 775 = .ok (.if_icmp .ne 50, 3) := by decide +kernel
theorem dL_refused_778 : decode cL_refused 778 = .ok (.aload_n 0, 1) := by decide +kernel
theorem dL_refused_779 : decode cL_refused 779 = .ok (.iconst (-1), 1) := by decide +kernel
theorem dL_refused_780 : decode cL_refused 780 = .ok (.invokevirtual 76, 3) := by decide +kernel
theorem dL_refused_783 : decode cL_refused 783 = .ok (.bipush (-2), 2) := by decide +kernel
theorem dL_refused_785 : decode cL_refused 785 = .ok (.if_icmp .ne 40, 3) := by decide +kernel
theorem dL_refused_788 : decode cL_refused 788 = .ok (.aload_n 0, 1) := by decide +kernel
theorem dL_refused_789 : decode cL_refused 789 = .ok (.bipush 31, 2) := by decide +kernel
theorem dL_refused_791 : decode cL_refused 791 = .ok (.invokevirtual 17, 3) := by decide +kernel
theorem dL_refused_794 : decode cL_refused 794 = .ok (.bipush (-2), 2) := by decide +kernel
theorem dL_refused_796 : decode cL_refused 796 = .ok (.if_icmp .ne 29, 3) := by decide +kernel
theorem dL_refused_799 : decode cL_refused 799 = .ok (.aload_n 0, 1) := by decide +kernel
theorem dL_refused_800 : decode cL_refused 800 = .ok (.bipush 127, 2) := by decide +kernel
theorem dL_refused_802 : decode cL_refused 802 = .ok (.invokevirtual 17, 3) := by decide +kernel
theorem dL_refused_805 : decode cL_refused 805 = .ok (.bipush (-2), 2) := by decide +kernel
theorem dL_refused_807 : decode cL_refused 807 = .ok (.if_icmp .ne 18, 3) := by decide +kernel
theorem dL_refused_810 : decode cL_refused 810 = .ok (.aload_n 0, 1) := by decide +kernel
theorem dL_refused_811 : decode cL_refused 811 = .ok (.iconst 4, 1) := by decide +kernel
theorem dL_refused_812 : decode cL_refused 812 = .ok (.iconst 4, 1) := by decide +kernel
