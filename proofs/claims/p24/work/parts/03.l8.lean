theorem dL_step_633 : decode cL_step 633 = .ok (.aload_n 0, 1) := by decide +kernel
theorem dL_step_634 : decode cL_step 634 = .ok (.aload 6, 2) := by decide +kernel
theorem dL_step_636 : decode cL_step 636 = .ok (.iconst 4, 1) := by decide +kernel
theorem dL_step_637 : decode cL_step 637 = .ok (.iaload, 1) := by decide +kernel
theorem dL_step_638 : decode cL_step 638 = .ok (.invokevirtual 89, 3) := by decide +kernel
theorem dL_step_641 : decode cL_step 641 = .ok (.iload 8, 2) := by decide +kernel
theorem dL_step_643 : decode cL_step 643 = .ok (.if_icmp .ne 7, 3) := by decide +kernel
theorem dL_step_646 : decode cL_step 646 = .ok (.iconst 1, 1) := by decide +kernel
theorem dL_step_647 : decode cL_step 647 = .ok (.goto 4, 3) := by decide +kernel
theorem dL_step_650 : decode cL_step 650 = .ok (.iconst 0, 1) := by decide +kernel
theorem dL_step_651 : decode cL_step 651 = .ok (.ireturn, 1) := by decide +kernel
theorem dL_step_652 : decode cL_step 652 = .ok (.iload_n 1, 1) := by decide +kernel
theorem dL_step_653 : decode cL_step 653 = .ok (.bipush 9, 2) := by decide +kernel
theorem dL_step_655 : decode cL_step 655 = .ok (.if_icmp .ne 36, 3) := by decide +kernel
theorem dL_step_658 : decode cL_step 658 = .ok (.aload 6, 2) := by decide +kernel
theorem dL_step_660 : decode cL_step 660 = .ok (.iconst 5, 1) := by decide +kernel
theorem dL_step_661 : decode cL_step 661 = .ok (.iload_n 2, 1) := by decide +kernel
theorem dL_step_662 : decode cL_step 662 = .ok (.bipush 12, 2) := by decide +kernel
theorem dL_step_664 : decode cL_step 664 = .ok (.irem, 1) := by decide +kernel
theorem dL_step_665 : decode cL_step 665 = .ok (.iastore, 1) := by decide +kernel
theorem dL_step_666 : decode cL_step 666 = .ok (.aload 6, 2) := by decide +kernel
theorem dL_step_668 : decode cL_step 668 = .ok (.bipush 6, 2) := by decide +kernel
theorem dL_step_670 : decode cL_step 670 = .ok (.iload_n 3, 1) := by decide +kernel
theorem dL_step_671 : decode cL_step 671 = .ok (.sipush 300, 3) := by decide +kernel
theorem dL_step_674 : decode cL_step 674 = .ok (.irem, 1) := by decide +kernel
theorem dL_step_675 : decode cL_step 675 = .ok (.iastore, 1) := by decide +kernel
theorem dL_step_676 : decode cL_step 676 = .ok (.aload_n 0, 1) := by decide +kernel
theorem dL_step_677 : decode cL_step 677 = .ok (.aload 6, 2) := by decide +kernel
theorem dL_step_679 : decode cL_step 679 = .ok (.iconst 5, 1) := by decide +kernel
theorem dL_step_680 : decode cL_step 680 = .ok (.iaload, 1) := by decide +kernel
theorem dL_step_681 : decode cL_step 681 = .ok (.aload 6, 2) := by decide +kernel
theorem dL_step_683 : decode cL_step 683 = .ok (.bipush 6, 2) := by decide +kernel
theorem dL_step_685 : decode cL_step 685 = .ok (.iaload, 1) := by decide +kernel
theorem dL_step_686 : decode cL_step 686 = .ok (.invokevirtual 119, 3) := by decide +kernel
theorem dL_step_689 : decode cL_step 689 = .ok (.iconst 1, 1) := by decide +kernel
theorem dL_step_690 : decode cL_step 690 = .ok (.ireturn, 1) := by decide +kernel
theorem dL_step_691 : decode cL_step 691 = .ok (.iload_n 1, 1) := by decide +kernel
theorem dL_step_692 : decode cL_step 692 = .ok (.bipush 10, 2) := by decide +kernel
theorem dL_step_694 : decode cL_step 694 = .ok (.if_icmp .ne 94, 3) := by decide +kernel
theorem dL_step_697 : decode cL_step 697 = .ok (.iload_n 2, 1) := by decide +kernel
theorem dL_step_698 : decode cL_step 698 = .ok (.bipush 6, 2) := by decide +kernel
theorem dL_step_700 : decode cL_step 700 = .ok (.irem, 1) := by decide +kernel
theorem dL_step_701 : decode cL_step 701 = .ok (.istore 8, 2) := by decide +kernel
theorem dL_step_703 : decode cL_step 703 = .ok (.aload 6, 2) := by decide +kernel
theorem dL_step_705 : decode cL_step 705 = .ok (.bipush 7, 2) := by decide +kernel
theorem dL_step_707 : decode cL_step 707 = .ok (.iaload, 1) := by decide +kernel
theorem dL_step_708 : decode cL_step 708 = .ok (.iload 8, 2) := by decide +kernel
theorem dL_step_710 : decode cL_step 710 = .ok (.ishr, 1) := by decide +kernel
theorem dL_step_711 : decode cL_step 711 = .ok (.iconst 1, 1) := by decide +kernel
theorem dL_step_712 : decode cL_step 712 = .ok (.iand, 1) := by decide +kernel
theorem dL_step_713 : decode cL_step 713 = .ok (.iconst 1, 1) := by decide +kernel
theorem dL_step_714 : decode cL_step 714 = .ok (.if_icmp .ne 7, 3) := by decide +kernel
theorem dL_step_717 : decode cL_step 717 = .ok (.iconst 1, 1) := by decide +kernel
theorem dL_step_718 : decode cL_step 718 = .ok (.goto 4, 3) := by decide +kernel
theorem dL_step_721 : decode cL_step 721 = .ok (.iconst 0, 1) := by decide +kernel
theorem dL_step_722 : decode cL_step 722 = .ok (.istore 9, 2) := by decide +kernel
theorem dL_step_724 : decode cL_step 724 = .ok (.aload 6, 2) := by decide +kernel
theorem dL_step_726 : decode cL_step 726 = .ok (.bipush 7, 2) := by decide +kernel
theorem dL_step_728 : decode cL_step 728 = .ok (.iload_n 3, 1) := by decide +kernel
theorem dL_step_729 : decode cL_step 729 = .ok (.iconst 2, 1) := by decide +kernel
theorem dL_step_730 : decode cL_step 730 = .ok (.irem, 1) := by decide +kernel
theorem dL_step_731 : decode cL_step 731 = .ok (.ifCond .ne 16, 3) := by decide +kernel
theorem dL_step_734 : decode cL_step 734 = .ok (.aload 6, 2) := by decide +kernel
theorem dL_step_736 : decode cL_step 736 = .ok (.bipush 7, 2) := by decide +kernel
theorem dL_step_738 : decode cL_step 738 = .ok (.iaload, 1) := by decide +kernel
theorem dL_step_739 : decode cL_step 739 = .ok (.iconst 1, 1) := by decide +kernel
theorem dL_step_740 : decode cL_step 740 = .ok (.iload 8, 2) := by decide +kernel
theorem dL_step_742 : decode cL_step 742 = .ok (.ishl, 1) := by decide +kernel
theorem dL_step_743 : decode cL_step 743 = .ok (.ior, 1) := by decide +kernel
theorem dL_step_744 : decode cL_step 744 = .ok (.goto 15, 3) := by decide +kernel
theorem dL_step_747 : decode cL_step 747 = .ok (.aload 6, 2) := by decide +kernel
theorem dL_step_749 : decode cL_step 749 = .ok (.bipush 7, 2) := by decide +kernel
theorem dL_step_751 : decode cL_step 751 = .ok (.iaload, 1) := by decide +kernel
theorem dL_step_752 : decode cL_step 752 = .ok (.iconst 1, 1) := by decide +kernel
theorem dL_step_753 : decode cL_step 753 = .ok (.iload 8, 2) := by decide +kernel
theorem dL_step_755 : decode cL_step 755 = .ok (.ishl, 1) := by decide +kernel
theorem dL_step_756 : decode cL_step 756 = .ok (.iconst (-1), 1) := by decide +kernel
theorem dL_step_757 : decode cL_step 757 = .ok (.ixor, 1) := by decide +kernel
theorem dL_step_758 : decode cL_step 758 = .ok (.iand, 1) := by decide +kernel
theorem dL_step_759 : decode cL_step 759 = .ok (.iastore, 1) := by decide +kernel
theorem dL_step_760 : decode cL_step 760 = .ok (.aload_n 0, 1) := by decide +kernel
theorem dL_step_761 : decode cL_step 761 = .ok (.iload 8, 2) := by decide +kernel
theorem dL_step_763 : decode cL_step 763 = .ok (.iload_n 3, 1) := by decide +kernel
theorem dL_step_764 : decode cL_step 764 = .ok (.iconst 2, 1) := by decide +kernel
theorem dL_step_765 : decode cL_step 765 = .ok (.irem, 1) := by decide +kernel
theorem dL_step_766 : decode cL_step 766 = .ok (.ifCond .ne 7, 3) := by decide +kernel
theorem dL_step_769 : decode cL_step 769 = .ok (.iconst 1, 1) := by decide +kernel
theorem dL_step_770 : decode cL_step 770 = .ok (.goto 4, 3) := by decide +kernel
theorem dL_step_773 : decode cL_step 773 = .ok (.iconst 0, 1) := by decide +kernel
theorem dL_step_774 : decode cL_step 774 = .ok (.invokevirtual 122, 3) := by decide +kernel
theorem dL_step_777 : decode cL_step 777 = .ok (.iload 9, 2) := by decide +kernel
theorem dL_step_779 : decode cL_step 779 = .ok (.if_icmp .ne 7, 3) := by decide +kernel
theorem dL_step_782 : decode cL_step 782 = .ok (.iconst 1, 1) := by decide +kernel
theorem dL_step_783 : decode cL_step 783 = .ok (.goto 4, 3) := by decide +kernel
theorem dL_step_786 : decode cL_step 786 = .ok (.iconst 0, 1) := by decide +kernel
theorem dL_step_787 : decode cL_step 787 = .ok (.ireturn, 1) := by decide +kernel
theorem dL_step_788 : decode cL_step 788 = .ok (.aload 7, 2) := by decide +kernel
theorem dL_step_790 : decode cL_step 790 = .ok (.iload_n 2, 1) := by decide +kernel
theorem dL_step_791 : decode cL_step 791 = .ok (.bipush 6, 2) := by decide +kernel
theorem dL_step_793 : decode cL_step 793 = .ok (.irem, 1) := by decide +kernel
theorem dL_step_794 : decode cL_step 794 = .ok (.iaload, 1) := by decide +kernel
theorem dL_step_795 : decode cL_step 795 = .ok (.iconst 1, 1) := by decide +kernel
theorem dL_step_796 : decode cL_step 796 = .ok (.isub, 1) := by decide +kernel
theorem dL_step_797 : decode cL_step 797 = .ok (.istore 8, 2) := by decide +kernel
theorem dL_step_799 : decode cL_step 799 = .ok (.aload 7, 2) := by decide +kernel
theorem dL_step_801 : decode cL_step 801 = .ok (.iload_n 2, 1) := by decide +kernel
theorem dL_step_802 : decode cL_step 802 = .ok (.bipush 6, 2) := by decide +kernel
theorem dL_step_804 : decode cL_step 804 = .ok (.irem, 1) := by decide +kernel
theorem dL_step_805 : decode cL_step 805 = .ok (.iload_n 3, 1) := by decide +kernel
theorem dL_step_806 : decode cL_step 806 = .ok (.bipush 7, 2) := by decide +kernel
theorem dL_step_808 : decode cL_step 808 = .ok (.irem, 1) := by decide +kernel
theorem dL_step_809 : decode cL_step 809 = .ok (.iastore, 1) := by decide +kernel
theorem dL_step_810 : decode cL_step 810 = .ok (.aload_n 0, 1) := by decide +kernel
theorem dL_step_811 : decode cL_step 811 = .ok (.iload_n 2, 1) := by decide +kernel
theorem dL_step_812 : decode cL_step 812 = .ok (.bipush 6, 2) := by decide +kernel
theorem dL_step_814 : decode cL_step 814 = .ok (.irem, 1) := by decide +kernel
theorem dL_step_815 : decode cL_step 815 = .ok (.iload_n 3, 1) := by decide +kernel
theorem dL_step_816 : decode cL_step 816 = .ok (.bipush 7, 2) := by decide +kernel
theorem dL_step_818 : decode cL_step 818 = .ok (.irem, 1) := by decide +kernel
theorem dL_step_819 : decode cL_step 819 = .ok (.iconst 1, 1) := by decide +kernel
theorem dL_step_820 : decode cL_step 820 = .ok (.isub, 1) := by decide +kernel
theorem dL_step_821 : decode cL_step 821 = .ok (.invokevirtual 126, 3) := by decide +kernel
theorem dL_step_824 : decode cL_step 824 = .ok (.iload 8, 2) := by decide +kernel
theorem dL_step_826 : decode cL_step 826 = .ok (.if_icmp .ne 7, 3) := by decide +kernel
theorem dL_step_829 : decode cL_step 829 = .ok (.iconst 1, 1) := by decide +kernel
theorem dL_step_830 : decode cL_step 830 = .ok (.goto 4, 3) := by decide +kernel
theorem dL_step_833 : decode cL_step 833 = .ok (.iconst 0, 1) := by decide +kernel
theorem dL_step_834 : decode cL_step 834 = .ok (.ireturn, 1) := by decide +kernel
