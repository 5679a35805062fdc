theorem dL_acts_619 : decode cL_acts 619 = .ok (.ifCond .lt 17, 3) := by decide +kernel
theorem dL_acts_622 : decode cL_acts 622 = .ok (.aload_n 0, 1) := by decide +kernel
theorem dL_acts_623 : decode cL_acts 623 = .ok (.iconst 4, 1) := by decide +kernel
theorem dL_acts_624 : decode cL_acts 624 = .ok (.invokevirtual 61, 3) := by decide +kernel
theorem dL_acts_627 : decode cL_acts 627 = .ok (.iload 9, 2) := by decide +kernel
theorem dL_acts_629 : decode cL_acts 629 = .ok (.if_icmp .ne 7, 3) := by decide +kernel
theorem dL_acts_632 : decode cL_acts 632 = .ok (.iconst 1, 1) := by decide +kernel
theorem dL_acts_633 : decode cL_acts 633 = .ok (.goto 4, 3) := by decide +kernel
theorem dL_acts_636 : decode cL_acts 636 = .ok (.iconst 0, 1) := by decide +kernel
theorem dL_acts_637 : decode cL_acts 637 = .ok (.ireturn, 1) := by decide +kernel
theorem dL_acts_638 : decode cL_acts 638 = .ok (.iload_n 3, 1) := by decide +kernel
theorem dL_acts_639 : decode cL_acts 639 = .ok (.bipush 18, 2) := by decide +kernel
theorem dL_acts_641 : decode cL_acts 641 = .ok (.if_icmp .ne 98, 3) := by decide +kernel
theorem dL_acts_644 : decode cL_acts 644 = .ok (.aload_n 0, 1) := by decide +kernel
theorem dL_acts_645 : decode cL_acts 645 = .ok (.invokestatic 125, 3) := by decide +kernel
theorem dL_acts_648 : decode cL_acts 648 = .ok (.lstore 6, 2) := by decide +kernel
theorem dL_acts_650 : decode cL_acts 650 = .ok (.aload_n 0, 1) := by decide +kernel
theorem dL_acts_651 : decode cL_acts 651 = .ok (.bipush 9, 2) := by decide +kernel
theorem dL_acts_653 : decode cL_acts 653 = .ok (.invokevirtual 61, 3) := by decide +kernel
theorem dL_acts_656 : decode cL_acts 656 = .ok (.istore 8, 2) := by decide +kernel
theorem dL_acts_658 : decode cL_acts 658 = .ok (.aload_n 0, 1) := by decide +kernel
theorem dL_acts_659 : decode cL_acts 659 = .ok (.iload 4, 2) := by decide +kernel
theorem dL_acts_661 : decode cL_acts 661 = .ok (.invokestatic 95, 3) := by decide +kernel
theorem dL_acts_664 : decode cL_acts 664 = .ok (.istore 9, 2) := by decide +kernel
theorem dL_acts_666 : decode cL_acts 666 = .ok (.aload_n 0, 1) := by decide +kernel
theorem dL_acts_667 : decode cL_acts 667 = .ok (.iload 4, 2) := by decide +kernel
theorem dL_acts_669 : decode cL_acts 669 = .ok (.bipush 77, 2) := by decide +kernel
theorem dL_acts_671 : decode cL_acts 671 = .ok (.invokestatic 100, 3) := by decide +kernel
theorem dL_acts_674 : decode cL_acts 674 = .ok (.istore 10, 2) := by decide +kernel
theorem dL_acts_676 : decode cL_acts 676 = .ok (.iload 10, 2) := by decide +kernel
theorem dL_acts_678 : decode cL_acts 678 = .ok (.sipush (-2902), 3) := by decide +kernel
theorem dL_acts_681 : decode cL_acts 681 = .ok (.if_icmp .eq 52, 3) := by decide +kernel
theorem dL_acts_684 : decode cL_acts 684 = .ok (.aload_n 0, 1) := by decide +kernel
theorem dL_acts_685 : decode cL_acts 685 = .ok (.invokestatic 125, 3) := by decide +kernel
theorem dL_acts_688 : decode cL_acts 688 = .ok (.lload 6, 2) := by decide +kernel
theorem dL_acts_690 : decode cL_acts 690 = .ok (.lcmp, 1) := by decide +kernel
theorem dL_acts_691 : decode cL_acts 691 = .ok (.ifCond .ne 46, 3) := by decide +kernel
theorem dL_acts_694 : decode cL_acts 694 = .ok (.aload_n 0, 1) := by decide +kernel
theorem dL_acts_695 : decode cL_acts 695 = .ok (.invokevirtual 53, 3) := by decide +kernel
theorem dL_acts_698 : decode cL_acts 698 = .ok (.ifCond .lt 39, 3) := by decide +kernel
theorem dL_acts_701 : decode cL_acts 701 = .ok (.aload_n 0, 1) := by decide +kernel
theorem dL_acts_702 : decode cL_acts 702 = .ok (.invokestatic 125, 3) := by decide +kernel
theorem dL_acts_705 : decode cL_acts 705 = .ok (.lload 6, 2) := by decide +kernel
theorem dL_acts_707 : decode cL_acts 707 = .ok (.lcmp, 1) := by decide +kernel
theorem dL_acts_708 : decode cL_acts 708 = .ok (.ifCond .ne 29, 3) := by decide +kernel
theorem dL_acts_711 : decode cL_acts 711 = .ok (.aload_n 0, 1) := by decide +kernel
theorem dL_acts_712 : decode cL_acts 712 = .ok (.bipush 9, 2) := by decide +kernel
theorem dL_acts_714 : decode cL_acts 714 = .ok (.invokevirtual 61, 3) := by decide +kernel
theorem dL_acts_717 : decode cL_acts 717 = .ok (.iload 8, 2) := by decide +kernel
theorem dL_acts_719 : decode cL_acts 719 = .ok (.if_icmp .ne 18, 3) := by decide +kernel
theorem dL_acts_722 : decode cL_acts 722 = .ok (.aload_n 0, 1) := by decide +kernel
theorem dL_acts_723 : decode cL_acts 723 = .ok (.iload 4, 2) := by decide +kernel
theorem dL_acts_725 : decode cL_acts 725 = .ok (.invokestatic 95, 3) := by decide +kernel
theorem dL_acts_728 : decode cL_acts 728 = .ok (.iload 9, 2) := by decide +kernel
theorem dL_acts_730 : decode cL_acts 730 = .ok (.if_icmp .ne 7, 3) := by decide +kernel
theorem dL_acts_733 : decode cL_acts 733 = .ok (.iconst 1, 1) := by decide +kernel
theorem dL_acts_734 : decode cL_acts 734 = .ok (.goto 4, 3) := by decide +kernel
theorem dL_acts_737 : decode cL_acts 737 = .ok (.iconst 0, 1) := by decide +kernel
theorem dL_acts_738 : decode cL_acts 738 = .ok (.ireturn, 1) := by decide +kernel
theorem dL_acts_739 : decode cL_acts 739 = .ok (.aload_n 0, 1) := by decide +kernel
theorem dL_acts_740 : decode cL_acts 740 = .ok (.bipush 100, 2) := by decide +kernel
theorem dL_acts_742 : decode cL_acts 742 = .ok (.iconst 0, 1) := by decide +kernel
theorem dL_acts_743 : decode cL_acts 743 = .ok (.invokestatic 100, 3) := by decide +kernel
theorem dL_acts_746 : decode cL_acts 746 = .ok (.sipush (-2901), 3) := by decide +kernel
theorem dL_acts_749 : decode cL_acts 749 = .ok (.if_icmp .ne 75, 3) := by decide +kernel
theorem dL_acts_752 : decode cL_acts 752 = .ok (.aload_n 0, 1) := by decide +kernel
theorem dL_acts_753 : decode cL_acts 753 = .ok (.iconst (-1), 1) := by decide +kernel
theorem dL_acts_754 : decode cL_acts 754 = .ok (.invokestatic 111, 3) := by decide +kernel
theorem dL_acts_757 : decode cL_acts 757 = .ok (.sipush (-2901), 3) := by decide +kernel
theorem dL_acts_760 : decode cL_acts 760 = .ok (.if_icmp .ne 64, 3) := by decide +kernel
theorem dL_acts_763 : decode cL_acts 763 = .ok (.aload_n 0, 1) := by decide +kernel
theorem dL_acts_764 : decode cL_acts 764 = .ok (.iconst 4, 1) := by decide +kernel
theorem dL_acts_765 : decode cL_acts 765 = .ok (.invokestatic 105, 3) := by decide +kernel
theorem dL_acts_768 : decode cL_acts 768 = .ok (.sipush (-2901), 3) := by decide +kernel
theorem dL_acts_771 : decode cL_acts 771 = .ok (.if_icmp .ne 53, 3) := by decide +kernel
theorem dL_acts_774 : decode cL_acts 774 = .ok (.aload_n 0, 1) := by decide +kernel
theorem dL_acts_775 : decode cL_acts 775 = .ok (.iconst 4, 1) := by decide +kernel
theorem dL_acts_776 : decode cL_acts 776 = .ok (.invokestatic 123, 3) := by decide +kernel
theorem dL_acts_779 : decode cL_acts 779 = .ok (.sipush (-2903), 3) := by decide +kernel
theorem dL_acts_782 : decode cL_acts 782 = .ok (.if_icmp .ne 42, 3) := by decide +kernel
theorem dL_acts_785 : decode cL_acts 785 = .ok (.aload_n 0, 1) := by decide +kernel
theorem dL_acts_786 : decode cL_acts 786 = .ok (.iconst (-1), 1) := by decide +kernel
theorem dL_acts_787 : decode cL_acts 787 = .ok (.iconst 0, 1) := by decide +kernel
theorem dL_acts_788 : decode cL_acts 788 = .ok (.invokestatic 80, 3) := by decide +kernel
theorem dL_acts_791 : decode cL_acts 791 = .ok (.sipush (-2903), 3) := by decide +kernel
theorem dL_acts_794 : decode cL_acts 794 = .ok (.if_icmp .ne 30, 3) := by decide +kernel
theorem dL_acts_797 : decode cL_acts 797 = .ok (.aload_n 0, 1) := by decide +kernel
theorem dL_acts_798 : decode cL_acts 798 = .ok (.iconst 4, 1) := by decide +kernel
theorem dL_acts_799 : decode cL_acts 799 = .ok (.invokestatic 76, 3) := by decide +kernel
theorem dL_acts_802 : decode cL_acts 802 = .ok (.sipush (-2903), 3) := by decide +kernel
theorem dL_acts_805 : decode cL_acts 805 = .ok (.if_icmp .ne 19, 3) := by decide +kernel
theorem dL_acts_808 : decode cL_acts 808 = .ok (.aload_n 0, 1) := by decide +kernel
theorem dL_acts_809 : decode cL_acts 809 = .ok (.bipush 100, 2) := by decide +kernel
theorem dL_acts_811 : decode cL_acts 811 = .ok (.invokestatic 93, 3) := by decide +kernel
theorem dL_acts_814 : decode cL_acts 814 = .ok (.sipush (-2901), 3) := by decide +kernel
theorem dL_acts_817 : decode cL_acts 817 = .ok (.if_icmp .ne 7, 3) := by decide +kernel
theorem dL_acts_820 : decode cL_acts 820 = .ok (.iconst 1, 1) := by decide +kernel
theorem dL_acts_821 : decode cL_acts 821 = .ok (.goto 4, 3) := by decide +kernel
theorem dL_acts_824 : decode cL_acts 824 = .ok (.iconst 0, 1) := by decide +kernel
theorem dL_acts_825 : decode cL_acts 825 = .ok (.ireturn, 1) := by decide +kernel
theorem dL_law_0 : decode cL_law 0 = .ok (.new 10, 3) := by decide +kernel
theorem dL_law_3 : decode cL_law 3 = .ok (.dup, 1) := by decide +kernel
theorem dL_law_4 : decode cL_law 4 = .ok (.invokespecial 129, 3) := by decide +kernel
theorem dL_law_7 : decode cL_law 7 = .ok (.astore_n 1, 1) := by decide +kernel
theorem dL_law_8 : decode cL_law 8 = .ok (.aload_n 1, 1) := by decide +kernel
theorem dL_law_9 : decode cL_law 9 = .ok (.invokestatic 130, 3) := by decide +kernel
theorem dL_law_12 : decode cL_law 12 = .ok (.ifCond .eq 49, 3) := by decide +kernel
theorem dL_law_15 : decode cL_law 15 = .ok (.aload_n 1, 1) := by decide +kernel
theorem dL_law_16 : decode cL_law 16 = .ok (.invokestatic 134, 3) := by decide +kernel
theorem dL_law_19 : decode cL_law 19 = .ok (.ifCond .eq 42, 3) := by decide +kernel
theorem dL_law_22 : decode cL_law 22 = .ok (.aload_n 1, 1) := by decide +kernel
theorem dL_law_23 : decode cL_law 23 = .ok (.invokestatic 137, 3) := by decide +kernel
theorem dL_law_26 : decode cL_law 26 = .ok (.ifCond .eq 35, 3) := by decide +kernel
theorem dL_law_29 : decode cL_law 29 = .ok (.aload_n 1, 1) := by decide +kernel
theorem dL_law_30 : decode cL_law 30 = .ok (.invokestatic 140, 3) := by decide +kernel
theorem dL_law_33 : decode cL_law 33 = .ok (.sipush (-2902), 3) := by decide +kernel
theorem dL_law_36 : decode cL_law 36 = .ok (.if_icmp .ne 25, 3) := by decide +kernel
theorem dL_law_39 : decode cL_law 39 = .ok (.aload_n 1, 1) := by decide +kernel
theorem dL_law_40 : decode cL_law 40 = .ok (.invokestatic 119, 3) := by decide +kernel
theorem dL_law_43 : decode cL_law 43 = .ok (.sipush (-2902), 3) := by decide +kernel
theorem dL_law_46 : decode cL_law 46 = .ok (.if_icmp .ne 15, 3) := by decide +kernel
theorem dL_law_49 : decode cL_law 49 = .ok (.aload_n 1, 1) := by decide +kernel
theorem dL_law_50 : decode cL_law 50 = .ok (.invokevirtual 23, 3) := by decide +kernel
theorem dL_law_53 : decode cL_law 53 = .ok (.iconst 1, 1) := by decide +kernel
theorem dL_law_54 : decode cL_law 54 = .ok (.if_icmp .ne 7, 3) := by decide +kernel
theorem dL_law_57 : decode cL_law 57 = .ok (.iconst 1, 1) := by decide +kernel
theorem dL_law_58 : decode cL_law 58 = .ok (.goto 4, 3) := by decide +kernel
theorem dL_law_61 : decode cL_law 61 = .ok (.iconst 0, 1) := by decide +kernel
theorem dL_law_62 : decode cL_law 62 = .ok (.istore_n 2, 1) := by decide +kernel
theorem dL_law_63 : decode cL_law 63 = .ok (.iconst 0, 1) := by decide +kernel
theorem dL_law_64 : decode cL_law 64 = .ok (.istore_n 3, 1) := by decide +kernel
theorem dL_law_65 : decode cL_law 65 = .ok (.iload_n 3, 1) := by decide +kernel
theorem dL_law_66 : decode cL_law 66 = .ok (.bipush 60, 2) := by decide +kernel
theorem dL_law_68 : decode cL_law 68 = .ok (.if_icmp .ge 135, 3) := by decide +kernel
theorem dL_law_71 : decode cL_law 71 = .ok (.iload_n 2, 1) := by decide +kernel
theorem dL_law_72 : decode cL_law 72 = .ok (.ifCond .eq 131, 3) := by decide +kernel
theorem dL_law_75 : decode cL_law 75 = .ok (.aload_n 0, 1) := by decide +kernel
theorem dL_law_76 : decode cL_law 76 = .ok (.iconst 2, 1) := by decide +kernel
theorem dL_law_77 : decode cL_law 77 = .ok (.iload_n 3, 1) := by decide +kernel
theorem dL_law_78 : decode cL_law 78 = .ok (.imul, 1) := by decide +kernel
theorem dL_law_79 : decode cL_law 79 = .ok (.invokestatic 142, 3) := by decide +kernel
theorem dL_law_82 : decode cL_law 82 = .ok (.istore 4, 2) := by decide +kernel
theorem dL_law_84 : decode cL_law 84 = .ok (.aload_n 1, 1) := by decide +kernel
theorem dL_law_85 : decode cL_law 85 = .ok (.invokestatic 125, 3) := by decide +kernel
theorem dL_law_88 : decode cL_law 88 = .ok (.lstore 5, 2) := by decide +kernel
theorem dL_law_90 : decode cL_law 90 = .ok (.iload_n 3, 1) := by decide +kernel
theorem dL_law_91 : decode cL_law 91 = .ok (.bipush 8, 2) := by decide +kernel
theorem dL_law_93 : decode cL_law 93 = .ok (.if_icmp .ge 7, 3) := by decide +kernel
theorem dL_law_96 : decode cL_law 96 = .ok (.iconst 0, 1) := by decide +kernel
theorem dL_law_97 : decode cL_law 97 = .ok (.goto 5, 3) := by decide +kernel
theorem dL_law_100 : decode cL_law 100 = .ok (.iload 4, 2) := by decide +kernel
theorem dL_law_102 : decode cL_law 102 = .ok (.bipush 20, 2) := by decide +kernel
theorem dL_law_104 : decode cL_law 104 = .ok (.invokestatic 102, 3) := by decide +kernel
theorem dL_law_107 : decode cL_law 107 = .ok (.istore 7, 2) := by decide +kernel
theorem dL_law_109 : decode cL_law 109 = .ok (.aload_n 1, 1) := by decide +kernel
theorem dL_law_110 : decode cL_law 110 = .ok (.iload_n 3, 1) := by decide +kernel
theorem dL_law_111 : decode cL_law 111 = .ok (.bipush 8, 2) := by decide +kernel
theorem dL_law_113 : decode cL_law 113 = .ok (.if_icmp .ge 17, 3) := by decide +kernel
theorem dL_law_116 : decode cL_law 116 = .ok (.iload 4, 2) := by decide +kernel
theorem dL_law_118 : decode cL_law 118 = .ok (.ldc 8, 2) := by decide +kernel
theorem dL_law_120 : decode cL_law 120 = .ok (.iand, 1) := by decide +kernel
theorem dL_law_121 : decode cL_law 121 = .ok (.bipush 20, 2) := by decide +kernel
theorem dL_law_123 : decode cL_law 123 = .ok (.idiv, 1) := by decide +kernel
theorem dL_law_124 : decode cL_law 124 = .ok (.bipush 20, 2) := by decide +kernel
theorem dL_law_126 : decode cL_law 126 = .ok (.imul, 1) := by decide +kernel
theorem dL_law_127 : decode cL_law 127 = .ok (.goto 5, 3) := by decide +kernel
theorem dL_law_130 : decode cL_law 130 = .ok (.iload 4, 2) := by decide +kernel
theorem dL_law_132 : decode cL_law 132 = .ok (.aload_n 0, 1) := by decide +kernel
theorem dL_law_133 : decode cL_law 133 = .ok (.iconst 2, 1) := by decide +kernel
theorem dL_law_134 : decode cL_law 134 = .ok (.iload_n 3, 1) := by decide +kernel
theorem dL_law_135 : decode cL_law 135 = .ok (.imul, 1) := by decide +kernel
theorem dL_law_136 : decode cL_law 136 = .ok (.iconst 1, 1) := by decide +kernel
theorem dL_law_137 : decode cL_law 137 = .ok (.iadd, 1) := by decide +kernel
theorem dL_law_138 : decode cL_law 138 = .ok (.invokestatic 142, 3) := by decide +kernel
theorem dL_law_141 : decode cL_law 141 = .ok (.invokestatic 146, 3) := by decide +kernel
theorem dL_law_144 : decode cL_law 144 = .ok (.ifCond .eq 51, 3) := by decide +kernel
theorem dL_law_147 : decode cL_law 147 = .ok (.aload_n 1, 1) := by decide +kernel
theorem dL_law_148 : decode cL_law 148 = .ok (.invokestatic 130, 3) := by decide +kernel
theorem dL_law_151 : decode cL_law 151 = .ok (.ifCond .eq 44, 3) := by decide +kernel
theorem dL_law_154 : decode cL_law 154 = .ok (.aload_n 1, 1) := by decide +kernel
theorem dL_law_155 : decode cL_law 155 = .ok (.invokestatic 134, 3) := by decide +kernel
theorem dL_law_158 : decode cL_law 158 = .ok (.ifCond .eq 37, 3) := by decide +kernel
theorem dL_law_161 : decode cL_law 161 = .ok (.iload_n 3, 1) := by decide +kernel
theorem dL_law_162 : decode cL_law 162 = .ok (.iconst 2, 1) := by decide +kernel
theorem dL_law_163 : decode cL_law 163 = .ok (.irem, 1) := by decide +kernel
theorem dL_law_164 : decode cL_law 164 = .ok (.ifCond .eq 10, 3) := by decide +kernel
theorem dL_law_167 : decode cL_law 167 = .ok (.aload_n 1, 1) := by decide +kernel
theorem dL_law_168 : decode cL_law 168 = .ok (.invokestatic 137, 3) := by decide +kernel
theorem dL_law_171 : decode cL_law 171 = .ok (.ifCond .eq 24, 3) := by decide +kernel
theorem dL_law_174 : decode cL_law 174 = .ok (.iload 7, 2) := by decide +kernel
theorem dL_law_176 : decode cL_law 176 = .ok (.bipush 11, 2) := by decide +kernel
theorem dL_law_178 : decode cL_law 178 = .ok (.if_icmp .gt 13, 3) := by decide +kernel
theorem dL_law_181 : decode cL_law 181 = .ok (.aload_n 1, 1) := by decide +kernel
theorem dL_law_182 : decode cL_law 182 = .ok (.invokestatic 125, 3) := by decide +kernel
theorem dL_law_185 : decode cL_law 185 = .ok (.lload 5, 2) := by decide +kernel
theorem dL_law_187 : decode cL_law 187 = .ok (.lcmp, 1) := by decide +kernel
theorem dL_law_188 : decode cL_law 188 = .ok (.ifCond .ne 7, 3) := by decide +kernel
theorem dL_law_191 : decode cL_law 191 = .ok (.iconst 1, 1) := by decide +kernel
theorem dL_law_192 : decode cL_law 192 = .ok (.goto 4, 3) := by decide +kernel
theorem dL_law_195 : decode cL_law 195 = .ok (.iconst 0, 1) := by decide +kernel
theorem dL_law_196 : decode cL_law 196 = .ok (.istore_n 2, 1) := by decide +kernel
theorem dL_law_197 : decode cL_law 197 = .ok (.iinc 3 1, 3) := by decide +kernel
theorem dL_law_200 : decode cL_law 200 = .ok (.goto (-135), 3) := by decide +kernel
theorem dL_law_203 : decode cL_law 203 = .ok (.iload_n 2, 1) := by decide +kernel
theorem dL_law_204 : decode cL_law 204 = .ok (.ireturn, 1) := by decide +kernel
