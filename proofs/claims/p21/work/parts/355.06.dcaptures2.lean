theorem dL_captures_610 : decode cL_captures 610 = .ok (.iconst 0, 1) := by decide +kernel
theorem dL_captures_611 : decode cL_captures 611 = .ok (.ireturn, 1) := by decide +kernel
theorem dL_captures_612 : decode cL_captures 612 = .ok (.aload_n 0, 1) := by decide +kernel
theorem dL_captures_613 : decode cL_captures 613 = .ok (.iconst 3, 1) := by decide +kernel
theorem dL_captures_614 : decode cL_captures 614 = .ok (.iconst 1, 1) := by decide +kernel
theorem dL_captures_615 : decode cL_captures 615 = .ok (.iconst 0, 1) := by decide +kernel
theorem dL_captures_616 : decode cL_captures 616 = .ok (.bipush 10, 2) := by decide +kernel
theorem dL_captures_618 : decode cL_captures 618 = .ok (.invokestatic 86, 3) := by decide +kernel
theorem dL_captures_621 : decode cL_captures 621 = .ok (.ifCond .eq 124, 3) := by decide +kernel
theorem dL_captures_624 : decode cL_captures 624 = .ok (.aload_n 0, 1) := by decide +kernel
theorem dL_captures_625 : decode cL_captures 625 = .ok (.iconst 3, 1) := by decide +kernel
theorem dL_captures_626 : decode cL_captures 626 = .ok (.iconst 0, 1) := by decide +kernel
theorem dL_captures_627 : decode cL_captures 627 = .ok (.invokevirtual 24, 3) := by decide +kernel
theorem dL_captures_630 : decode cL_captures 630 = .ok (.bipush 64, 2) := by decide +kernel
theorem dL_captures_632 : decode cL_captures 632 = .ok (.if_icmp .ne 113, 3) := by decide +kernel
theorem dL_captures_635 : decode cL_captures 635 = .ok (.aload_n 0, 1) := by decide +kernel
theorem dL_captures_636 : decode cL_captures 636 = .ok (.iconst 3, 1) := by decide +kernel
theorem dL_captures_637 : decode cL_captures 637 = .ok (.iconst 1, 1) := by decide +kernel
theorem dL_captures_638 : decode cL_captures 638 = .ok (.iconst 0, 1) := by decide +kernel
theorem dL_captures_639 : decode cL_captures 639 = .ok (.bipush 11, 2) := by decide +kernel
theorem dL_captures_641 : decode cL_captures 641 = .ok (.invokestatic 86, 3) := by decide +kernel
theorem dL_captures_644 : decode cL_captures 644 = .ok (.ifCond .eq 101, 3) := by decide +kernel
theorem dL_captures_647 : decode cL_captures 647 = .ok (.aload_n 0, 1) := by decide +kernel
theorem dL_captures_648 : decode cL_captures 648 = .ok (.iconst 2, 1) := by decide +kernel
theorem dL_captures_649 : decode cL_captures 649 = .ok (.iconst 4, 1) := by decide +kernel
theorem dL_captures_650 : decode cL_captures 650 = .ok (.iconst 2, 1) := by decide +kernel
theorem dL_captures_651 : decode cL_captures 651 = .ok (.bipush 38, 2) := by decide +kernel
theorem dL_captures_653 : decode cL_captures 653 = .ok (.invokestatic 86, 3) := by decide +kernel
theorem dL_captures_656 : decode cL_captures 656 = .ok (.ifCond .eq 89, 3) := by decide +kernel
theorem dL_captures_659 : decode cL_captures 659 = .ok (.aload_n 0, 1) := by decide +kernel
theorem dL_captures_660 : decode cL_captures 660 = .ok (.iconst 1, 1) := by decide +kernel
theorem dL_captures_661 : decode cL_captures 661 = .ok (.iconst 2, 1) := by decide +kernel
theorem dL_captures_662 : decode cL_captures 662 = .ok (.invokevirtual 24, 3) := by decide +kernel
theorem dL_captures_665 : decode cL_captures 665 = .ok (.bipush 58, 2) := by decide +kernel
theorem dL_captures_667 : decode cL_captures 667 = .ok (.if_icmp .ne 78, 3) := by decide +kernel
theorem dL_captures_670 : decode cL_captures 670 = .ok (.aload_n 0, 1) := by decide +kernel
theorem dL_captures_671 : decode cL_captures 671 = .ok (.invokevirtual 62, 3) := by decide +kernel
theorem dL_captures_674 : decode cL_captures 674 = .ok (.iconst 2, 1) := by decide +kernel
theorem dL_captures_675 : decode cL_captures 675 = .ok (.if_icmp .ne 70, 3) := by decide +kernel
theorem dL_captures_678 : decode cL_captures 678 = .ok (.aload_n 0, 1) := by decide +kernel
theorem dL_captures_679 : decode cL_captures 679 = .ok (.iconst 0, 1) := by decide +kernel
theorem dL_captures_680 : decode cL_captures 680 = .ok (.invokevirtual 43, 3) := by decide +kernel
theorem dL_captures_683 : decode cL_captures 683 = .ok (.bipush 64, 2) := by decide +kernel
theorem dL_captures_685 : decode cL_captures 685 = .ok (.if_icmp .ne 60, 3) := by decide +kernel
theorem dL_captures_688 : decode cL_captures 688 = .ok (.aload_n 0, 1) := by decide +kernel
theorem dL_captures_689 : decode cL_captures 689 = .ok (.iconst 1, 1) := by decide +kernel
theorem dL_captures_690 : decode cL_captures 690 = .ok (.invokevirtual 43, 3) := by decide +kernel
theorem dL_captures_693 : decode cL_captures 693 = .ok (.iconst 1, 1) := by decide +kernel
theorem dL_captures_694 : decode cL_captures 694 = .ok (.if_icmp .ne 51, 3) := by decide +kernel
theorem dL_captures_697 : decode cL_captures 697 = .ok (.aload_n 0, 1) := by decide +kernel
theorem dL_captures_698 : decode cL_captures 698 = .ok (.iconst 3, 1) := by decide +kernel
theorem dL_captures_699 : decode cL_captures 699 = .ok (.invokevirtual 43, 3) := by decide +kernel
theorem dL_captures_702 : decode cL_captures 702 = .ok (.bipush 8, 2) := by decide +kernel
theorem dL_captures_704 : decode cL_captures 704 = .ok (.if_icmp .ne 41, 3) := by decide +kernel
theorem dL_captures_707 : decode cL_captures 707 = .ok (.aload_n 0, 1) := by decide +kernel
theorem dL_captures_708 : decode cL_captures 708 = .ok (.iconst 1, 1) := by decide +kernel
theorem dL_captures_709 : decode cL_captures 709 = .ok (.invokevirtual 50, 3) := by decide +kernel
theorem dL_captures_712 : decode cL_captures 712 = .ok (.iconst 1, 1) := by decide +kernel
theorem dL_captures_713 : decode cL_captures 713 = .ok (.if_icmp .ne 32, 3) := by decide +kernel
theorem dL_captures_716 : decode cL_captures 716 = .ok (.aload_n 0, 1) := by decide +kernel
theorem dL_captures_717 : decode cL_captures 717 = .ok (.iconst 2, 1) := by decide +kernel
theorem dL_captures_718 : decode cL_captures 718 = .ok (.invokevirtual 50, 3) := by decide +kernel
theorem dL_captures_721 : decode cL_captures 721 = .ok (.sipush 155, 3) := by decide +kernel
theorem dL_captures_724 : decode cL_captures 724 = .ok (.if_icmp .ne 21, 3) := by decide +kernel
theorem dL_captures_727 : decode cL_captures 727 = .ok (.aload_n 0, 1) := by decide +kernel
theorem dL_captures_728 : decode cL_captures 728 = .ok (.iconst 1, 1) := by decide +kernel
theorem dL_captures_729 : decode cL_captures 729 = .ok (.iconst 2, 1) := by decide +kernel
theorem dL_captures_730 : decode cL_captures 730 = .ok (.iconst 2, 1) := by decide +kernel
theorem dL_captures_731 : decode cL_captures 731 = .ok (.invokevirtual 46, 3) := by decide +kernel
theorem dL_captures_734 : decode cL_captures 734 = .ok (.iconst 1, 1) := by decide +kernel
theorem dL_captures_735 : decode cL_captures 735 = .ok (.if_icmp .ne 10, 3) := by decide +kernel
theorem dL_captures_738 : decode cL_captures 738 = .ok (.aload_n 0, 1) := by decide +kernel
theorem dL_captures_739 : decode cL_captures 739 = .ok (.invokestatic 82, 3) := by decide +kernel
theorem dL_captures_742 : decode cL_captures 742 = .ok (.ifCond .ne 5, 3) := by decide +kernel
theorem dL_captures_745 : decode cL_captures 745 = .ok (.iconst 0, 1) := by decide +kernel
theorem dL_captures_746 : decode cL_captures 746 = .ok (.ireturn, 1) := by decide +kernel
theorem dL_captures_747 : decode cL_captures 747 = .ok (.aload_n 0, 1) := by decide +kernel
theorem dL_captures_748 : decode cL_captures 748 = .ok (.bipush 6, 2) := by decide +kernel
theorem dL_captures_750 : decode cL_captures 750 = .ok (.invokevirtual 7, 3) := by decide +kernel
theorem dL_captures_753 : decode cL_captures 753 = .ok (.bipush 6, 2) := by decide +kernel
theorem dL_captures_755 : decode cL_captures 755 = .ok (.if_icmp .ne 101, 3) := by decide +kernel
theorem dL_captures_758 : decode cL_captures 758 = .ok (.aload_n 0, 1) := by decide +kernel
theorem dL_captures_759 : decode cL_captures 759 = .ok (.invokevirtual 16, 3) := by decide +kernel
theorem dL_captures_762 : decode cL_captures 762 = .ok (.bipush 15, 2) := by decide +kernel
theorem dL_captures_764 : decode cL_captures 764 = .ok (.if_icmp .ne 92, 3) := by decide +kernel
theorem dL_captures_767 : decode cL_captures 767 = .ok (.aload_n 0, 1) := by decide +kernel
theorem dL_captures_768 : decode cL_captures 768 = .ok (.iconst 0, 1) := by decide +kernel
theorem dL_captures_769 : decode cL_captures 769 = .ok (.invokevirtual 13, 3) := by decide +kernel
theorem dL_captures_772 : decode cL_captures 772 = .ok (.bipush 121, 2) := by decide +kernel
theorem dL_captures_774 : decode cL_captures 774 = .ok (.if_icmp .ne 82, 3) := by decide +kernel
theorem dL_captures_777 : decode cL_captures 777 = .ok (.aload_n 0, 1) := by decide +kernel
theorem dL_captures_778 : decode cL_captures 778 = .ok (.iconst 1, 1) := by decide +kernel
theorem dL_captures_779 : decode cL_captures 779 = .ok (.iconst 2, 1) := by decide +kernel
theorem dL_captures_780 : decode cL_captures 780 = .ok (.invokevirtual 20, 3) := by decide +kernel
theorem dL_captures_783 : decode cL_captures 783 = .ok (.ifCond .ne 73, 3) := by decide +kernel
theorem dL_captures_786 : decode cL_captures 786 = .ok (.aload_n 0, 1) := by decide +kernel
theorem dL_captures_787 : decode cL_captures 787 = .ok (.iconst 2, 1) := by decide +kernel
theorem dL_captures_788 : decode cL_captures 788 = .ok (.invokevirtual 37, 3) := by decide +kernel
theorem dL_captures_791 : decode cL_captures 791 = .ok (.iconst 1, 1) := by decide +kernel
theorem dL_captures_792 : decode cL_captures 792 = .ok (.if_icmp .ne 64, 3) := by decide +kernel
theorem dL_captures_795 : decode cL_captures 795 = .ok (.aload_n 0, 1) := by decide +kernel
theorem dL_captures_796 : decode cL_captures 796 = .ok (.iconst 0, 1) := by decide +kernel
theorem dL_captures_797 : decode cL_captures 797 = .ok (.invokevirtual 37, 3) := by decide +kernel
theorem dL_captures_800 : decode cL_captures 800 = .ok (.ifCond .ne 56, 3) := by decide +kernel
theorem dL_captures_803 : decode cL_captures 803 = .ok (.aload_n 0, 1) := by decide +kernel
theorem dL_captures_804 : decode cL_captures 804 = .ok (.invokevirtual 62, 3) := by decide +kernel
theorem dL_captures_807 : decode cL_captures 807 = .ok (.iconst 2, 1) := by decide +kernel
theorem dL_captures_808 : decode cL_captures 808 = .ok (.if_icmp .ne 48, 3) := by decide +kernel
theorem dL_captures_811 : decode cL_captures 811 = .ok (.aload_n 0, 1) := by decide +kernel
theorem dL_captures_812 : decode cL_captures 812 = .ok (.invokevirtual 76, 3) := by decide +kernel
theorem dL_captures_815 : decode cL_captures 815 = .ok (.iconst 1, 1) := by decide +kernel
theorem dL_captures_816 : decode cL_captures 816 = .ok (.if_icmp .ne 40, 3) := by decide +kernel
theorem dL_captures_819 : decode cL_captures 819 = .ok (.aload_n 0, 1) := by decide +kernel
theorem dL_captures_820 : decode cL_captures 820 = .ok (.iconst 2, 1) := by decide +kernel
theorem dL_captures_821 : decode cL_captures 821 = .ok (.iconst 0, 1) := by decide +kernel
theorem dL_captures_822 : decode cL_captures 822 = .ok (.invokevirtual 24, 3) := by decide +kernel
theorem dL_captures_825 : decode cL_captures 825 = .ok (.bipush 58, 2) := by decide +kernel
theorem dL_captures_827 : decode cL_captures 827 = .ok (.if_icmp .ne 29, 3) := by decide +kernel
theorem dL_captures_830 : decode cL_captures 830 = .ok (.aload_n 0, 1) := by decide +kernel
theorem dL_captures_831 : decode cL_captures 831 = .ok (.iconst 1, 1) := by decide +kernel
theorem dL_captures_832 : decode cL_captures 832 = .ok (.invokevirtual 40, 3) := by decide +kernel
theorem dL_captures_835 : decode cL_captures 835 = .ok (.sipush 566, 3) := by decide +kernel
theorem dL_captures_838 : decode cL_captures 838 = .ok (.if_icmp .ne 18, 3) := by decide +kernel
theorem dL_captures_841 : decode cL_captures 841 = .ok (.aload_n 0, 1) := by decide +kernel
theorem dL_captures_842 : decode cL_captures 842 = .ok (.iconst 0, 1) := by decide +kernel
theorem dL_captures_843 : decode cL_captures 843 = .ok (.invokevirtual 40, 3) := by decide +kernel
theorem dL_captures_846 : decode cL_captures 846 = .ok (.sipush 544, 3) := by decide +kernel
theorem dL_captures_849 : decode cL_captures 849 = .ok (.if_icmp .ne 7, 3) := by decide +kernel
theorem dL_captures_852 : decode cL_captures 852 = .ok (.iconst 1, 1) := by decide +kernel
theorem dL_captures_853 : decode cL_captures 853 = .ok (.goto 4, 3) := by decide +kernel
theorem dL_captures_856 : decode cL_captures 856 = .ok (.iconst 0, 1) := by decide +kernel
theorem dL_captures_857 : decode cL_captures 857 = .ok (.ireturn, 1) := by decide +kernel
