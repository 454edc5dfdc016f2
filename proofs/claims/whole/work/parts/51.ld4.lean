/-! decode rows of the law's body -/
theorem d_Law_law_734 : decode code 734 = .ok (.iadd, 1) := by decide +kernel
theorem d_Law_law_735 : decode code 735 = .ok (.iaload, 1) := by decide +kernel
theorem d_Law_law_736 : decode code 736 = .ok (.i2l, 1) := by decide +kernel
theorem d_Law_law_737 : decode code 737 = .ok (.ldc2_w 65, 3) := by decide +kernel
theorem d_Law_law_740 : decode code 740 = .ok (.land, 1) := by decide +kernel
theorem d_Law_law_741 : decode code 741 = .ok (.lor, 1) := by decide +kernel
theorem d_Law_law_742 : decode code 742 = .ok (.aload_n 3, 1) := by decide +kernel
theorem d_Law_law_743 : decode code 743 = .ok (.invokestatic 90, 3) := by decide +kernel
theorem d_Law_law_746 : decode code 746 = .ok (.istore 5, 2) := by decide +kernel
theorem d_Law_law_748 : decode code 748 = .ok (.aload_n 2, 1) := by decide +kernel
theorem d_Law_law_749 : decode code 749 = .ok (.aload_n 0, 1) := by decide +kernel
theorem d_Law_law_750 : decode code 750 = .ok (.iload 4, 2) := by decide +kernel
theorem d_Law_law_752 : decode code 752 = .ok (.iconst 1, 1) := by decide +kernel
theorem d_Law_law_753 : decode code 753 = .ok (.iadd, 1) := by decide +kernel
theorem d_Law_law_754 : decode code 754 = .ok (.iaload, 1) := by decide +kernel
theorem d_Law_law_755 : decode code 755 = .ok (.aload_n 0, 1) := by decide +kernel
theorem d_Law_law_756 : decode code 756 = .ok (.iload 4, 2) := by decide +kernel
theorem d_Law_law_758 : decode code 758 = .ok (.iconst 2, 1) := by decide +kernel
theorem d_Law_law_759 : decode code 759 = .ok (.iadd, 1) := by decide +kernel
theorem d_Law_law_760 : decode code 760 = .ok (.iaload, 1) := by decide +kernel
theorem d_Law_law_761 : decode code 761 = .ok (.i2l, 1) := by decide +kernel
theorem d_Law_law_762 : decode code 762 = .ok (.bipush 32, 2) := by decide +kernel
theorem d_Law_law_764 : decode code 764 = .ok (.lshl, 1) := by decide +kernel
theorem d_Law_law_765 : decode code 765 = .ok (.aload_n 0, 1) := by decide +kernel
theorem d_Law_law_766 : decode code 766 = .ok (.iload 4, 2) := by decide +kernel
theorem d_Law_law_768 : decode code 768 = .ok (.iconst 3, 1) := by decide +kernel
theorem d_Law_law_769 : decode code 769 = .ok (.iadd, 1) := by decide +kernel
theorem d_Law_law_770 : decode code 770 = .ok (.iaload, 1) := by decide +kernel
theorem d_Law_law_771 : decode code 771 = .ok (.i2l, 1) := by decide +kernel
theorem d_Law_law_772 : decode code 772 = .ok (.ldc2_w 65, 3) := by decide +kernel
theorem d_Law_law_775 : decode code 775 = .ok (.land, 1) := by decide +kernel
theorem d_Law_law_776 : decode code 776 = .ok (.lor, 1) := by decide +kernel
theorem d_Law_law_777 : decode code 777 = .ok (.invokevirtual 93, 3) := by decide +kernel
theorem d_Law_law_780 : decode code 780 = .ok (.istore 6, 2) := by decide +kernel
theorem d_Law_law_782 : decode code 782 = .ok (.aload_n 2, 1) := by decide +kernel
theorem d_Law_law_783 : decode code 783 = .ok (.invokevirtual 71, 3) := by decide +kernel
theorem d_Law_law_786 : decode code 786 = .ok (.iload 5, 2) := by decide +kernel
theorem d_Law_law_788 : decode code 788 = .ok (.if_icmp .eq 5, 3) := by decide +kernel
theorem d_Law_law_791 : decode code 791 = .ok (.iconst 0, 1) := by decide +kernel
theorem d_Law_law_792 : decode code 792 = .ok (.ireturn, 1) := by decide +kernel
theorem d_Law_law_793 : decode code 793 = .ok (.iload 5, 2) := by decide +kernel
theorem d_Law_law_795 : decode code 795 = .ok (.ifCond .ne 15, 3) := by decide +kernel
theorem d_Law_law_798 : decode code 798 = .ok (.aload_n 3, 1) := by decide +kernel
theorem d_Law_law_799 : decode code 799 = .ok (.iconst 0, 1) := by decide +kernel
theorem d_Law_law_800 : decode code 800 = .ok (.laload, 1) := by decide +kernel
theorem d_Law_law_801 : decode code 801 = .ok (.iload 6, 2) := by decide +kernel
theorem d_Law_law_803 : decode code 803 = .ok (.i2l, 1) := by decide +kernel
theorem d_Law_law_804 : decode code 804 = .ok (.lcmp, 1) := by decide +kernel
theorem d_Law_law_805 : decode code 805 = .ok (.ifCond .eq 5, 3) := by decide +kernel
theorem d_Law_law_808 : decode code 808 = .ok (.iconst 0, 1) := by decide +kernel
theorem d_Law_law_809 : decode code 809 = .ok (.ireturn, 1) := by decide +kernel
theorem d_Law_law_810 : decode code 810 = .ok (.goto 372, 3) := by decide +kernel
theorem d_Law_law_813 : decode code 813 = .ok (.aload_n 1, 1) := by decide +kernel
theorem d_Law_law_814 : decode code 814 = .ok (.aload_n 0, 1) := by decide +kernel
theorem d_Law_law_815 : decode code 815 = .ok (.iload 4, 2) := by decide +kernel
theorem d_Law_law_817 : decode code 817 = .ok (.iconst 1, 1) := by decide +kernel
theorem d_Law_law_818 : decode code 818 = .ok (.iadd, 1) := by decide +kernel
theorem d_Law_law_819 : decode code 819 = .ok (.iaload, 1) := by decide +kernel
theorem d_Law_law_820 : decode code 820 = .ok (.aload_n 3, 1) := by decide +kernel
theorem d_Law_law_821 : decode code 821 = .ok (.invokestatic 94, 3) := by decide +kernel
theorem d_Law_law_824 : decode code 824 = .ok (.istore 5, 2) := by decide +kernel
theorem d_Law_law_826 : decode code 826 = .ok (.aload_n 2, 1) := by decide +kernel
theorem d_Law_law_827 : decode code 827 = .ok (.aload_n 0, 1) := by decide +kernel
theorem d_Law_law_828 : decode code 828 = .ok (.iload 4, 2) := by decide +kernel
theorem d_Law_law_830 : decode code 830 = .ok (.iconst 1, 1) := by decide +kernel
theorem d_Law_law_831 : decode code 831 = .ok (.iadd, 1) := by decide +kernel
theorem d_Law_law_832 : decode code 832 = .ok (.iaload, 1) := by decide +kernel
theorem d_Law_law_833 : decode code 833 = .ok (.invokevirtual 96, 3) := by decide +kernel
theorem d_Law_law_836 : decode code 836 = .ok (.istore 6, 2) := by decide +kernel
theorem d_Law_law_838 : decode code 838 = .ok (.aload_n 2, 1) := by decide +kernel
theorem d_Law_law_839 : decode code 839 = .ok (.invokevirtual 71, 3) := by decide +kernel
theorem d_Law_law_842 : decode code 842 = .ok (.iload 5, 2) := by decide +kernel
theorem d_Law_law_844 : decode code 844 = .ok (.if_icmp .eq 5, 3) := by decide +kernel
theorem d_Law_law_847 : decode code 847 = .ok (.iconst 0, 1) := by decide +kernel
theorem d_Law_law_848 : decode code 848 = .ok (.ireturn, 1) := by decide +kernel
theorem d_Law_law_849 : decode code 849 = .ok (.iload 5, 2) := by decide +kernel
theorem d_Law_law_851 : decode code 851 = .ok (.ifCond .ne 15, 3) := by decide +kernel
theorem d_Law_law_854 : decode code 854 = .ok (.aload_n 3, 1) := by decide +kernel
theorem d_Law_law_855 : decode code 855 = .ok (.iconst 0, 1) := by decide +kernel
theorem d_Law_law_856 : decode code 856 = .ok (.laload, 1) := by decide +kernel
theorem d_Law_law_857 : decode code 857 = .ok (.iload 6, 2) := by decide +kernel
theorem d_Law_law_859 : decode code 859 = .ok (.i2l, 1) := by decide +kernel
theorem d_Law_law_860 : decode code 860 = .ok (.lcmp, 1) := by decide +kernel
theorem d_Law_law_861 : decode code 861 = .ok (.ifCond .eq 5, 3) := by decide +kernel
theorem d_Law_law_864 : decode code 864 = .ok (.iconst 0, 1) := by decide +kernel
theorem d_Law_law_865 : decode code 865 = .ok (.ireturn, 1) := by decide +kernel
theorem d_Law_law_866 : decode code 866 = .ok (.goto 316, 3) := by decide +kernel
theorem d_Law_law_869 : decode code 869 = .ok (.aload_n 1, 1) := by decide +kernel
theorem d_Law_law_870 : decode code 870 = .ok (.aload_n 0, 1) := by decide +kernel
theorem d_Law_law_871 : decode code 871 = .ok (.iload 4, 2) := by decide +kernel
theorem d_Law_law_873 : decode code 873 = .ok (.iconst 1, 1) := by decide +kernel
theorem d_Law_law_874 : decode code 874 = .ok (.iadd, 1) := by decide +kernel
theorem d_Law_law_875 : decode code 875 = .ok (.iaload, 1) := by decide +kernel
theorem d_Law_law_876 : decode code 876 = .ok (.aload_n 0, 1) := by decide +kernel
theorem d_Law_law_877 : decode code 877 = .ok (.iload 4, 2) := by decide +kernel
theorem d_Law_law_879 : decode code 879 = .ok (.iconst 2, 1) := by decide +kernel
theorem d_Law_law_880 : decode code 880 = .ok (.iadd, 1) := by decide +kernel
theorem d_Law_law_881 : decode code 881 = .ok (.iaload, 1) := by decide +kernel
theorem d_Law_law_882 : decode code 882 = .ok (.ifCond .eq 7, 3) := by decide +kernel
theorem d_Law_law_885 : decode code 885 = .ok (.iconst 1, 1) := by decide +kernel
theorem d_Law_law_886 : decode code 886 = .ok (.goto 4, 3) := by decide +kernel
theorem d_Law_law_889 : decode code 889 = .ok (.iconst 0, 1) := by decide +kernel
theorem d_Law_law_890 : decode code 890 = .ok (.aload_n 3, 1) := by decide +kernel
theorem d_Law_law_891 : decode code 891 = .ok (.invokestatic 97, 3) := by decide +kernel
theorem d_Law_law_894 : decode code 894 = .ok (.istore 5, 2) := by decide +kernel
theorem d_Law_law_896 : decode code 896 = .ok (.aload_n 2, 1) := by decide +kernel
theorem d_Law_law_897 : decode code 897 = .ok (.aload_n 0, 1) := by decide +kernel
theorem d_Law_law_898 : decode code 898 = .ok (.iload 4, 2) := by decide +kernel
theorem d_Law_law_900 : decode code 900 = .ok (.iconst 1, 1) := by decide +kernel
theorem d_Law_law_901 : decode code 901 = .ok (.iadd, 1) := by decide +kernel
theorem d_Law_law_902 : decode code 902 = .ok (.iaload, 1) := by decide +kernel
theorem d_Law_law_903 : decode code 903 = .ok (.aload_n 0, 1) := by decide +kernel
theorem d_Law_law_904 : decode code 904 = .ok (.iload 4, 2) := by decide +kernel
theorem d_Law_law_906 : decode code 906 = .ok (.iconst 2, 1) := by decide +kernel
theorem d_Law_law_907 : decode code 907 = .ok (.iadd, 1) := by decide +kernel
theorem d_Law_law_908 : decode code 908 = .ok (.iaload, 1) := by decide +kernel
theorem d_Law_law_909 : decode code 909 = .ok (.ifCond .eq 7, 3) := by decide +kernel
theorem d_Law_law_912 : decode code 912 = .ok (.iconst 1, 1) := by decide +kernel
theorem d_Law_law_913 : decode code 913 = .ok (.goto 4, 3) := by decide +kernel
theorem d_Law_law_916 : decode code 916 = .ok (.iconst 0, 1) := by decide +kernel
theorem d_Law_law_917 : decode code 917 = .ok (.invokevirtual 100, 3) := by decide +kernel
theorem d_Law_law_920 : decode code 920 = .ok (.istore 6, 2) := by decide +kernel
theorem d_Law_law_922 : decode code 922 = .ok (.aload_n 2, 1) := by decide +kernel
theorem d_Law_law_923 : decode code 923 = .ok (.invokevirtual 71, 3) := by decide +kernel
theorem d_Law_law_926 : decode code 926 = .ok (.iload 5, 2) := by decide +kernel
theorem d_Law_law_928 : decode code 928 = .ok (.if_icmp .eq 5, 3) := by decide +kernel
theorem d_Law_law_931 : decode code 931 = .ok (.iconst 0, 1) := by decide +kernel
theorem d_Law_law_932 : decode code 932 = .ok (.ireturn, 1) := by decide +kernel
theorem d_Law_law_933 : decode code 933 = .ok (.iload 5, 2) := by decide +kernel
theorem d_Law_law_935 : decode code 935 = .ok (.ifCond .ne 15, 3) := by decide +kernel
theorem d_Law_law_938 : decode code 938 = .ok (.aload_n 3, 1) := by decide +kernel
theorem d_Law_law_939 : decode code 939 = .ok (.iconst 0, 1) := by decide +kernel
theorem d_Law_law_940 : decode code 940 = .ok (.laload, 1) := by decide +kernel
theorem d_Law_law_941 : decode code 941 = .ok (.iload 6, 2) := by decide +kernel
theorem d_Law_law_943 : decode code 943 = .ok (.i2l, 1) := by decide +kernel
theorem d_Law_law_944 : decode code 944 = .ok (.lcmp, 1) := by decide +kernel
theorem d_Law_law_945 : decode code 945 = .ok (.ifCond .eq 5, 3) := by decide +kernel
theorem d_Law_law_948 : decode code 948 = .ok (.iconst 0, 1) := by decide +kernel
theorem d_Law_law_949 : decode code 949 = .ok (.ireturn, 1) := by decide +kernel
theorem d_Law_law_950 : decode code 950 = .ok (.goto 232, 3) := by decide +kernel
theorem d_Law_law_953 : decode code 953 = .ok (.aload_n 1, 1) := by decide +kernel
theorem d_Law_law_954 : decode code 954 = .ok (.invokevirtual 101, 3) := by decide +kernel
theorem d_Law_law_957 : decode code 957 = .ok (.aload_n 2, 1) := by decide +kernel
theorem d_Law_law_958 : decode code 958 = .ok (.invokevirtual 104, 3) := by decide +kernel
theorem d_Law_law_961 : decode code 961 = .ok (.if_icmp .eq 221, 3) := by decide +kernel
theorem d_Law_law_964 : decode code 964 = .ok (.iconst 0, 1) := by decide +kernel
theorem d_Law_law_965 : decode code 965 = .ok (.ireturn, 1) := by decide +kernel
theorem d_Law_law_966 : decode code 966 = .ok (.aload_n 1, 1) := by decide +kernel
theorem d_Law_law_967 : decode code 967 = .ok (.aload_n 0, 1) := by decide +kernel
theorem d_Law_law_968 : decode code 968 = .ok (.iload 4, 2) := by decide +kernel
