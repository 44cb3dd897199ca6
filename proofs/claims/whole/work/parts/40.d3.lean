theorem d_L_law_769 : decode code 769 = .ok (.ifCond .ne 15, 3) := by decide +kernel
theorem d_L_law_772 : decode code 772 = .ok (.aload_n 3, 1) := by decide +kernel
theorem d_L_law_773 : decode code 773 = .ok (.iconst 0, 1) := by decide +kernel
theorem d_L_law_774 : decode code 774 = .ok (.laload, 1) := by decide +kernel
theorem d_L_law_775 : decode code 775 = .ok (.iload 6, 2) := by decide +kernel
theorem d_L_law_777 : decode code 777 = .ok (.i2l, 1) := by decide +kernel
theorem d_L_law_778 : decode code 778 = .ok (.lcmp, 1) := by decide +kernel
theorem d_L_law_779 : decode code 779 = .ok (.ifCond .eq 5, 3) := by decide +kernel
theorem d_L_law_782 : decode code 782 = .ok (.iconst 0, 1) := by decide +kernel
theorem d_L_law_783 : decode code 783 = .ok (.ireturn, 1) := by decide +kernel
theorem d_L_law_784 : decode code 784 = .ok (.goto 531, 3) := by decide +kernel
theorem d_L_law_787 : decode code 787 = .ok (.aload_n 1, 1) := by decide +kernel
theorem d_L_law_788 : decode code 788 = .ok (.aload_n 0, 1) := by decide +kernel
theorem d_L_law_789 : decode code 789 = .ok (.iload 4, 2) := by decide +kernel
theorem d_L_law_791 : decode code 791 = .ok (.iconst 1, 1) := by decide +kernel
theorem d_L_law_792 : decode code 792 = .ok (.iadd, 1) := by decide +kernel
theorem d_L_law_793 : decode code 793 = .ok (.iaload, 1) := by decide +kernel
theorem d_L_law_794 : decode code 794 = .ok (.aload_n 0, 1) := by decide +kernel
theorem d_L_law_795 : decode code 795 = .ok (.iload 4, 2) := by decide +kernel
theorem d_L_law_797 : decode code 797 = .ok (.iconst 2, 1) := by decide +kernel
theorem d_L_law_798 : decode code 798 = .ok (.iadd, 1) := by decide +kernel
theorem d_L_law_799 : decode code 799 = .ok (.iaload, 1) := by decide +kernel
theorem d_L_law_800 : decode code 800 = .ok (.aload_n 3, 1) := by decide +kernel
theorem d_L_law_801 : decode code 801 = .ok (.invokestatic 123, 3) := by decide +kernel
theorem d_L_law_804 : decode code 804 = .ok (.istore 5, 2) := by decide +kernel
theorem d_L_law_806 : decode code 806 = .ok (.aload_n 2, 1) := by decide +kernel
theorem d_L_law_807 : decode code 807 = .ok (.aload_n 0, 1) := by decide +kernel
theorem d_L_law_808 : decode code 808 = .ok (.iload 4, 2) := by decide +kernel
theorem d_L_law_810 : decode code 810 = .ok (.iconst 1, 1) := by decide +kernel
theorem d_L_law_811 : decode code 811 = .ok (.iadd, 1) := by decide +kernel
theorem d_L_law_812 : decode code 812 = .ok (.iaload, 1) := by decide +kernel
theorem d_L_law_813 : decode code 813 = .ok (.aload_n 0, 1) := by decide +kernel
theorem d_L_law_814 : decode code 814 = .ok (.iload 4, 2) := by decide +kernel
theorem d_L_law_816 : decode code 816 = .ok (.iconst 2, 1) := by decide +kernel
theorem d_L_law_817 : decode code 817 = .ok (.iadd, 1) := by decide +kernel
theorem d_L_law_818 : decode code 818 = .ok (.iaload, 1) := by decide +kernel
theorem d_L_law_819 : decode code 819 = .ok (.invokevirtual 125, 3) := by decide +kernel
theorem d_L_law_822 : decode code 822 = .ok (.istore 6, 2) := by decide +kernel
theorem d_L_law_824 : decode code 824 = .ok (.aload_n 2, 1) := by decide +kernel
theorem d_L_law_825 : decode code 825 = .ok (.invokevirtual 90, 3) := by decide +kernel
theorem d_L_law_828 : decode code 828 = .ok (.iload 5, 2) := by decide +kernel
theorem d_L_law_830 : decode code 830 = .ok (.if_icmp .eq 5, 3) := by decide +kernel
theorem d_L_law_833 : decode code 833 = .ok (.iconst 0, 1) := by decide +kernel
theorem d_L_law_834 : decode code 834 = .ok (.ireturn, 1) := by decide +kernel
theorem d_L_law_835 : decode code 835 = .ok (.iload 5, 2) := by decide +kernel
theorem d_L_law_837 : decode code 837 = .ok (.ifCond .ne 15, 3) := by decide +kernel
theorem d_L_law_840 : decode code 840 = .ok (.aload_n 3, 1) := by decide +kernel
theorem d_L_law_841 : decode code 841 = .ok (.iconst 0, 1) := by decide +kernel
theorem d_L_law_842 : decode code 842 = .ok (.laload, 1) := by decide +kernel
theorem d_L_law_843 : decode code 843 = .ok (.iload 6, 2) := by decide +kernel
theorem d_L_law_845 : decode code 845 = .ok (.i2l, 1) := by decide +kernel
theorem d_L_law_846 : decode code 846 = .ok (.lcmp, 1) := by decide +kernel
theorem d_L_law_847 : decode code 847 = .ok (.ifCond .eq 5, 3) := by decide +kernel
theorem d_L_law_850 : decode code 850 = .ok (.iconst 0, 1) := by decide +kernel
theorem d_L_law_851 : decode code 851 = .ok (.ireturn, 1) := by decide +kernel
theorem d_L_law_852 : decode code 852 = .ok (.goto 463, 3) := by decide +kernel
theorem d_L_law_855 : decode code 855 = .ok (.aload_n 1, 1) := by decide +kernel
theorem d_L_law_856 : decode code 856 = .ok (.aload_n 0, 1) := by decide +kernel
theorem d_L_law_857 : decode code 857 = .ok (.iload 4, 2) := by decide +kernel
theorem d_L_law_859 : decode code 859 = .ok (.iconst 1, 1) := by decide +kernel
theorem d_L_law_860 : decode code 860 = .ok (.iadd, 1) := by decide +kernel
theorem d_L_law_861 : decode code 861 = .ok (.iaload, 1) := by decide +kernel
theorem d_L_law_862 : decode code 862 = .ok (.aload_n 3, 1) := by decide +kernel
theorem d_L_law_863 : decode code 863 = .ok (.invokestatic 126, 3) := by decide +kernel
theorem d_L_law_866 : decode code 866 = .ok (.istore 5, 2) := by decide +kernel
theorem d_L_law_868 : decode code 868 = .ok (.aload_n 2, 1) := by decide +kernel
theorem d_L_law_869 : decode code 869 = .ok (.aload_n 0, 1) := by decide +kernel
theorem d_L_law_870 : decode code 870 = .ok (.iload 4, 2) := by decide +kernel
theorem d_L_law_872 : decode code 872 = .ok (.iconst 1, 1) := by decide +kernel
theorem d_L_law_873 : decode code 873 = .ok (.iadd, 1) := by decide +kernel
theorem d_L_law_874 : decode code 874 = .ok (.iaload, 1) := by decide +kernel
theorem d_L_law_875 : decode code 875 = .ok (.invokevirtual 128, 3) := by decide +kernel
theorem d_L_law_878 : decode code 878 = .ok (.istore 6, 2) := by decide +kernel
theorem d_L_law_880 : decode code 880 = .ok (.aload_n 2, 1) := by decide +kernel
theorem d_L_law_881 : decode code 881 = .ok (.invokevirtual 90, 3) := by decide +kernel
theorem d_L_law_884 : decode code 884 = .ok (.iload 5, 2) := by decide +kernel
theorem d_L_law_886 : decode code 886 = .ok (.if_icmp .eq 5, 3) := by decide +kernel
theorem d_L_law_889 : decode code 889 = .ok (.iconst 0, 1) := by decide +kernel
theorem d_L_law_890 : decode code 890 = .ok (.ireturn, 1) := by decide +kernel
theorem d_L_law_891 : decode code 891 = .ok (.iload 5, 2) := by decide +kernel
theorem d_L_law_893 : decode code 893 = .ok (.ifCond .ne 15, 3) := by decide +kernel
theorem d_L_law_896 : decode code 896 = .ok (.aload_n 3, 1) := by decide +kernel
theorem d_L_law_897 : decode code 897 = .ok (.iconst 0, 1) := by decide +kernel
theorem d_L_law_898 : decode code 898 = .ok (.laload, 1) := by decide +kernel
theorem d_L_law_899 : decode code 899 = .ok (.iload 6, 2) := by decide +kernel
theorem d_L_law_901 : decode code 901 = .ok (.i2l, 1) := by decide +kernel
theorem d_L_law_902 : decode code 902 = .ok (.lcmp, 1) := by decide +kernel
theorem d_L_law_903 : decode code 903 = .ok (.ifCond .eq 5, 3) := by decide +kernel
theorem d_L_law_906 : decode code 906 = .ok (.iconst 0, 1) := by decide +kernel
theorem d_L_law_907 : decode code 907 = .ok (.ireturn, 1) := by decide +kernel
theorem d_L_law_908 : decode code 908 = .ok (.goto 407, 3) := by decide +kernel
theorem d_L_law_911 : decode code 911 = .ok (.aload_n 1, 1) := by decide +kernel
theorem d_L_law_912 : decode code 912 = .ok (.aload_n 0, 1) := by decide +kernel
theorem d_L_law_913 : decode code 913 = .ok (.iload 4, 2) := by decide +kernel
theorem d_L_law_915 : decode code 915 = .ok (.iconst 1, 1) := by decide +kernel
theorem d_L_law_916 : decode code 916 = .ok (.iadd, 1) := by decide +kernel
theorem d_L_law_917 : decode code 917 = .ok (.iaload, 1) := by decide +kernel
theorem d_L_law_918 : decode code 918 = .ok (.aload_n 3, 1) := by decide +kernel
theorem d_L_law_919 : decode code 919 = .ok (.invokestatic 129, 3) := by decide +kernel
theorem d_L_law_922 : decode code 922 = .ok (.istore 5, 2) := by decide +kernel
theorem d_L_law_924 : decode code 924 = .ok (.aload_n 2, 1) := by decide +kernel
theorem d_L_law_925 : decode code 925 = .ok (.aload_n 0, 1) := by decide +kernel
theorem d_L_law_926 : decode code 926 = .ok (.iload 4, 2) := by decide +kernel
theorem d_L_law_928 : decode code 928 = .ok (.iconst 1, 1) := by decide +kernel
theorem d_L_law_929 : decode code 929 = .ok (.iadd, 1) := by decide +kernel
theorem d_L_law_930 : decode code 930 = .ok (.iaload, 1) := by decide +kernel
theorem d_L_law_931 : decode code 931 = .ok (.invokevirtual 131, 3) := by decide +kernel
theorem d_L_law_934 : decode code 934 = .ok (.istore 6, 2) := by decide +kernel
theorem d_L_law_936 : decode code 936 = .ok (.aload_n 2, 1) := by decide +kernel
theorem d_L_law_937 : decode code 937 = .ok (.invokevirtual 90, 3) := by decide +kernel
theorem d_L_law_940 : decode code 940 = .ok (.iload 5, 2) := by decide +kernel
theorem d_L_law_942 : decode code 942 = .ok (.if_icmp .eq 5, 3) := by decide +kernel
theorem d_L_law_945 : decode code 945 = .ok (.iconst 0, 1) := by decide +kernel
theorem d_L_law_946 : decode code 946 = .ok (.ireturn, 1) := by decide +kernel
theorem d_L_law_947 : decode code 947 = .ok (.iload 5, 2) := by decide +kernel
theorem d_L_law_949 : decode code 949 = .ok (.ifCond .ne 15, 3) := by decide +kernel
theorem d_L_law_952 : decode code 952 = .ok (.aload_n 3, 1) := by decide +kernel
theorem d_L_law_953 : decode code 953 = .ok (.iconst 0, 1) := by decide +kernel
theorem d_L_law_954 : decode code 954 = .ok (.laload, 1) := by decide +kernel
theorem d_L_law_955 : decode code 955 = .ok (.iload 6, 2) := by decide +kernel
theorem d_L_law_957 : decode code 957 = .ok (.i2l, 1) := by decide +kernel
theorem d_L_law_958 : decode code 958 = .ok (.lcmp, 1) := by decide +kernel
theorem d_L_law_959 : decode code 959 = .ok (.ifCond .eq 5, 3) := by decide +kernel
theorem d_L_law_962 : decode code 962 = .ok (.iconst 0, 1) := by decide +kernel
theorem d_L_law_963 : decode code 963 = .ok (.ireturn, 1) := by decide +kernel
theorem d_L_law_964 : decode code 964 = .ok (.goto 351, 3) := by decide +kernel
theorem d_L_law_967 : decode code 967 = .ok (.aload_n 1, 1) := by decide +kernel
theorem d_L_law_968 : decode code 968 = .ok (.invokevirtual 132, 3) := by decide +kernel
theorem d_L_law_971 : decode code 971 = .ok (.aload_n 2, 1) := by decide +kernel
theorem d_L_law_972 : decode code 972 = .ok (.invokevirtual 135, 3) := by decide +kernel
theorem d_L_law_975 : decode code 975 = .ok (.if_icmp .eq 340, 3) := by decide +kernel
theorem d_L_law_978 : decode code 978 = .ok (.iconst 0, 1) := by decide +kernel
theorem d_L_law_979 : decode code 979 = .ok (.ireturn, 1) := by decide +kernel
theorem d_L_law_980 : decode code 980 = .ok (.aload_n 1, 1) := by decide +kernel
theorem d_L_law_981 : decode code 981 = .ok (.aload_n 3, 1) := by decide +kernel
theorem d_L_law_982 : decode code 982 = .ok (.invokestatic 136, 3) := by decide +kernel
theorem d_L_law_985 : decode code 985 = .ok (.istore 5, 2) := by decide +kernel
theorem d_L_law_987 : decode code 987 = .ok (.aload_n 2, 1) := by decide +kernel
theorem d_L_law_988 : decode code 988 = .ok (.invokevirtual 139, 3) := by decide +kernel
theorem d_L_law_991 : decode code 991 = .ok (.istore 6, 2) := by decide +kernel
theorem d_L_law_993 : decode code 993 = .ok (.aload_n 2, 1) := by decide +kernel
theorem d_L_law_994 : decode code 994 = .ok (.invokevirtual 90, 3) := by decide +kernel
theorem d_L_law_997 : decode code 997 = .ok (.iload 5, 2) := by decide +kernel
theorem d_L_law_999 : decode code 999 = .ok (.if_icmp .eq 5, 3) := by decide +kernel
theorem d_L_law_1002 : decode code 1002 = .ok (.iconst 0, 1) := by decide +kernel
theorem d_L_law_1003 : decode code 1003 = .ok (.ireturn, 1) := by decide +kernel
theorem d_L_law_1004 : decode code 1004 = .ok (.iload 5, 2) := by decide +kernel
theorem d_L_law_1006 : decode code 1006 = .ok (.ifCond .ne 15, 3) := by decide +kernel
theorem d_L_law_1009 : decode code 1009 = .ok (.aload_n 3, 1) := by decide +kernel
theorem d_L_law_1010 : decode code 1010 = .ok (.iconst 0, 1) := by decide +kernel
