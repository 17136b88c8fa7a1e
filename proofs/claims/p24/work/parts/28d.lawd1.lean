theorem d_lw_707 : decode code 707 = .ok (.aload_n 1, 1) := by decide +kernel
theorem d_lw_708 : decode code 708 = .ok (.aload_n 0, 1) := by decide +kernel
theorem d_lw_709 : decode code 709 = .ok (.iload 4, 2) := by decide +kernel
theorem d_lw_711 : decode code 711 = .ok (.iconst 1, 1) := by decide +kernel
theorem d_lw_712 : decode code 712 = .ok (.iadd, 1) := by decide +kernel
theorem d_lw_713 : decode code 713 = .ok (.iaload, 1) := by decide +kernel
theorem d_lw_714 : decode code 714 = .ok (.aload_n 0, 1) := by decide +kernel
theorem d_lw_715 : decode code 715 = .ok (.iload 4, 2) := by decide +kernel
theorem d_lw_717 : decode code 717 = .ok (.iconst 2, 1) := by decide +kernel
theorem d_lw_718 : decode code 718 = .ok (.iadd, 1) := by decide +kernel
theorem d_lw_719 : decode code 719 = .ok (.iaload, 1) := by decide +kernel
theorem d_lw_720 : decode code 720 = .ok (.invokevirtual 80, 3) := by decide +kernel
theorem d_lw_723 : decode code 723 = .ok (.pop, 1) := by decide +kernel
theorem d_lw_724 : decode code 724 = .ok (.aload_n 2, 1) := by decide +kernel
theorem d_lw_725 : decode code 725 = .ok (.aload_n 0, 1) := by decide +kernel
theorem d_lw_726 : decode code 726 = .ok (.iload 4, 2) := by decide +kernel
theorem d_lw_728 : decode code 728 = .ok (.iconst 1, 1) := by decide +kernel
theorem d_lw_729 : decode code 729 = .ok (.iadd, 1) := by decide +kernel
theorem d_lw_730 : decode code 730 = .ok (.iaload, 1) := by decide +kernel
theorem d_lw_731 : decode code 731 = .ok (.aload_n 0, 1) := by decide +kernel
theorem d_lw_732 : decode code 732 = .ok (.iload 4, 2) := by decide +kernel
theorem d_lw_734 : decode code 734 = .ok (.iconst 2, 1) := by decide +kernel
theorem d_lw_735 : decode code 735 = .ok (.iadd, 1) := by decide +kernel
theorem d_lw_736 : decode code 736 = .ok (.iaload, 1) := by decide +kernel
theorem d_lw_737 : decode code 737 = .ok (.invokevirtual 83, 3) := by decide +kernel
theorem d_lw_740 : decode code 740 = .ok (.pop, 1) := by decide +kernel
theorem d_lw_741 : decode code 741 = .ok (.goto 1451, 3) := by decide +kernel
theorem d_lw_744 : decode code 744 = .ok (.aload_n 1, 1) := by decide +kernel
theorem d_lw_745 : decode code 745 = .ok (.aload_n 0, 1) := by decide +kernel
theorem d_lw_746 : decode code 746 = .ok (.iload 4, 2) := by decide +kernel
theorem d_lw_748 : decode code 748 = .ok (.iconst 1, 1) := by decide +kernel
theorem d_lw_749 : decode code 749 = .ok (.iadd, 1) := by decide +kernel
theorem d_lw_750 : decode code 750 = .ok (.iaload, 1) := by decide +kernel
theorem d_lw_751 : decode code 751 = .ok (.aload_n 0, 1) := by decide +kernel
theorem d_lw_752 : decode code 752 = .ok (.iload 4, 2) := by decide +kernel
theorem d_lw_754 : decode code 754 = .ok (.iconst 2, 1) := by decide +kernel
theorem d_lw_755 : decode code 755 = .ok (.iadd, 1) := by decide +kernel
theorem d_lw_756 : decode code 756 = .ok (.iaload, 1) := by decide +kernel
theorem d_lw_757 : decode code 757 = .ok (.aload_n 0, 1) := by decide +kernel
theorem d_lw_758 : decode code 758 = .ok (.iload 4, 2) := by decide +kernel
theorem d_lw_760 : decode code 760 = .ok (.iconst 3, 1) := by decide +kernel
theorem d_lw_761 : decode code 761 = .ok (.iadd, 1) := by decide +kernel
theorem d_lw_762 : decode code 762 = .ok (.iaload, 1) := by decide +kernel
theorem d_lw_763 : decode code 763 = .ok (.aload_n 0, 1) := by decide +kernel
theorem d_lw_764 : decode code 764 = .ok (.iload 4, 2) := by decide +kernel
theorem d_lw_766 : decode code 766 = .ok (.iconst 4, 1) := by decide +kernel
theorem d_lw_767 : decode code 767 = .ok (.iadd, 1) := by decide +kernel
theorem d_lw_768 : decode code 768 = .ok (.iaload, 1) := by decide +kernel
theorem d_lw_769 : decode code 769 = .ok (.invokevirtual 84, 3) := by decide +kernel
theorem d_lw_772 : decode code 772 = .ok (.pop, 1) := by decide +kernel
theorem d_lw_773 : decode code 773 = .ok (.aload_n 2, 1) := by decide +kernel
theorem d_lw_774 : decode code 774 = .ok (.aload_n 0, 1) := by decide +kernel
theorem d_lw_775 : decode code 775 = .ok (.iload 4, 2) := by decide +kernel
theorem d_lw_777 : decode code 777 = .ok (.iconst 1, 1) := by decide +kernel
theorem d_lw_778 : decode code 778 = .ok (.iadd, 1) := by decide +kernel
theorem d_lw_779 : decode code 779 = .ok (.iaload, 1) := by decide +kernel
theorem d_lw_780 : decode code 780 = .ok (.aload_n 0, 1) := by decide +kernel
theorem d_lw_781 : decode code 781 = .ok (.iload 4, 2) := by decide +kernel
theorem d_lw_783 : decode code 783 = .ok (.iconst 2, 1) := by decide +kernel
theorem d_lw_784 : decode code 784 = .ok (.iadd, 1) := by decide +kernel
theorem d_lw_785 : decode code 785 = .ok (.iaload, 1) := by decide +kernel
theorem d_lw_786 : decode code 786 = .ok (.aload_n 0, 1) := by decide +kernel
theorem d_lw_787 : decode code 787 = .ok (.iload 4, 2) := by decide +kernel
theorem d_lw_789 : decode code 789 = .ok (.iconst 3, 1) := by decide +kernel
theorem d_lw_790 : decode code 790 = .ok (.iadd, 1) := by decide +kernel
theorem d_lw_791 : decode code 791 = .ok (.iaload, 1) := by decide +kernel
theorem d_lw_792 : decode code 792 = .ok (.aload_n 0, 1) := by decide +kernel
theorem d_lw_793 : decode code 793 = .ok (.iload 4, 2) := by decide +kernel
theorem d_lw_795 : decode code 795 = .ok (.iconst 4, 1) := by decide +kernel
theorem d_lw_796 : decode code 796 = .ok (.iadd, 1) := by decide +kernel
theorem d_lw_797 : decode code 797 = .ok (.iaload, 1) := by decide +kernel
theorem d_lw_798 : decode code 798 = .ok (.invokevirtual 87, 3) := by decide +kernel
theorem d_lw_801 : decode code 801 = .ok (.pop, 1) := by decide +kernel
theorem d_lw_802 : decode code 802 = .ok (.goto 1390, 3) := by decide +kernel
theorem d_lw_805 : decode code 805 = .ok (.aload_n 1, 1) := by decide +kernel
theorem d_lw_806 : decode code 806 = .ok (.aload_n 0, 1) := by decide +kernel
theorem d_lw_807 : decode code 807 = .ok (.iload 4, 2) := by decide +kernel
theorem d_lw_809 : decode code 809 = .ok (.iconst 1, 1) := by decide +kernel
theorem d_lw_810 : decode code 810 = .ok (.iadd, 1) := by decide +kernel
theorem d_lw_811 : decode code 811 = .ok (.iaload, 1) := by decide +kernel
theorem d_lw_812 : decode code 812 = .ok (.aload_n 0, 1) := by decide +kernel
theorem d_lw_813 : decode code 813 = .ok (.iload 4, 2) := by decide +kernel
theorem d_lw_815 : decode code 815 = .ok (.iconst 2, 1) := by decide +kernel
theorem d_lw_816 : decode code 816 = .ok (.iadd, 1) := by decide +kernel
theorem d_lw_817 : decode code 817 = .ok (.iaload, 1) := by decide +kernel
theorem d_lw_818 : decode code 818 = .ok (.aload_n 0, 1) := by decide +kernel
theorem d_lw_819 : decode code 819 = .ok (.iload 4, 2) := by decide +kernel
theorem d_lw_821 : decode code 821 = .ok (.iconst 3, 1) := by decide +kernel
theorem d_lw_822 : decode code 822 = .ok (.iadd, 1) := by decide +kernel
theorem d_lw_823 : decode code 823 = .ok (.iaload, 1) := by decide +kernel
theorem d_lw_824 : decode code 824 = .ok (.invokevirtual 88, 3) := by decide +kernel
theorem d_lw_827 : decode code 827 = .ok (.pop, 1) := by decide +kernel
theorem d_lw_828 : decode code 828 = .ok (.aload_n 2, 1) := by decide +kernel
theorem d_lw_829 : decode code 829 = .ok (.aload_n 0, 1) := by decide +kernel
theorem d_lw_830 : decode code 830 = .ok (.iload 4, 2) := by decide +kernel
theorem d_lw_832 : decode code 832 = .ok (.iconst 1, 1) := by decide +kernel
theorem d_lw_833 : decode code 833 = .ok (.iadd, 1) := by decide +kernel
theorem d_lw_834 : decode code 834 = .ok (.iaload, 1) := by decide +kernel
theorem d_lw_835 : decode code 835 = .ok (.aload_n 0, 1) := by decide +kernel
theorem d_lw_836 : decode code 836 = .ok (.iload 4, 2) := by decide +kernel
theorem d_lw_838 : decode code 838 = .ok (.iconst 2, 1) := by decide +kernel
theorem d_lw_839 : decode code 839 = .ok (.iadd, 1) := by decide +kernel
theorem d_lw_840 : decode code 840 = .ok (.iaload, 1) := by decide +kernel
theorem d_lw_841 : decode code 841 = .ok (.aload_n 0, 1) := by decide +kernel
theorem d_lw_842 : decode code 842 = .ok (.iload 4, 2) := by decide +kernel
theorem d_lw_844 : decode code 844 = .ok (.iconst 3, 1) := by decide +kernel
theorem d_lw_845 : decode code 845 = .ok (.iadd, 1) := by decide +kernel
theorem d_lw_846 : decode code 846 = .ok (.iaload, 1) := by decide +kernel
theorem d_lw_847 : decode code 847 = .ok (.invokevirtual 91, 3) := by decide +kernel
theorem d_lw_850 : decode code 850 = .ok (.pop, 1) := by decide +kernel
theorem d_lw_851 : decode code 851 = .ok (.goto 1341, 3) := by decide +kernel
theorem d_lw_854 : decode code 854 = .ok (.aload_n 1, 1) := by decide +kernel
theorem d_lw_855 : decode code 855 = .ok (.invokevirtual 92, 3) := by decide +kernel
theorem d_lw_858 : decode code 858 = .ok (.pop, 1) := by decide +kernel
theorem d_lw_859 : decode code 859 = .ok (.aload_n 2, 1) := by decide +kernel
theorem d_lw_860 : decode code 860 = .ok (.invokevirtual 95, 3) := by decide +kernel
theorem d_lw_863 : decode code 863 = .ok (.pop, 1) := by decide +kernel
theorem d_lw_864 : decode code 864 = .ok (.goto 1328, 3) := by decide +kernel
theorem d_lw_867 : decode code 867 = .ok (.aload_n 1, 1) := by decide +kernel
theorem d_lw_868 : decode code 868 = .ok (.invokevirtual 96, 3) := by decide +kernel
theorem d_lw_871 : decode code 871 = .ok (.pop, 1) := by decide +kernel
theorem d_lw_872 : decode code 872 = .ok (.aload_n 2, 1) := by decide +kernel
theorem d_lw_873 : decode code 873 = .ok (.invokevirtual 99, 3) := by decide +kernel
theorem d_lw_876 : decode code 876 = .ok (.pop, 1) := by decide +kernel
theorem d_lw_877 : decode code 877 = .ok (.goto 1315, 3) := by decide +kernel
theorem d_lw_880 : decode code 880 = .ok (.aload_n 1, 1) := by decide +kernel
theorem d_lw_881 : decode code 881 = .ok (.invokevirtual 100, 3) := by decide +kernel
theorem d_lw_884 : decode code 884 = .ok (.pop, 1) := by decide +kernel
theorem d_lw_885 : decode code 885 = .ok (.aload_n 2, 1) := by decide +kernel
theorem d_lw_886 : decode code 886 = .ok (.invokevirtual 103, 3) := by decide +kernel
theorem d_lw_889 : decode code 889 = .ok (.pop, 1) := by decide +kernel
theorem d_lw_890 : decode code 890 = .ok (.goto 1302, 3) := by decide +kernel
theorem d_lw_893 : decode code 893 = .ok (.aload_n 1, 1) := by decide +kernel
theorem d_lw_894 : decode code 894 = .ok (.aload_n 0, 1) := by decide +kernel
theorem d_lw_895 : decode code 895 = .ok (.iload 4, 2) := by decide +kernel
theorem d_lw_897 : decode code 897 = .ok (.iconst 1, 1) := by decide +kernel
theorem d_lw_898 : decode code 898 = .ok (.iadd, 1) := by decide +kernel
theorem d_lw_899 : decode code 899 = .ok (.iaload, 1) := by decide +kernel
theorem d_lw_900 : decode code 900 = .ok (.aload_n 0, 1) := by decide +kernel
theorem d_lw_901 : decode code 901 = .ok (.iload 4, 2) := by decide +kernel
theorem d_lw_903 : decode code 903 = .ok (.iconst 2, 1) := by decide +kernel
theorem d_lw_904 : decode code 904 = .ok (.iadd, 1) := by decide +kernel
theorem d_lw_905 : decode code 905 = .ok (.iaload, 1) := by decide +kernel
theorem d_lw_906 : decode code 906 = .ok (.invokevirtual 104, 3) := by decide +kernel
theorem d_lw_909 : decode code 909 = .ok (.pop, 1) := by decide +kernel
theorem d_lw_910 : decode code 910 = .ok (.aload_n 2, 1) := by decide +kernel
theorem d_lw_911 : decode code 911 = .ok (.aload_n 0, 1) := by decide +kernel
theorem d_lw_912 : decode code 912 = .ok (.iload 4, 2) := by decide +kernel
theorem d_lw_914 : decode code 914 = .ok (.iconst 1, 1) := by decide +kernel
theorem d_lw_915 : decode code 915 = .ok (.iadd, 1) := by decide +kernel
theorem d_lw_916 : decode code 916 = .ok (.iaload, 1) := by decide +kernel
theorem d_lw_917 : decode code 917 = .ok (.aload_n 0, 1) := by decide +kernel
theorem d_lw_918 : decode code 918 = .ok (.iload 4, 2) := by decide +kernel
theorem d_lw_920 : decode code 920 = .ok (.iconst 2, 1) := by decide +kernel
theorem d_lw_921 : decode code 921 = .ok (.iadd, 1) := by decide +kernel
theorem d_lw_922 : decode code 922 = .ok (.iaload, 1) := by decide +kernel
theorem d_lw_923 : decode code 923 = .ok (.invokevirtual 107, 3) := by decide +kernel
theorem d_lw_926 : decode code 926 = .ok (.pop, 1) := by decide +kernel
theorem d_lw_927 : decode code 927 = .ok (.goto 1265, 3) := by decide +kernel
theorem d_lw_930 : decode code 930 = .ok (.aload_n 1, 1) := by decide +kernel
theorem d_lw_931 : decode code 931 = .ok (.invokevirtual 108, 3) := by decide +kernel
theorem d_lw_934 : decode code 934 = .ok (.pop, 1) := by decide +kernel
theorem d_lw_935 : decode code 935 = .ok (.aload_n 2, 1) := by decide +kernel
theorem d_lw_936 : decode code 936 = .ok (.invokevirtual 111, 3) := by decide +kernel
theorem d_lw_939 : decode code 939 = .ok (.pop, 1) := by decide +kernel
theorem d_lw_940 : decode code 940 = .ok (.goto 1252, 3) := by decide +kernel
theorem d_lw_943 : decode code 943 = .ok (.aload_n 1, 1) := by decide +kernel
theorem d_lw_944 : decode code 944 = .ok (.aload_n 0, 1) := by decide +kernel
theorem d_lw_945 : decode code 945 = .ok (.iload 4, 2) := by decide +kernel
theorem d_lw_947 : decode code 947 = .ok (.iconst 1, 1) := by decide +kernel
theorem d_lw_948 : decode code 948 = .ok (.iadd, 1) := by decide +kernel
theorem d_lw_949 : decode code 949 = .ok (.iaload, 1) := by decide +kernel
theorem d_lw_950 : decode code 950 = .ok (.aload_n 0, 1) := by decide +kernel
theorem d_lw_951 : decode code 951 = .ok (.iload 4, 2) := by decide +kernel
theorem d_lw_953 : decode code 953 = .ok (.iconst 2, 1) := by decide +kernel
theorem d_lw_954 : decode code 954 = .ok (.iadd, 1) := by decide +kernel
theorem d_lw_955 : decode code 955 = .ok (.iaload, 1) := by decide +kernel
theorem d_lw_956 : decode code 956 = .ok (.invokevirtual 112, 3) := by decide +kernel
theorem d_lw_959 : decode code 959 = .ok (.pop, 1) := by decide +kernel
theorem d_lw_960 : decode code 960 = .ok (.aload_n 2, 1) := by decide +kernel
theorem d_lw_961 : decode code 961 = .ok (.aload_n 0, 1) := by decide +kernel
theorem d_lw_962 : decode code 962 = .ok (.iload 4, 2) := by decide +kernel
theorem d_lw_964 : decode code 964 = .ok (.iconst 1, 1) := by decide +kernel
theorem d_lw_965 : decode code 965 = .ok (.iadd, 1) := by decide +kernel
theorem d_lw_966 : decode code 966 = .ok (.iaload, 1) := by decide +kernel
theorem d_lw_967 : decode code 967 = .ok (.aload_n 0, 1) := by decide +kernel
theorem d_lw_968 : decode code 968 = .ok (.iload 4, 2) := by decide +kernel
theorem d_lw_970 : decode code 970 = .ok (.iconst 2, 1) := by decide +kernel
theorem d_lw_971 : decode code 971 = .ok (.iadd, 1) := by decide +kernel
theorem d_lw_972 : decode code 972 = .ok (.iaload, 1) := by decide +kernel
theorem d_lw_973 : decode code 973 = .ok (.invokevirtual 115, 3) := by decide +kernel
theorem d_lw_976 : decode code 976 = .ok (.pop, 1) := by decide +kernel
theorem d_lw_977 : decode code 977 = .ok (.goto 1215, 3) := by decide +kernel
theorem d_lw_980 : decode code 980 = .ok (.aload_n 1, 1) := by decide +kernel
theorem d_lw_981 : decode code 981 = .ok (.aload_n 0, 1) := by decide +kernel
theorem d_lw_982 : decode code 982 = .ok (.iload 4, 2) := by decide +kernel
theorem d_lw_984 : decode code 984 = .ok (.iconst 1, 1) := by decide +kernel
theorem d_lw_985 : decode code 985 = .ok (.iadd, 1) := by decide +kernel
theorem d_lw_986 : decode code 986 = .ok (.iaload, 1) := by decide +kernel
theorem d_lw_987 : decode code 987 = .ok (.aload_n 0, 1) := by decide +kernel
theorem d_lw_988 : decode code 988 = .ok (.iload 4, 2) := by decide +kernel
theorem d_lw_990 : decode code 990 = .ok (.iconst 2, 1) := by decide +kernel
theorem d_lw_991 : decode code 991 = .ok (.iadd, 1) := by decide +kernel
theorem d_lw_992 : decode code 992 = .ok (.iaload, 1) := by decide +kernel
theorem d_lw_993 : decode code 993 = .ok (.aload_n 0, 1) := by decide +kernel
theorem d_lw_994 : decode code 994 = .ok (.iload 4, 2) := by decide +kernel
theorem d_lw_996 : decode code 996 = .ok (.iconst 3, 1) := by decide +kernel
theorem d_lw_997 : decode code 997 = .ok (.iadd, 1) := by decide +kernel
theorem d_lw_998 : decode code 998 = .ok (.iaload, 1) := by decide +kernel
theorem d_lw_999 : decode code 999 = .ok (.invokevirtual 116, 3) := by decide +kernel
theorem d_lw_1002 : decode code 1002 = .ok (.pop, 1) := by decide +kernel
theorem d_lw_1003 : decode code 1003 = .ok (.aload_n 2, 1) := by decide +kernel
theorem d_lw_1004 : decode code 1004 = .ok (.aload_n 0, 1) := by decide +kernel
theorem d_lw_1005 : decode code 1005 = .ok (.iload 4, 2) := by decide +kernel
theorem d_lw_1007 : decode code 1007 = .ok (.iconst 1, 1) := by decide +kernel
theorem d_lw_1008 : decode code 1008 = .ok (.iadd, 1) := by decide +kernel
theorem d_lw_1009 : decode code 1009 = .ok (.iaload, 1) := by decide +kernel
theorem d_lw_1010 : decode code 1010 = .ok (.aload_n 0, 1) := by decide +kernel
theorem d_lw_1011 : decode code 1011 = .ok (.iload 4, 2) := by decide +kernel
theorem d_lw_1013 : decode code 1013 = .ok (.iconst 2, 1) := by decide +kernel
theorem d_lw_1014 : decode code 1014 = .ok (.iadd, 1) := by decide +kernel
theorem d_lw_1015 : decode code 1015 = .ok (.iaload, 1) := by decide +kernel
theorem d_lw_1016 : decode code 1016 = .ok (.aload_n 0, 1) := by decide +kernel
theorem d_lw_1017 : decode code 1017 = .ok (.iload 4, 2) := by decide +kernel
theorem d_lw_1019 : decode code 1019 = .ok (.iconst 3, 1) := by decide +kernel
theorem d_lw_1020 : decode code 1020 = .ok (.iadd, 1) := by decide +kernel
theorem d_lw_1021 : decode code 1021 = .ok (.iaload, 1) := by decide +kernel
theorem d_lw_1022 : decode code 1022 = .ok (.invokevirtual 119, 3) := by decide +kernel
theorem d_lw_1025 : decode code 1025 = .ok (.pop, 1) := by decide +kernel
theorem d_lw_1026 : decode code 1026 = .ok (.goto 1166, 3) := by decide +kernel
theorem d_lw_1029 : decode code 1029 = .ok (.aload_n 1, 1) := by decide +kernel
theorem d_lw_1030 : decode code 1030 = .ok (.aload_n 0, 1) := by decide +kernel
theorem d_lw_1031 : decode code 1031 = .ok (.iload 4, 2) := by decide +kernel
theorem d_lw_1033 : decode code 1033 = .ok (.iconst 1, 1) := by decide +kernel
theorem d_lw_1034 : decode code 1034 = .ok (.iadd, 1) := by decide +kernel
theorem d_lw_1035 : decode code 1035 = .ok (.iaload, 1) := by decide +kernel
theorem d_lw_1036 : decode code 1036 = .ok (.aload_n 0, 1) := by decide +kernel
theorem d_lw_1037 : decode code 1037 = .ok (.iload 4, 2) := by decide +kernel
theorem d_lw_1039 : decode code 1039 = .ok (.iconst 2, 1) := by decide +kernel
theorem d_lw_1040 : decode code 1040 = .ok (.iadd, 1) := by decide +kernel
theorem d_lw_1041 : decode code 1041 = .ok (.iaload, 1) := by decide +kernel
theorem d_lw_1042 : decode code 1042 = .ok (.aload_n 0, 1) := by decide +kernel
theorem d_lw_1043 : decode code 1043 = .ok (.iload 4, 2) := by decide +kernel
theorem d_lw_1045 : decode code 1045 = .ok (.iconst 3, 1) := by decide +kernel
theorem d_lw_1046 : decode code 1046 = .ok (.iadd, 1) := by decide +kernel
theorem d_lw_1047 : decode code 1047 = .ok (.iaload, 1) := by decide +kernel
theorem d_lw_1048 : decode code 1048 = .ok (.invokevirtual 120, 3) := by decide +kernel
theorem d_lw_1051 : decode code 1051 = .ok (.aload_n 2, 1) := by decide +kernel
theorem d_lw_1052 : decode code 1052 = .ok (.aload_n 0, 1) := by decide +kernel
theorem d_lw_1053 : decode code 1053 = .ok (.iload 4, 2) := by decide +kernel
theorem d_lw_1055 : decode code 1055 = .ok (.iconst 1, 1) := by decide +kernel
theorem d_lw_1056 : decode code 1056 = .ok (.iadd, 1) := by decide +kernel
theorem d_lw_1057 : decode code 1057 = .ok (.iaload, 1) := by decide +kernel
theorem d_lw_1058 : decode code 1058 = .ok (.aload_n 0, 1) := by decide +kernel
theorem d_lw_1059 : decode code 1059 = .ok (.iload 4, 2) := by decide +kernel
theorem d_lw_1061 : decode code 1061 = .ok (.iconst 2, 1) := by decide +kernel
theorem d_lw_1062 : decode code 1062 = .ok (.iadd, 1) := by decide +kernel
theorem d_lw_1063 : decode code 1063 = .ok (.iaload, 1) := by decide +kernel
theorem d_lw_1064 : decode code 1064 = .ok (.aload_n 0, 1) := by decide +kernel
theorem d_lw_1065 : decode code 1065 = .ok (.iload 4, 2) := by decide +kernel
theorem d_lw_1067 : decode code 1067 = .ok (.iconst 3, 1) := by decide +kernel
theorem d_lw_1068 : decode code 1068 = .ok (.iadd, 1) := by decide +kernel
theorem d_lw_1069 : decode code 1069 = .ok (.iaload, 1) := by decide +kernel
theorem d_lw_1070 : decode code 1070 = .ok (.invokevirtual 123, 3) := by decide +kernel
theorem d_lw_1073 : decode code 1073 = .ok (.if_icmp .eq 1119, 3) := by decide +kernel
theorem d_lw_1076 : decode code 1076 = .ok (.iconst 0, 1) := by decide +kernel
theorem d_lw_1077 : decode code 1077 = .ok (.ireturn, 1) := by decide +kernel
theorem d_lw_1078 : decode code 1078 = .ok (.aload_n 1, 1) := by decide +kernel
theorem d_lw_1079 : decode code 1079 = .ok (.aload_n 0, 1) := by decide +kernel
theorem d_lw_1080 : decode code 1080 = .ok (.iload 4, 2) := by decide +kernel
theorem d_lw_1082 : decode code 1082 = .ok (.iconst 1, 1) := by decide +kernel
theorem d_lw_1083 : decode code 1083 = .ok (.iadd, 1) := by decide +kernel
theorem d_lw_1084 : decode code 1084 = .ok (.iaload, 1) := by decide +kernel
theorem d_lw_1085 : decode code 1085 = .ok (.aload_n 0, 1) := by decide +kernel
theorem d_lw_1086 : decode code 1086 = .ok (.iload 4, 2) := by decide +kernel
theorem d_lw_1088 : decode code 1088 = .ok (.iconst 2, 1) := by decide +kernel
theorem d_lw_1089 : decode code 1089 = .ok (.iadd, 1) := by decide +kernel
theorem d_lw_1090 : decode code 1090 = .ok (.iaload, 1) := by decide +kernel
theorem d_lw_1091 : decode code 1091 = .ok (.invokevirtual 124, 3) := by decide +kernel
theorem d_lw_1094 : decode code 1094 = .ok (.pop, 1) := by decide +kernel
theorem d_lw_1095 : decode code 1095 = .ok (.aload_n 2, 1) := by decide +kernel
theorem d_lw_1096 : decode code 1096 = .ok (.aload_n 0, 1) := by decide +kernel
theorem d_lw_1097 : decode code 1097 = .ok (.iload 4, 2) := by decide +kernel
theorem d_lw_1099 : decode code 1099 = .ok (.iconst 1, 1) := by decide +kernel
theorem d_lw_1100 : decode code 1100 = .ok (.iadd, 1) := by decide +kernel
theorem d_lw_1101 : decode code 1101 = .ok (.iaload, 1) := by decide +kernel
theorem d_lw_1102 : decode code 1102 = .ok (.aload_n 0, 1) := by decide +kernel
theorem d_lw_1103 : decode code 1103 = .ok (.iload 4, 2) := by decide +kernel
theorem d_lw_1105 : decode code 1105 = .ok (.iconst 2, 1) := by decide +kernel
theorem d_lw_1106 : decode code 1106 = .ok (.iadd, 1) := by decide +kernel
theorem d_lw_1107 : decode code 1107 = .ok (.iaload, 1) := by decide +kernel
theorem d_lw_1108 : decode code 1108 = .ok (.invokevirtual 127, 3) := by decide +kernel
theorem d_lw_1111 : decode code 1111 = .ok (.pop, 1) := by decide +kernel
theorem d_lw_1112 : decode code 1112 = .ok (.goto 1080, 3) := by decide +kernel
theorem d_lw_1115 : decode code 1115 = .ok (.aload_n 1, 1) := by decide +kernel
theorem d_lw_1116 : decode code 1116 = .ok (.aload_n 0, 1) := by decide +kernel
theorem d_lw_1117 : decode code 1117 = .ok (.iload 4, 2) := by decide +kernel
theorem d_lw_1119 : decode code 1119 = .ok (.iconst 1, 1) := by decide +kernel
theorem d_lw_1120 : decode code 1120 = .ok (.iadd, 1) := by decide +kernel
theorem d_lw_1121 : decode code 1121 = .ok (.iaload, 1) := by decide +kernel
theorem d_lw_1122 : decode code 1122 = .ok (.aload_n 0, 1) := by decide +kernel
theorem d_lw_1123 : decode code 1123 = .ok (.iload 4, 2) := by decide +kernel
theorem d_lw_1125 : decode code 1125 = .ok (.iconst 2, 1) := by decide +kernel
theorem d_lw_1126 : decode code 1126 = .ok (.iadd, 1) := by decide +kernel
theorem d_lw_1127 : decode code 1127 = .ok (.iaload, 1) := by decide +kernel
theorem d_lw_1128 : decode code 1128 = .ok (.aload_n 0, 1) := by decide +kernel
theorem d_lw_1129 : decode code 1129 = .ok (.iload 4, 2) := by decide +kernel
theorem d_lw_1131 : decode code 1131 = .ok (.iconst 3, 1) := by decide +kernel
theorem d_lw_1132 : decode code 1132 = .ok (.iadd, 1) := by decide +kernel
theorem d_lw_1133 : decode code 1133 = .ok (.iaload, 1) := by decide +kernel
theorem d_lw_1134 : decode code 1134 = .ok (.aload_n 0, 1) := by decide +kernel
theorem d_lw_1135 : decode code 1135 = .ok (.iload 4, 2) := by decide +kernel
theorem d_lw_1137 : decode code 1137 = .ok (.iconst 4, 1) := by decide +kernel
theorem d_lw_1138 : decode code 1138 = .ok (.iadd, 1) := by decide +kernel
theorem d_lw_1139 : decode code 1139 = .ok (.iaload, 1) := by decide +kernel
theorem d_lw_1140 : decode code 1140 = .ok (.invokevirtual 128, 3) := by decide +kernel
theorem d_lw_1143 : decode code 1143 = .ok (.pop, 1) := by decide +kernel
theorem d_lw_1144 : decode code 1144 = .ok (.aload_n 2, 1) := by decide +kernel
theorem d_lw_1145 : decode code 1145 = .ok (.aload_n 0, 1) := by decide +kernel
theorem d_lw_1146 : decode code 1146 = .ok (.iload 4, 2) := by decide +kernel
theorem d_lw_1148 : decode code 1148 = .ok (.iconst 1, 1) := by decide +kernel
theorem d_lw_1149 : decode code 1149 = .ok (.iadd, 1) := by decide +kernel
theorem d_lw_1150 : decode code 1150 = .ok (.iaload, 1) := by decide +kernel
theorem d_lw_1151 : decode code 1151 = .ok (.aload_n 0, 1) := by decide +kernel
theorem d_lw_1152 : decode code 1152 = .ok (.iload 4, 2) := by decide +kernel
theorem d_lw_1154 : decode code 1154 = .ok (.iconst 2, 1) := by decide +kernel
theorem d_lw_1155 : decode code 1155 = .ok (.iadd, 1) := by decide +kernel
theorem d_lw_1156 : decode code 1156 = .ok (.iaload, 1) := by decide +kernel
theorem d_lw_1157 : decode code 1157 = .ok (.aload_n 0, 1) := by decide +kernel
theorem d_lw_1158 : decode code 1158 = .ok (.iload 4, 2) := by decide +kernel
theorem d_lw_1160 : decode code 1160 = .ok (.iconst 3, 1) := by decide +kernel
theorem d_lw_1161 : decode code 1161 = .ok (.iadd, 1) := by decide +kernel
theorem d_lw_1162 : decode code 1162 = .ok (.iaload, 1) := by decide +kernel
theorem d_lw_1163 : decode code 1163 = .ok (.aload_n 0, 1) := by decide +kernel
theorem d_lw_1164 : decode code 1164 = .ok (.iload 4, 2) := by decide +kernel
theorem d_lw_1166 : decode code 1166 = .ok (.iconst 4, 1) := by decide +kernel
theorem d_lw_1167 : decode code 1167 = .ok (.iadd, 1) := by decide +kernel
theorem d_lw_1168 : decode code 1168 = .ok (.iaload, 1) := by decide +kernel
theorem d_lw_1169 : decode code 1169 = .ok (.invokevirtual 131, 3) := by decide +kernel
theorem d_lw_1172 : decode code 1172 = .ok (.pop, 1) := by decide +kernel
theorem d_lw_1173 : decode code 1173 = .ok (.goto 1019, 3) := by decide +kernel
theorem d_lw_1176 : decode code 1176 = .ok (.aload_n 1, 1) := by decide +kernel
theorem d_lw_1177 : decode code 1177 = .ok (.aload_n 0, 1) := by decide +kernel
theorem d_lw_1178 : decode code 1178 = .ok (.iload 4, 2) := by decide +kernel
theorem d_lw_1180 : decode code 1180 = .ok (.iconst 1, 1) := by decide +kernel
theorem d_lw_1181 : decode code 1181 = .ok (.iadd, 1) := by decide +kernel
theorem d_lw_1182 : decode code 1182 = .ok (.iaload, 1) := by decide +kernel
theorem d_lw_1183 : decode code 1183 = .ok (.invokevirtual 132, 3) := by decide +kernel
theorem d_lw_1186 : decode code 1186 = .ok (.pop2, 1) := by decide +kernel
theorem d_lw_1187 : decode code 1187 = .ok (.aload_n 2, 1) := by decide +kernel
theorem d_lw_1188 : decode code 1188 = .ok (.aload_n 0, 1) := by decide +kernel
theorem d_lw_1189 : decode code 1189 = .ok (.iload 4, 2) := by decide +kernel
theorem d_lw_1191 : decode code 1191 = .ok (.iconst 1, 1) := by decide +kernel
theorem d_lw_1192 : decode code 1192 = .ok (.iadd, 1) := by decide +kernel
theorem d_lw_1193 : decode code 1193 = .ok (.iaload, 1) := by decide +kernel
theorem d_lw_1194 : decode code 1194 = .ok (.invokevirtual 135, 3) := by decide +kernel
theorem d_lw_1197 : decode code 1197 = .ok (.pop2, 1) := by decide +kernel
theorem d_lw_1198 : decode code 1198 = .ok (.goto 994, 3) := by decide +kernel
theorem d_lw_1201 : decode code 1201 = .ok (.aload_n 1, 1) := by decide +kernel
theorem d_lw_1202 : decode code 1202 = .ok (.aload_n 0, 1) := by decide +kernel
