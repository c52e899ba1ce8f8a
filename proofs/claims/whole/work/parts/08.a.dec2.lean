theorem dL_791 : decode code 791 = .ok (.iconst 2, 1) := by decide +kernel
theorem dL_792 : decode code 792 = .ok (.iadd, 1) := by decide +kernel
theorem dL_793 : decode code 793 = .ok (.iaload, 1) := by decide +kernel
theorem dL_794 : decode code 794 = .ok (.invokevirtual 97, 3) := by decide +kernel
theorem dL_797 : decode code 797 = .ok (.if_icmp .eq 590, 3) := by decide +kernel
theorem dL_800 : decode code 800 = .ok (.iconst 0, 1) := by decide +kernel
theorem dL_801 : decode code 801 = .ok (.ireturn, 1) := by decide +kernel
theorem dL_802 : decode code 802 = .ok (.aload_n 1, 1) := by decide +kernel
theorem dL_803 : decode code 803 = .ok (.aload_n 0, 1) := by decide +kernel
theorem dL_804 : decode code 804 = .ok (.iload_n 3, 1) := by decide +kernel
theorem dL_805 : decode code 805 = .ok (.iconst 1, 1) := by decide +kernel
theorem dL_806 : decode code 806 = .ok (.iadd, 1) := by decide +kernel
theorem dL_807 : decode code 807 = .ok (.iaload, 1) := by decide +kernel
theorem dL_808 : decode code 808 = .ok (.aload_n 0, 1) := by decide +kernel
theorem dL_809 : decode code 809 = .ok (.iload_n 3, 1) := by decide +kernel
theorem dL_810 : decode code 810 = .ok (.iconst 2, 1) := by decide +kernel
theorem dL_811 : decode code 811 = .ok (.iadd, 1) := by decide +kernel
theorem dL_812 : decode code 812 = .ok (.iaload, 1) := by decide +kernel
theorem dL_813 : decode code 813 = .ok (.invokevirtual 98, 3) := by decide +kernel
theorem dL_816 : decode code 816 = .ok (.aload_n 2, 1) := by decide +kernel
theorem dL_817 : decode code 817 = .ok (.aload_n 0, 1) := by decide +kernel
theorem dL_818 : decode code 818 = .ok (.iload_n 3, 1) := by decide +kernel
theorem dL_819 : decode code 819 = .ok (.iconst 1, 1) := by decide +kernel
theorem dL_820 : decode code 820 = .ok (.iadd, 1) := by decide +kernel
theorem dL_821 : decode code 821 = .ok (.iaload, 1) := by decide +kernel
theorem dL_822 : decode code 822 = .ok (.aload_n 0, 1) := by decide +kernel
theorem dL_823 : decode code 823 = .ok (.iload_n 3, 1) := by decide +kernel
theorem dL_824 : decode code 824 = .ok (.iconst 2, 1) := by decide +kernel
theorem dL_825 : decode code 825 = .ok (.iadd, 1) := by decide +kernel
theorem dL_826 : decode code 826 = .ok (.iaload, 1) := by decide +kernel
theorem dL_827 : decode code 827 = .ok (.invokevirtual 101, 3) := by decide +kernel
theorem dL_830 : decode code 830 = .ok (.if_icmp .eq 557, 3) := by decide +kernel
theorem dL_833 : decode code 833 = .ok (.iconst 0, 1) := by decide +kernel
theorem dL_834 : decode code 834 = .ok (.ireturn, 1) := by decide +kernel
theorem dL_835 : decode code 835 = .ok (.aload_n 1, 1) := by decide +kernel
theorem dL_836 : decode code 836 = .ok (.aload_n 0, 1) := by decide +kernel
theorem dL_837 : decode code 837 = .ok (.iload_n 3, 1) := by decide +kernel
theorem dL_838 : decode code 838 = .ok (.iconst 1, 1) := by decide +kernel
theorem dL_839 : decode code 839 = .ok (.iadd, 1) := by decide +kernel
theorem dL_840 : decode code 840 = .ok (.iaload, 1) := by decide +kernel
theorem dL_841 : decode code 841 = .ok (.aload_n 0, 1) := by decide +kernel
theorem dL_842 : decode code 842 = .ok (.iload_n 3, 1) := by decide +kernel
theorem dL_843 : decode code 843 = .ok (.iconst 2, 1) := by decide +kernel
theorem dL_844 : decode code 844 = .ok (.iadd, 1) := by decide +kernel
theorem dL_845 : decode code 845 = .ok (.iaload, 1) := by decide +kernel
theorem dL_846 : decode code 846 = .ok (.aload_n 0, 1) := by decide +kernel
theorem dL_847 : decode code 847 = .ok (.iload_n 3, 1) := by decide +kernel
theorem dL_848 : decode code 848 = .ok (.iconst 3, 1) := by decide +kernel
theorem dL_849 : decode code 849 = .ok (.iadd, 1) := by decide +kernel
theorem dL_850 : decode code 850 = .ok (.iaload, 1) := by decide +kernel
theorem dL_851 : decode code 851 = .ok (.invokevirtual 102, 3) := by decide +kernel
theorem dL_854 : decode code 854 = .ok (.aload_n 2, 1) := by decide +kernel
theorem dL_855 : decode code 855 = .ok (.aload_n 0, 1) := by decide +kernel
theorem dL_856 : decode code 856 = .ok (.iload_n 3, 1) := by decide +kernel
theorem dL_857 : decode code 857 = .ok (.iconst 1, 1) := by decide +kernel
theorem dL_858 : decode code 858 = .ok (.iadd, 1) := by decide +kernel
theorem dL_859 : decode code 859 = .ok (.iaload, 1) := by decide +kernel
theorem dL_860 : decode code 860 = .ok (.aload_n 0, 1) := by decide +kernel
theorem dL_861 : decode code 861 = .ok (.iload_n 3, 1) := by decide +kernel
theorem dL_862 : decode code 862 = .ok (.iconst 2, 1) := by decide +kernel
theorem dL_863 : decode code 863 = .ok (.iadd, 1) := by decide +kernel
theorem dL_864 : decode code 864 = .ok (.iaload, 1) := by decide +kernel
theorem dL_865 : decode code 865 = .ok (.aload_n 0, 1) := by decide +kernel
theorem dL_866 : decode code 866 = .ok (.iload_n 3, 1) := by decide +kernel
theorem dL_867 : decode code 867 = .ok (.iconst 3, 1) := by decide +kernel
theorem dL_868 : decode code 868 = .ok (.iadd, 1) := by decide +kernel
theorem dL_869 : decode code 869 = .ok (.iaload, 1) := by decide +kernel
theorem dL_870 : decode code 870 = .ok (.invokevirtual 105, 3) := by decide +kernel
theorem dL_873 : decode code 873 = .ok (.if_icmp .eq 514, 3) := by decide +kernel
theorem dL_876 : decode code 876 = .ok (.iconst 0, 1) := by decide +kernel
theorem dL_877 : decode code 877 = .ok (.ireturn, 1) := by decide +kernel
theorem dL_878 : decode code 878 = .ok (.aload_n 1, 1) := by decide +kernel
theorem dL_879 : decode code 879 = .ok (.aload_n 0, 1) := by decide +kernel
theorem dL_880 : decode code 880 = .ok (.iload_n 3, 1) := by decide +kernel
theorem dL_881 : decode code 881 = .ok (.iconst 1, 1) := by decide +kernel
theorem dL_882 : decode code 882 = .ok (.iadd, 1) := by decide +kernel
theorem dL_883 : decode code 883 = .ok (.iaload, 1) := by decide +kernel
theorem dL_884 : decode code 884 = .ok (.aload_n 0, 1) := by decide +kernel
theorem dL_885 : decode code 885 = .ok (.iload_n 3, 1) := by decide +kernel
theorem dL_886 : decode code 886 = .ok (.iconst 2, 1) := by decide +kernel
theorem dL_887 : decode code 887 = .ok (.iadd, 1) := by decide +kernel
theorem dL_888 : decode code 888 = .ok (.iaload, 1) := by decide +kernel
theorem dL_889 : decode code 889 = .ok (.invokevirtual 106, 3) := by decide +kernel
theorem dL_892 : decode code 892 = .ok (.aload_n 2, 1) := by decide +kernel
theorem dL_893 : decode code 893 = .ok (.aload_n 0, 1) := by decide +kernel
theorem dL_894 : decode code 894 = .ok (.iload_n 3, 1) := by decide +kernel
theorem dL_895 : decode code 895 = .ok (.iconst 1, 1) := by decide +kernel
theorem dL_896 : decode code 896 = .ok (.iadd, 1) := by decide +kernel
theorem dL_897 : decode code 897 = .ok (.iaload, 1) := by decide +kernel
theorem dL_898 : decode code 898 = .ok (.aload_n 0, 1) := by decide +kernel
theorem dL_899 : decode code 899 = .ok (.iload_n 3, 1) := by decide +kernel
theorem dL_900 : decode code 900 = .ok (.iconst 2, 1) := by decide +kernel
theorem dL_901 : decode code 901 = .ok (.iadd, 1) := by decide +kernel
theorem dL_902 : decode code 902 = .ok (.iaload, 1) := by decide +kernel
theorem dL_903 : decode code 903 = .ok (.invokevirtual 109, 3) := by decide +kernel
theorem dL_906 : decode code 906 = .ok (.if_icmp .eq 481, 3) := by decide +kernel
theorem dL_909 : decode code 909 = .ok (.iconst 0, 1) := by decide +kernel
theorem dL_910 : decode code 910 = .ok (.ireturn, 1) := by decide +kernel
theorem dL_911 : decode code 911 = .ok (.aload_n 1, 1) := by decide +kernel
theorem dL_912 : decode code 912 = .ok (.aload_n 0, 1) := by decide +kernel
theorem dL_913 : decode code 913 = .ok (.iload_n 3, 1) := by decide +kernel
theorem dL_914 : decode code 914 = .ok (.iconst 1, 1) := by decide +kernel
theorem dL_915 : decode code 915 = .ok (.iadd, 1) := by decide +kernel
theorem dL_916 : decode code 916 = .ok (.iaload, 1) := by decide +kernel
theorem dL_917 : decode code 917 = .ok (.aload_n 0, 1) := by decide +kernel
theorem dL_918 : decode code 918 = .ok (.iload_n 3, 1) := by decide +kernel
theorem dL_919 : decode code 919 = .ok (.iconst 2, 1) := by decide +kernel
theorem dL_920 : decode code 920 = .ok (.iadd, 1) := by decide +kernel
theorem dL_921 : decode code 921 = .ok (.iaload, 1) := by decide +kernel
theorem dL_922 : decode code 922 = .ok (.aload_n 0, 1) := by decide +kernel
theorem dL_923 : decode code 923 = .ok (.iload_n 3, 1) := by decide +kernel
theorem dL_924 : decode code 924 = .ok (.iconst 3, 1) := by decide +kernel
theorem dL_925 : decode code 925 = .ok (.iadd, 1) := by decide +kernel
theorem dL_926 : decode code 926 = .ok (.iaload, 1) := by decide +kernel
theorem dL_927 : decode code 927 = .ok (.invokevirtual 110, 3) := by decide +kernel
theorem dL_930 : decode code 930 = .ok (.aload_n 2, 1) := by decide +kernel
theorem dL_931 : decode code 931 = .ok (.aload_n 0, 1) := by decide +kernel
theorem dL_932 : decode code 932 = .ok (.iload_n 3, 1) := by decide +kernel
theorem dL_933 : decode code 933 = .ok (.iconst 1, 1) := by decide +kernel
theorem dL_934 : decode code 934 = .ok (.iadd, 1) := by decide +kernel
theorem dL_935 : decode code 935 = .ok (.iaload, 1) := by decide +kernel
theorem dL_936 : decode code 936 = .ok (.aload_n 0, 1) := by decide +kernel
theorem dL_937 : decode code 937 = .ok (.iload_n 3, 1) := by decide +kernel
theorem dL_938 : decode code 938 = .ok (.iconst 2, 1) := by decide +kernel
theorem dL_939 : decode code 939 = .ok (.iadd, 1) := by decide +kernel
theorem dL_940 : decode code 940 = .ok (.iaload, 1) := by decide +kernel
theorem dL_941 : decode code 941 = .ok (.aload_n 0, 1) := by decide +kernel
theorem dL_942 : decode code 942 = .ok (.iload_n 3, 1) := by decide +kernel
theorem dL_943 : decode code 943 = .ok (.iconst 3, 1) := by decide +kernel
theorem dL_944 : decode code 944 = .ok (.iadd, 1) := by decide +kernel
theorem dL_945 : decode code 945 = .ok (.iaload, 1) := by decide +kernel
theorem dL_946 : decode code 946 = .ok (.invokevirtual 113, 3) := by decide +kernel
theorem dL_949 : decode code 949 = .ok (.if_icmp .eq 438, 3) := by decide +kernel
theorem dL_952 : decode code 952 = .ok (.iconst 0, 1) := by decide +kernel
theorem dL_953 : decode code 953 = .ok (.ireturn, 1) := by decide +kernel
theorem dL_954 : decode code 954 = .ok (.aload_n 1, 1) := by decide +kernel
theorem dL_955 : decode code 955 = .ok (.aload_n 0, 1) := by decide +kernel
theorem dL_956 : decode code 956 = .ok (.iload_n 3, 1) := by decide +kernel
theorem dL_957 : decode code 957 = .ok (.iconst 1, 1) := by decide +kernel
theorem dL_958 : decode code 958 = .ok (.iadd, 1) := by decide +kernel
theorem dL_959 : decode code 959 = .ok (.iaload, 1) := by decide +kernel
theorem dL_960 : decode code 960 = .ok (.aload_n 0, 1) := by decide +kernel
theorem dL_961 : decode code 961 = .ok (.iload_n 3, 1) := by decide +kernel
theorem dL_962 : decode code 962 = .ok (.iconst 2, 1) := by decide +kernel
theorem dL_963 : decode code 963 = .ok (.iadd, 1) := by decide +kernel
theorem dL_964 : decode code 964 = .ok (.iaload, 1) := by decide +kernel
theorem dL_965 : decode code 965 = .ok (.invokevirtual 114, 3) := by decide +kernel
theorem dL_968 : decode code 968 = .ok (.aload_n 2, 1) := by decide +kernel
theorem dL_969 : decode code 969 = .ok (.aload_n 0, 1) := by decide +kernel
theorem dL_970 : decode code 970 = .ok (.iload_n 3, 1) := by decide +kernel
theorem dL_971 : decode code 971 = .ok (.iconst 1, 1) := by decide +kernel
theorem dL_972 : decode code 972 = .ok (.iadd, 1) := by decide +kernel
theorem dL_973 : decode code 973 = .ok (.iaload, 1) := by decide +kernel
theorem dL_974 : decode code 974 = .ok (.aload_n 0, 1) := by decide +kernel
theorem dL_975 : decode code 975 = .ok (.iload_n 3, 1) := by decide +kernel
theorem dL_976 : decode code 976 = .ok (.iconst 2, 1) := by decide +kernel
theorem dL_977 : decode code 977 = .ok (.iadd, 1) := by decide +kernel
theorem dL_978 : decode code 978 = .ok (.iaload, 1) := by decide +kernel
theorem dL_979 : decode code 979 = .ok (.invokevirtual 117, 3) := by decide +kernel
theorem dL_982 : decode code 982 = .ok (.if_icmp .eq 405, 3) := by decide +kernel
theorem dL_985 : decode code 985 = .ok (.iconst 0, 1) := by decide +kernel
theorem dL_986 : decode code 986 = .ok (.ireturn, 1) := by decide +kernel
theorem dL_987 : decode code 987 = .ok (.aload_n 1, 1) := by decide +kernel
theorem dL_988 : decode code 988 = .ok (.aload_n 0, 1) := by decide +kernel
theorem dL_989 : decode code 989 = .ok (.iload_n 3, 1) := by decide +kernel
theorem dL_990 : decode code 990 = .ok (.iconst 1, 1) := by decide +kernel
theorem dL_991 : decode code 991 = .ok (.iadd, 1) := by decide +kernel
theorem dL_992 : decode code 992 = .ok (.iaload, 1) := by decide +kernel
theorem dL_993 : decode code 993 = .ok (.aload_n 0, 1) := by decide +kernel
theorem dL_994 : decode code 994 = .ok (.iload_n 3, 1) := by decide +kernel
theorem dL_995 : decode code 995 = .ok (.iconst 2, 1) := by decide +kernel
theorem dL_996 : decode code 996 = .ok (.iadd, 1) := by decide +kernel
theorem dL_997 : decode code 997 = .ok (.iaload, 1) := by decide +kernel
theorem dL_998 : decode code 998 = .ok (.invokevirtual 118, 3) := by decide +kernel
theorem dL_1001 : decode code 1001 = .ok (.aload_n 2, 1) := by decide +kernel
theorem dL_1002 : decode code 1002 = .ok (.aload_n 0, 1) := by decide +kernel
theorem dL_1003 : decode code 1003 = .ok (.iload_n 3, 1) := by decide +kernel
theorem dL_1004 : decode code 1004 = .ok (.iconst 1, 1) := by decide +kernel
theorem dL_1005 : decode code 1005 = .ok (.iadd, 1) := by decide +kernel
theorem dL_1006 : decode code 1006 = .ok (.iaload, 1) := by decide +kernel
theorem dL_1007 : decode code 1007 = .ok (.aload_n 0, 1) := by decide +kernel
theorem dL_1008 : decode code 1008 = .ok (.iload_n 3, 1) := by decide +kernel
theorem dL_1009 : decode code 1009 = .ok (.iconst 2, 1) := by decide +kernel
theorem dL_1010 : decode code 1010 = .ok (.iadd, 1) := by decide +kernel
theorem dL_1011 : decode code 1011 = .ok (.iaload, 1) := by decide +kernel
theorem dL_1012 : decode code 1012 = .ok (.invokevirtual 121, 3) := by decide +kernel
theorem dL_1015 : decode code 1015 = .ok (.if_icmp .eq 372, 3) := by decide +kernel
theorem dL_1018 : decode code 1018 = .ok (.iconst 0, 1) := by decide +kernel
theorem dL_1019 : decode code 1019 = .ok (.ireturn, 1) := by decide +kernel
theorem dL_1020 : decode code 1020 = .ok (.aload_n 1, 1) := by decide +kernel
theorem dL_1021 : decode code 1021 = .ok (.aload_n 0, 1) := by decide +kernel
theorem dL_1022 : decode code 1022 = .ok (.iload_n 3, 1) := by decide +kernel
theorem dL_1023 : decode code 1023 = .ok (.iconst 1, 1) := by decide +kernel
theorem dL_1024 : decode code 1024 = .ok (.iadd, 1) := by decide +kernel
theorem dL_1025 : decode code 1025 = .ok (.iaload, 1) := by decide +kernel
theorem dL_1026 : decode code 1026 = .ok (.aload_n 0, 1) := by decide +kernel
theorem dL_1027 : decode code 1027 = .ok (.iload_n 3, 1) := by decide +kernel
theorem dL_1028 : decode code 1028 = .ok (.iconst 2, 1) := by decide +kernel
theorem dL_1029 : decode code 1029 = .ok (.iadd, 1) := by decide +kernel
theorem dL_1030 : decode code 1030 = .ok (.iaload, 1) := by decide +kernel
theorem dL_1031 : decode code 1031 = .ok (.invokevirtual 122, 3) := by decide +kernel
theorem dL_1034 : decode code 1034 = .ok (.aload_n 2, 1) := by decide +kernel
theorem dL_1035 : decode code 1035 = .ok (.aload_n 0, 1) := by decide +kernel
theorem dL_1036 : decode code 1036 = .ok (.iload_n 3, 1) := by decide +kernel
theorem dL_1037 : decode code 1037 = .ok (.iconst 1, 1) := by decide +kernel
theorem dL_1038 : decode code 1038 = .ok (.iadd, 1) := by decide +kernel
theorem dL_1039 : decode code 1039 = .ok (.iaload, 1) := by decide +kernel
theorem dL_1040 : decode code 1040 = .ok (.aload_n 0, 1) := by decide +kernel
theorem dL_1041 : decode code 1041 = .ok (.iload_n 3, 1) := by decide +kernel
theorem dL_1042 : decode code 1042 = .ok (.iconst 2, 1) := by decide +kernel
theorem dL_1043 : decode code 1043 = .ok (.iadd, 1) := by decide +kernel
theorem dL_1044 : decode code 1044 = .ok (.iaload, 1) := by decide +kernel
theorem dL_1045 : decode code 1045 = .ok (.invokevirtual 125, 3) := by decide +kernel
theorem dL_1048 : decode code 1048 = .ok (.if_icmp .eq 339, 3) := by decide +kernel
theorem dL_1051 : decode code 1051 = .ok (.iconst 0, 1) := by decide +kernel
theorem dL_1052 : decode code 1052 = .ok (.ireturn, 1) := by decide +kernel
theorem dL_1053 : decode code 1053 = .ok (.aload_n 1, 1) := by decide +kernel
theorem dL_1054 : decode code 1054 = .ok (.aload_n 0, 1) := by decide +kernel
theorem dL_1055 : decode code 1055 = .ok (.iload_n 3, 1) := by decide +kernel
theorem dL_1056 : decode code 1056 = .ok (.iconst 1, 1) := by decide +kernel
theorem dL_1057 : decode code 1057 = .ok (.iadd, 1) := by decide +kernel
theorem dL_1058 : decode code 1058 = .ok (.iaload, 1) := by decide +kernel
theorem dL_1059 : decode code 1059 = .ok (.invokevirtual 126, 3) := by decide +kernel
theorem dL_1062 : decode code 1062 = .ok (.aload_n 2, 1) := by decide +kernel
theorem dL_1063 : decode code 1063 = .ok (.aload_n 0, 1) := by decide +kernel
theorem dL_1064 : decode code 1064 = .ok (.iload_n 3, 1) := by decide +kernel
theorem dL_1065 : decode code 1065 = .ok (.iconst 1, 1) := by decide +kernel
theorem dL_1066 : decode code 1066 = .ok (.iadd, 1) := by decide +kernel
theorem dL_1067 : decode code 1067 = .ok (.iaload, 1) := by decide +kernel
theorem dL_1068 : decode code 1068 = .ok (.invokevirtual 129, 3) := by decide +kernel
theorem dL_1071 : decode code 1071 = .ok (.if_icmp .eq 316, 3) := by decide +kernel
theorem dL_1074 : decode code 1074 = .ok (.iconst 0, 1) := by decide +kernel
theorem dL_1075 : decode code 1075 = .ok (.ireturn, 1) := by decide +kernel
theorem dL_1076 : decode code 1076 = .ok (.aload_n 1, 1) := by decide +kernel
theorem dL_1077 : decode code 1077 = .ok (.aload_n 0, 1) := by decide +kernel
theorem dL_1078 : decode code 1078 = .ok (.iload_n 3, 1) := by decide +kernel
theorem dL_1079 : decode code 1079 = .ok (.iconst 1, 1) := by decide +kernel
theorem dL_1080 : decode code 1080 = .ok (.iadd, 1) := by decide +kernel
theorem dL_1081 : decode code 1081 = .ok (.iaload, 1) := by decide +kernel
theorem dL_1082 : decode code 1082 = .ok (.aload_n 0, 1) := by decide +kernel
theorem dL_1083 : decode code 1083 = .ok (.iload_n 3, 1) := by decide +kernel
theorem dL_1084 : decode code 1084 = .ok (.iconst 2, 1) := by decide +kernel
theorem dL_1085 : decode code 1085 = .ok (.iadd, 1) := by decide +kernel
theorem dL_1086 : decode code 1086 = .ok (.iaload, 1) := by decide +kernel
theorem dL_1087 : decode code 1087 = .ok (.aload_n 0, 1) := by decide +kernel
theorem dL_1088 : decode code 1088 = .ok (.iload_n 3, 1) := by decide +kernel
theorem dL_1089 : decode code 1089 = .ok (.iconst 3, 1) := by decide +kernel
theorem dL_1090 : decode code 1090 = .ok (.iadd, 1) := by decide +kernel
theorem dL_1091 : decode code 1091 = .ok (.iaload, 1) := by decide +kernel
theorem dL_1092 : decode code 1092 = .ok (.invokevirtual 130, 3) := by decide +kernel
theorem dL_1095 : decode code 1095 = .ok (.aload_n 2, 1) := by decide +kernel
theorem dL_1096 : decode code 1096 = .ok (.aload_n 0, 1) := by decide +kernel
theorem dL_1097 : decode code 1097 = .ok (.iload_n 3, 1) := by decide +kernel
theorem dL_1098 : decode code 1098 = .ok (.iconst 1, 1) := by decide +kernel
theorem dL_1099 : decode code 1099 = .ok (.iadd, 1) := by decide +kernel
theorem dL_1100 : decode code 1100 = .ok (.iaload, 1) := by decide +kernel
theorem dL_1101 : decode code 1101 = .ok (.aload_n 0, 1) := by decide +kernel
theorem dL_1102 : decode code 1102 = .ok (.iload_n 3, 1) := by decide +kernel
theorem dL_1103 : decode code 1103 = .ok (.iconst 2, 1) := by decide +kernel
theorem dL_1104 : decode code 1104 = .ok (.iadd, 1) := by decide +kernel
theorem dL_1105 : decode code 1105 = .ok (.iaload, 1) := by decide +kernel
theorem dL_1106 : decode code 1106 = .ok (.aload_n 0, 1) := by decide +kernel
theorem dL_1107 : decode code 1107 = .ok (.iload_n 3, 1) := by decide +kernel
theorem dL_1108 : decode code 1108 = .ok (.iconst 3, 1) := by decide +kernel
theorem dL_1109 : decode code 1109 = .ok (.iadd, 1) := by decide +kernel
theorem dL_1110 : decode code 1110 = .ok (.iaload, 1) := by decide +kernel
theorem dL_1111 : decode code 1111 = .ok (.invokevirtual 133, 3) := by decide +kernel
theorem dL_1114 : decode code 1114 = .ok (.if_icmp .eq 273, 3) := by decide +kernel
theorem dL_1117 : decode code 1117 = .ok (.iconst 0, 1) := by decide +kernel
theorem dL_1118 : decode code 1118 = .ok (.ireturn, 1) := by decide +kernel
theorem dL_1119 : decode code 1119 = .ok (.aload_n 1, 1) := by decide +kernel
theorem dL_1120 : decode code 1120 = .ok (.aload_n 0, 1) := by decide +kernel
theorem dL_1121 : decode code 1121 = .ok (.iload_n 3, 1) := by decide +kernel
theorem dL_1122 : decode code 1122 = .ok (.iconst 1, 1) := by decide +kernel
theorem dL_1123 : decode code 1123 = .ok (.iadd, 1) := by decide +kernel
theorem dL_1124 : decode code 1124 = .ok (.iaload, 1) := by decide +kernel
theorem dL_1125 : decode code 1125 = .ok (.aload_n 0, 1) := by decide +kernel
theorem dL_1126 : decode code 1126 = .ok (.iload_n 3, 1) := by decide +kernel
theorem dL_1127 : decode code 1127 = .ok (.iconst 2, 1) := by decide +kernel
theorem dL_1128 : decode code 1128 = .ok (.iadd, 1) := by decide +kernel
theorem dL_1129 : decode code 1129 = .ok (.iaload, 1) := by decide +kernel
theorem dL_1130 : decode code 1130 = .ok (.aload_n 0, 1) := by decide +kernel
theorem dL_1131 : decode code 1131 = .ok (.iload_n 3, 1) := by decide +kernel
theorem dL_1132 : decode code 1132 = .ok (.iconst 3, 1) := by decide +kernel
theorem dL_1133 : decode code 1133 = .ok (.iadd, 1) := by decide +kernel
theorem dL_1134 : decode code 1134 = .ok (.iaload, 1) := by decide +kernel
theorem dL_1135 : decode code 1135 = .ok (.i2l, 1) := by decide +kernel
theorem dL_1136 : decode code 1136 = .ok (.bipush 32, 2) := by decide +kernel
theorem dL_1138 : decode code 1138 = .ok (.lshl, 1) := by decide +kernel
theorem dL_1139 : decode code 1139 = .ok (.aload_n 0, 1) := by decide +kernel
theorem dL_1140 : decode code 1140 = .ok (.iload_n 3, 1) := by decide +kernel
theorem dL_1141 : decode code 1141 = .ok (.iconst 4, 1) := by decide +kernel
theorem dL_1142 : decode code 1142 = .ok (.iadd, 1) := by decide +kernel
theorem dL_1143 : decode code 1143 = .ok (.iaload, 1) := by decide +kernel
theorem dL_1144 : decode code 1144 = .ok (.i2l, 1) := by decide +kernel
theorem dL_1145 : decode code 1145 = .ok (.ldc2_w 134, 3) := by decide +kernel
theorem dL_1148 : decode code 1148 = .ok (.land, 1) := by decide +kernel
theorem dL_1149 : decode code 1149 = .ok (.lor, 1) := by decide +kernel
theorem dL_1150 : decode code 1150 = .ok (.invokevirtual 136, 3) := by decide +kernel
theorem dL_1153 : decode code 1153 = .ok (.aload_n 2, 1) := by decide +kernel
theorem dL_1154 : decode code 1154 = .ok (.aload_n 0, 1) := by decide +kernel
theorem dL_1155 : decode code 1155 = .ok (.iload_n 3, 1) := by decide +kernel
theorem dL_1156 : decode code 1156 = .ok (.iconst 1, 1) := by decide +kernel
theorem dL_1157 : decode code 1157 = .ok (.iadd, 1) := by decide +kernel
theorem dL_1158 : decode code 1158 = .ok (.iaload, 1) := by decide +kernel
theorem dL_1159 : decode code 1159 = .ok (.aload_n 0, 1) := by decide +kernel
theorem dL_1160 : decode code 1160 = .ok (.iload_n 3, 1) := by decide +kernel
theorem dL_1161 : decode code 1161 = .ok (.iconst 2, 1) := by decide +kernel
theorem dL_1162 : decode code 1162 = .ok (.iadd, 1) := by decide +kernel
theorem dL_1163 : decode code 1163 = .ok (.iaload, 1) := by decide +kernel
theorem dL_1164 : decode code 1164 = .ok (.aload_n 0, 1) := by decide +kernel
theorem dL_1165 : decode code 1165 = .ok (.iload_n 3, 1) := by decide +kernel
theorem dL_1166 : decode code 1166 = .ok (.iconst 3, 1) := by decide +kernel
theorem dL_1167 : decode code 1167 = .ok (.iadd, 1) := by decide +kernel
theorem dL_1168 : decode code 1168 = .ok (.iaload, 1) := by decide +kernel
theorem dL_1169 : decode code 1169 = .ok (.i2l, 1) := by decide +kernel
theorem dL_1170 : decode code 1170 = .ok (.bipush 32, 2) := by decide +kernel
theorem dL_1172 : decode code 1172 = .ok (.lshl, 1) := by decide +kernel
theorem dL_1173 : decode code 1173 = .ok (.aload_n 0, 1) := by decide +kernel
theorem dL_1174 : decode code 1174 = .ok (.iload_n 3, 1) := by decide +kernel
theorem dL_1175 : decode code 1175 = .ok (.iconst 4, 1) := by decide +kernel
theorem dL_1176 : decode code 1176 = .ok (.iadd, 1) := by decide +kernel
theorem dL_1177 : decode code 1177 = .ok (.iaload, 1) := by decide +kernel
theorem dL_1178 : decode code 1178 = .ok (.i2l, 1) := by decide +kernel
theorem dL_1179 : decode code 1179 = .ok (.ldc2_w 134, 3) := by decide +kernel
theorem dL_1182 : decode code 1182 = .ok (.land, 1) := by decide +kernel
theorem dL_1183 : decode code 1183 = .ok (.lor, 1) := by decide +kernel
theorem dL_1184 : decode code 1184 = .ok (.invokevirtual 140, 3) := by decide +kernel
theorem dL_1187 : decode code 1187 = .ok (.lcmp, 1) := by decide +kernel
theorem dL_1188 : decode code 1188 = .ok (.ifCond .eq 199, 3) := by decide +kernel
theorem dL_1191 : decode code 1191 = .ok (.iconst 0, 1) := by decide +kernel
theorem dL_1192 : decode code 1192 = .ok (.ireturn, 1) := by decide +kernel
theorem dL_1193 : decode code 1193 = .ok (.aload_n 1, 1) := by decide +kernel
theorem dL_1194 : decode code 1194 = .ok (.aload_n 0, 1) := by decide +kernel
theorem dL_1195 : decode code 1195 = .ok (.iload_n 3, 1) := by decide +kernel
theorem dL_1196 : decode code 1196 = .ok (.iconst 1, 1) := by decide +kernel
theorem dL_1197 : decode code 1197 = .ok (.iadd, 1) := by decide +kernel
theorem dL_1198 : decode code 1198 = .ok (.iaload, 1) := by decide +kernel
theorem dL_1199 : decode code 1199 = .ok (.aload_n 0, 1) := by decide +kernel
theorem dL_1200 : decode code 1200 = .ok (.iload_n 3, 1) := by decide +kernel
theorem dL_1201 : decode code 1201 = .ok (.iconst 2, 1) := by decide +kernel
theorem dL_1202 : decode code 1202 = .ok (.iadd, 1) := by decide +kernel
theorem dL_1203 : decode code 1203 = .ok (.iaload, 1) := by decide +kernel
theorem dL_1204 : decode code 1204 = .ok (.aload_n 0, 1) := by decide +kernel
theorem dL_1205 : decode code 1205 = .ok (.iload_n 3, 1) := by decide +kernel
theorem dL_1206 : decode code 1206 = .ok (.iconst 3, 1) := by decide +kernel
theorem dL_1207 : decode code 1207 = .ok (.iadd, 1) := by decide +kernel
theorem dL_1208 : decode code 1208 = .ok (.iaload, 1) := by decide +kernel
theorem dL_1209 : decode code 1209 = .ok (.aload_n 0, 1) := by decide +kernel
theorem dL_1210 : decode code 1210 = .ok (.iload_n 3, 1) := by decide +kernel
theorem dL_1211 : decode code 1211 = .ok (.iconst 4, 1) := by decide +kernel
theorem dL_1212 : decode code 1212 = .ok (.iadd, 1) := by decide +kernel
theorem dL_1213 : decode code 1213 = .ok (.iaload, 1) := by decide +kernel
theorem dL_1214 : decode code 1214 = .ok (.aload_n 0, 1) := by decide +kernel
theorem dL_1215 : decode code 1215 = .ok (.iload_n 3, 1) := by decide +kernel
theorem dL_1216 : decode code 1216 = .ok (.iconst 5, 1) := by decide +kernel
theorem dL_1217 : decode code 1217 = .ok (.iadd, 1) := by decide +kernel
theorem dL_1218 : decode code 1218 = .ok (.iaload, 1) := by decide +kernel
theorem dL_1219 : decode code 1219 = .ok (.invokevirtual 141, 3) := by decide +kernel
theorem dL_1222 : decode code 1222 = .ok (.aload_n 2, 1) := by decide +kernel
theorem dL_1223 : decode code 1223 = .ok (.aload_n 0, 1) := by decide +kernel
theorem dL_1224 : decode code 1224 = .ok (.iload_n 3, 1) := by decide +kernel
theorem dL_1225 : decode code 1225 = .ok (.iconst 1, 1) := by decide +kernel
theorem dL_1226 : decode code 1226 = .ok (.iadd, 1) := by decide +kernel
theorem dL_1227 : decode code 1227 = .ok (.iaload, 1) := by decide +kernel
theorem dL_1228 : decode code 1228 = .ok (.aload_n 0, 1) := by decide +kernel
theorem dL_1229 : decode code 1229 = .ok (.iload_n 3, 1) := by decide +kernel
theorem dL_1230 : decode code 1230 = .ok (.iconst 2, 1) := by decide +kernel
theorem dL_1231 : decode code 1231 = .ok (.iadd, 1) := by decide +kernel
theorem dL_1232 : decode code 1232 = .ok (.iaload, 1) := by decide +kernel
theorem dL_1233 : decode code 1233 = .ok (.aload_n 0, 1) := by decide +kernel
theorem dL_1234 : decode code 1234 = .ok (.iload_n 3, 1) := by decide +kernel
theorem dL_1235 : decode code 1235 = .ok (.iconst 3, 1) := by decide +kernel
theorem dL_1236 : decode code 1236 = .ok (.iadd, 1) := by decide +kernel
theorem dL_1237 : decode code 1237 = .ok (.iaload, 1) := by decide +kernel
theorem dL_1238 : decode code 1238 = .ok (.aload_n 0, 1) := by decide +kernel
theorem dL_1239 : decode code 1239 = .ok (.iload_n 3, 1) := by decide +kernel
theorem dL_1240 : decode code 1240 = .ok (.iconst 4, 1) := by decide +kernel
theorem dL_1241 : decode code 1241 = .ok (.iadd, 1) := by decide +kernel
theorem dL_1242 : decode code 1242 = .ok (.iaload, 1) := by decide +kernel
theorem dL_1243 : decode code 1243 = .ok (.aload_n 0, 1) := by decide +kernel
theorem dL_1244 : decode code 1244 = .ok (.iload_n 3, 1) := by decide +kernel
theorem dL_1245 : decode code 1245 = .ok (.iconst 5, 1) := by decide +kernel
theorem dL_1246 : decode code 1246 = .ok (.iadd, 1) := by decide +kernel
theorem dL_1247 : decode code 1247 = .ok (.iaload, 1) := by decide +kernel
theorem dL_1248 : decode code 1248 = .ok (.invokevirtual 145, 3) := by decide +kernel
theorem dL_1251 : decode code 1251 = .ok (.if_icmp .eq 136, 3) := by decide +kernel
theorem dL_1254 : decode code 1254 = .ok (.iconst 0, 1) := by decide +kernel
theorem dL_1255 : decode code 1255 = .ok (.ireturn, 1) := by decide +kernel
theorem dL_1256 : decode code 1256 = .ok (.aload_n 1, 1) := by decide +kernel
theorem dL_1257 : decode code 1257 = .ok (.aload_n 0, 1) := by decide +kernel
theorem dL_1258 : decode code 1258 = .ok (.iload_n 3, 1) := by decide +kernel
theorem dL_1259 : decode code 1259 = .ok (.iconst 1, 1) := by decide +kernel
theorem dL_1260 : decode code 1260 = .ok (.iadd, 1) := by decide +kernel
theorem dL_1261 : decode code 1261 = .ok (.iaload, 1) := by decide +kernel
theorem dL_1262 : decode code 1262 = .ok (.invokevirtual 146, 3) := by decide +kernel
theorem dL_1265 : decode code 1265 = .ok (.aload_n 2, 1) := by decide +kernel
theorem dL_1266 : decode code 1266 = .ok (.aload_n 0, 1) := by decide +kernel
theorem dL_1267 : decode code 1267 = .ok (.iload_n 3, 1) := by decide +kernel
theorem dL_1268 : decode code 1268 = .ok (.iconst 1, 1) := by decide +kernel
theorem dL_1269 : decode code 1269 = .ok (.iadd, 1) := by decide +kernel
theorem dL_1270 : decode code 1270 = .ok (.iaload, 1) := by decide +kernel
theorem dL_1271 : decode code 1271 = .ok (.invokevirtual 149, 3) := by decide +kernel
theorem dL_1274 : decode code 1274 = .ok (.if_icmp .eq 113, 3) := by decide +kernel
theorem dL_1277 : decode code 1277 = .ok (.iconst 0, 1) := by decide +kernel
theorem dL_1278 : decode code 1278 = .ok (.ireturn, 1) := by decide +kernel
theorem dL_1279 : decode code 1279 = .ok (.aload_n 1, 1) := by decide +kernel
theorem dL_1280 : decode code 1280 = .ok (.aload_n 0, 1) := by decide +kernel
theorem dL_1281 : decode code 1281 = .ok (.iload_n 3, 1) := by decide +kernel
theorem dL_1282 : decode code 1282 = .ok (.iconst 1, 1) := by decide +kernel
theorem dL_1283 : decode code 1283 = .ok (.iadd, 1) := by decide +kernel
theorem dL_1284 : decode code 1284 = .ok (.iaload, 1) := by decide +kernel
theorem dL_1285 : decode code 1285 = .ok (.invokevirtual 150, 3) := by decide +kernel
theorem dL_1288 : decode code 1288 = .ok (.aload_n 2, 1) := by decide +kernel
theorem dL_1289 : decode code 1289 = .ok (.aload_n 0, 1) := by decide +kernel
theorem dL_1290 : decode code 1290 = .ok (.iload_n 3, 1) := by decide +kernel
theorem dL_1291 : decode code 1291 = .ok (.iconst 1, 1) := by decide +kernel
theorem dL_1292 : decode code 1292 = .ok (.iadd, 1) := by decide +kernel
theorem dL_1293 : decode code 1293 = .ok (.iaload, 1) := by decide +kernel
theorem dL_1294 : decode code 1294 = .ok (.invokevirtual 153, 3) := by decide +kernel
theorem dL_1297 : decode code 1297 = .ok (.if_icmp .eq 90, 3) := by decide +kernel
theorem dL_1300 : decode code 1300 = .ok (.iconst 0, 1) := by decide +kernel
theorem dL_1301 : decode code 1301 = .ok (.ireturn, 1) := by decide +kernel
theorem dL_1302 : decode code 1302 = .ok (.aload_n 1, 1) := by decide +kernel
theorem dL_1303 : decode code 1303 = .ok (.invokevirtual 154, 3) := by decide +kernel
theorem dL_1306 : decode code 1306 = .ok (.aload_n 2, 1) := by decide +kernel
theorem dL_1307 : decode code 1307 = .ok (.invokevirtual 157, 3) := by decide +kernel
theorem dL_1310 : decode code 1310 = .ok (.if_icmp .eq 77, 3) := by decide +kernel
theorem dL_1313 : decode code 1313 = .ok (.iconst 0, 1) := by decide +kernel
theorem dL_1314 : decode code 1314 = .ok (.ireturn, 1) := by decide +kernel
theorem dL_1315 : decode code 1315 = .ok (.aload_n 1, 1) := by decide +kernel
theorem dL_1316 : decode code 1316 = .ok (.invokevirtual 158, 3) := by decide +kernel
theorem dL_1319 : decode code 1319 = .ok (.aload_n 2, 1) := by decide +kernel
theorem dL_1320 : decode code 1320 = .ok (.invokevirtual 161, 3) := by decide +kernel
theorem dL_1323 : decode code 1323 = .ok (.if_icmp .eq 64, 3) := by decide +kernel
theorem dL_1326 : decode code 1326 = .ok (.iconst 0, 1) := by decide +kernel
theorem dL_1327 : decode code 1327 = .ok (.ireturn, 1) := by decide +kernel
theorem dL_1328 : decode code 1328 = .ok (.aload_n 1, 1) := by decide +kernel
theorem dL_1329 : decode code 1329 = .ok (.invokevirtual 162, 3) := by decide +kernel
theorem dL_1332 : decode code 1332 = .ok (.aload_n 2, 1) := by decide +kernel
theorem dL_1333 : decode code 1333 = .ok (.invokevirtual 165, 3) := by decide +kernel
theorem dL_1336 : decode code 1336 = .ok (.if_icmp .eq 51, 3) := by decide +kernel
theorem dL_1339 : decode code 1339 = .ok (.iconst 0, 1) := by decide +kernel
theorem dL_1340 : decode code 1340 = .ok (.ireturn, 1) := by decide +kernel
theorem dL_1341 : decode code 1341 = .ok (.aload_n 1, 1) := by decide +kernel
theorem dL_1342 : decode code 1342 = .ok (.aload_n 0, 1) := by decide +kernel
theorem dL_1343 : decode code 1343 = .ok (.iload_n 3, 1) := by decide +kernel
theorem dL_1344 : decode code 1344 = .ok (.iconst 1, 1) := by decide +kernel
theorem dL_1345 : decode code 1345 = .ok (.iadd, 1) := by decide +kernel
theorem dL_1346 : decode code 1346 = .ok (.iaload, 1) := by decide +kernel
theorem dL_1347 : decode code 1347 = .ok (.invokevirtual 166, 3) := by decide +kernel
theorem dL_1350 : decode code 1350 = .ok (.aload_n 2, 1) := by decide +kernel
theorem dL_1351 : decode code 1351 = .ok (.aload_n 0, 1) := by decide +kernel
theorem dL_1352 : decode code 1352 = .ok (.iload_n 3, 1) := by decide +kernel
theorem dL_1353 : decode code 1353 = .ok (.iconst 1, 1) := by decide +kernel
theorem dL_1354 : decode code 1354 = .ok (.iadd, 1) := by decide +kernel
theorem dL_1355 : decode code 1355 = .ok (.iaload, 1) := by decide +kernel
theorem dL_1356 : decode code 1356 = .ok (.invokevirtual 169, 3) := by decide +kernel
theorem dL_1359 : decode code 1359 = .ok (.if_icmp .eq 28, 3) := by decide +kernel
theorem dL_1362 : decode code 1362 = .ok (.iconst 0, 1) := by decide +kernel
theorem dL_1363 : decode code 1363 = .ok (.ireturn, 1) := by decide +kernel
theorem dL_1364 : decode code 1364 = .ok (.aload_n 1, 1) := by decide +kernel
theorem dL_1365 : decode code 1365 = .ok (.aload_n 0, 1) := by decide +kernel
theorem dL_1366 : decode code 1366 = .ok (.iload_n 3, 1) := by decide +kernel
theorem dL_1367 : decode code 1367 = .ok (.iconst 1, 1) := by decide +kernel
theorem dL_1368 : decode code 1368 = .ok (.iadd, 1) := by decide +kernel
theorem dL_1369 : decode code 1369 = .ok (.iaload, 1) := by decide +kernel
theorem dL_1370 : decode code 1370 = .ok (.invokevirtual 170, 3) := by decide +kernel
theorem dL_1373 : decode code 1373 = .ok (.aload_n 2, 1) := by decide +kernel
theorem dL_1374 : decode code 1374 = .ok (.aload_n 0, 1) := by decide +kernel
theorem dL_1375 : decode code 1375 = .ok (.iload_n 3, 1) := by decide +kernel
theorem dL_1376 : decode code 1376 = .ok (.iconst 1, 1) := by decide +kernel
theorem dL_1377 : decode code 1377 = .ok (.iadd, 1) := by decide +kernel
theorem dL_1378 : decode code 1378 = .ok (.iaload, 1) := by decide +kernel
theorem dL_1379 : decode code 1379 = .ok (.invokevirtual 173, 3) := by decide +kernel
theorem dL_1382 : decode code 1382 = .ok (.if_icmp .eq 5, 3) := by decide +kernel
theorem dL_1385 : decode code 1385 = .ok (.iconst 0, 1) := by decide +kernel
theorem dL_1386 : decode code 1386 = .ok (.ireturn, 1) := by decide +kernel
theorem dL_1387 : decode code 1387 = .ok (.iinc 3 6, 3) := by decide +kernel
theorem dL_1390 : decode code 1390 = .ok (.goto (-1372), 3) := by decide +kernel
theorem dL_1393 : decode code 1393 = .ok (.iconst 1, 1) := by decide +kernel
theorem dL_1394 : decode code 1394 = .ok (.ireturn, 1) := by decide +kernel
