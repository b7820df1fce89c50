theorem d_LA_law_844 : decode code 844 = .ok (.goto 4, 3) := by decide +kernel
theorem d_LA_law_847 : decode code 847 = .ok (.lconst 0, 1) := by decide +kernel
theorem d_LA_law_848 : decode code 848 = .ok (.lcmp, 1) := by decide +kernel
theorem d_LA_law_849 : decode code 849 = .ok (.ifCond .eq 5, 3) := by decide +kernel
theorem d_LA_law_852 : decode code 852 = .ok (.iconst 0, 1) := by decide +kernel
theorem d_LA_law_853 : decode code 853 = .ok (.ireturn, 1) := by decide +kernel
theorem d_LA_law_854 : decode code 854 = .ok (.goto 231, 3) := by decide +kernel
theorem d_LA_law_857 : decode code 857 = .ok (.aload_n 1, 1) := by decide +kernel
theorem d_LA_law_858 : decode code 858 = .ok (.aload_n 0, 1) := by decide +kernel
theorem d_LA_law_859 : decode code 859 = .ok (.iload 4, 2) := by decide +kernel
theorem d_LA_law_861 : decode code 861 = .ok (.iconst 1, 1) := by decide +kernel
theorem d_LA_law_862 : decode code 862 = .ok (.iadd, 1) := by decide +kernel
theorem d_LA_law_863 : decode code 863 = .ok (.iaload, 1) := by decide +kernel
theorem d_LA_law_864 : decode code 864 = .ok (.aload_n 0, 1) := by decide +kernel
theorem d_LA_law_865 : decode code 865 = .ok (.iload 4, 2) := by decide +kernel
theorem d_LA_law_867 : decode code 867 = .ok (.iconst 2, 1) := by decide +kernel
theorem d_LA_law_868 : decode code 868 = .ok (.iadd, 1) := by decide +kernel
theorem d_LA_law_869 : decode code 869 = .ok (.iaload, 1) := by decide +kernel
theorem d_LA_law_870 : decode code 870 = .ok (.aload_n 0, 1) := by decide +kernel
theorem d_LA_law_871 : decode code 871 = .ok (.iload 4, 2) := by decide +kernel
theorem d_LA_law_873 : decode code 873 = .ok (.iconst 3, 1) := by decide +kernel
theorem d_LA_law_874 : decode code 874 = .ok (.iadd, 1) := by decide +kernel
theorem d_LA_law_875 : decode code 875 = .ok (.iaload, 1) := by decide +kernel
theorem d_LA_law_876 : decode code 876 = .ok (.aload_n 3, 1) := by decide +kernel
theorem d_LA_law_877 : decode code 877 = .ok (.invokestatic 113, 3) := by decide +kernel
theorem d_LA_law_880 : decode code 880 = .ok (.istore 5, 2) := by decide +kernel
theorem d_LA_law_882 : decode code 882 = .ok (.aload_n 2, 1) := by decide +kernel
theorem d_LA_law_883 : decode code 883 = .ok (.aload_n 0, 1) := by decide +kernel
theorem d_LA_law_884 : decode code 884 = .ok (.iload 4, 2) := by decide +kernel
theorem d_LA_law_886 : decode code 886 = .ok (.iconst 1, 1) := by decide +kernel
theorem d_LA_law_887 : decode code 887 = .ok (.iadd, 1) := by decide +kernel
theorem d_LA_law_888 : decode code 888 = .ok (.iaload, 1) := by decide +kernel
theorem d_LA_law_889 : decode code 889 = .ok (.aload_n 0, 1) := by decide +kernel
theorem d_LA_law_890 : decode code 890 = .ok (.iload 4, 2) := by decide +kernel
theorem d_LA_law_892 : decode code 892 = .ok (.iconst 2, 1) := by decide +kernel
theorem d_LA_law_893 : decode code 893 = .ok (.iadd, 1) := by decide +kernel
theorem d_LA_law_894 : decode code 894 = .ok (.iaload, 1) := by decide +kernel
theorem d_LA_law_895 : decode code 895 = .ok (.aload_n 0, 1) := by decide +kernel
theorem d_LA_law_896 : decode code 896 = .ok (.iload 4, 2) := by decide +kernel
theorem d_LA_law_898 : decode code 898 = .ok (.iconst 3, 1) := by decide +kernel
theorem d_LA_law_899 : decode code 899 = .ok (.iadd, 1) := by decide +kernel
theorem d_LA_law_900 : decode code 900 = .ok (.iaload, 1) := by decide +kernel
theorem d_LA_law_901 : decode code 901 = .ok (.invokevirtual 116, 3) := by decide +kernel
theorem d_LA_law_904 : decode code 904 = .ok (.istore 6, 2) := by decide +kernel
theorem d_LA_law_906 : decode code 906 = .ok (.aload_n 2, 1) := by decide +kernel
theorem d_LA_law_907 : decode code 907 = .ok (.invokevirtual 66, 3) := by decide +kernel
theorem d_LA_law_910 : decode code 910 = .ok (.iload 5, 2) := by decide +kernel
theorem d_LA_law_912 : decode code 912 = .ok (.if_icmp .eq 5, 3) := by decide +kernel
theorem d_LA_law_915 : decode code 915 = .ok (.iconst 0, 1) := by decide +kernel
theorem d_LA_law_916 : decode code 916 = .ok (.ireturn, 1) := by decide +kernel
theorem d_LA_law_917 : decode code 917 = .ok (.iload 5, 2) := by decide +kernel
theorem d_LA_law_919 : decode code 919 = .ok (.ifCond .ne 15, 3) := by decide +kernel
theorem d_LA_law_922 : decode code 922 = .ok (.aload_n 3, 1) := by decide +kernel
theorem d_LA_law_923 : decode code 923 = .ok (.iconst 0, 1) := by decide +kernel
theorem d_LA_law_924 : decode code 924 = .ok (.laload, 1) := by decide +kernel
theorem d_LA_law_925 : decode code 925 = .ok (.iload 6, 2) := by decide +kernel
theorem d_LA_law_927 : decode code 927 = .ok (.i2l, 1) := by decide +kernel
theorem d_LA_law_928 : decode code 928 = .ok (.lcmp, 1) := by decide +kernel
theorem d_LA_law_929 : decode code 929 = .ok (.ifCond .eq 5, 3) := by decide +kernel
theorem d_LA_law_932 : decode code 932 = .ok (.iconst 0, 1) := by decide +kernel
theorem d_LA_law_933 : decode code 933 = .ok (.ireturn, 1) := by decide +kernel
theorem d_LA_law_934 : decode code 934 = .ok (.goto 151, 3) := by decide +kernel
theorem d_LA_law_937 : decode code 937 = .ok (.aload_n 1, 1) := by decide +kernel
theorem d_LA_law_938 : decode code 938 = .ok (.aload_n 0, 1) := by decide +kernel
theorem d_LA_law_939 : decode code 939 = .ok (.iload 4, 2) := by decide +kernel
theorem d_LA_law_941 : decode code 941 = .ok (.iconst 1, 1) := by decide +kernel
theorem d_LA_law_942 : decode code 942 = .ok (.iadd, 1) := by decide +kernel
theorem d_LA_law_943 : decode code 943 = .ok (.iaload, 1) := by decide +kernel
theorem d_LA_law_944 : decode code 944 = .ok (.aload_n 0, 1) := by decide +kernel
theorem d_LA_law_945 : decode code 945 = .ok (.iload 4, 2) := by decide +kernel
theorem d_LA_law_947 : decode code 947 = .ok (.iconst 2, 1) := by decide +kernel
theorem d_LA_law_948 : decode code 948 = .ok (.iadd, 1) := by decide +kernel
theorem d_LA_law_949 : decode code 949 = .ok (.iaload, 1) := by decide +kernel
theorem d_LA_law_950 : decode code 950 = .ok (.aload_n 0, 1) := by decide +kernel
theorem d_LA_law_951 : decode code 951 = .ok (.iload 4, 2) := by decide +kernel
theorem d_LA_law_953 : decode code 953 = .ok (.iconst 3, 1) := by decide +kernel
theorem d_LA_law_954 : decode code 954 = .ok (.iadd, 1) := by decide +kernel
theorem d_LA_law_955 : decode code 955 = .ok (.iaload, 1) := by decide +kernel
theorem d_LA_law_956 : decode code 956 = .ok (.aload_n 0, 1) := by decide +kernel
theorem d_LA_law_957 : decode code 957 = .ok (.iload 4, 2) := by decide +kernel
theorem d_LA_law_959 : decode code 959 = .ok (.iconst 4, 1) := by decide +kernel
theorem d_LA_law_960 : decode code 960 = .ok (.iadd, 1) := by decide +kernel
theorem d_LA_law_961 : decode code 961 = .ok (.iaload, 1) := by decide +kernel
theorem d_LA_law_962 : decode code 962 = .ok (.aload_n 3, 1) := by decide +kernel
theorem d_LA_law_963 : decode code 963 = .ok (.invokestatic 117, 3) := by decide +kernel
theorem d_LA_law_966 : decode code 966 = .ok (.istore 5, 2) := by decide +kernel
theorem d_LA_law_968 : decode code 968 = .ok (.aload_n 2, 1) := by decide +kernel
theorem d_LA_law_969 : decode code 969 = .ok (.aload_n 0, 1) := by decide +kernel
theorem d_LA_law_970 : decode code 970 = .ok (.iload 4, 2) := by decide +kernel
theorem d_LA_law_972 : decode code 972 = .ok (.iconst 1, 1) := by decide +kernel
theorem d_LA_law_973 : decode code 973 = .ok (.iadd, 1) := by decide +kernel
theorem d_LA_law_974 : decode code 974 = .ok (.iaload, 1) := by decide +kernel
theorem d_LA_law_975 : decode code 975 = .ok (.aload_n 0, 1) := by decide +kernel
theorem d_LA_law_976 : decode code 976 = .ok (.iload 4, 2) := by decide +kernel
theorem d_LA_law_978 : decode code 978 = .ok (.iconst 2, 1) := by decide +kernel
theorem d_LA_law_979 : decode code 979 = .ok (.iadd, 1) := by decide +kernel
theorem d_LA_law_980 : decode code 980 = .ok (.iaload, 1) := by decide +kernel
theorem d_LA_law_981 : decode code 981 = .ok (.aload_n 0, 1) := by decide +kernel
theorem d_LA_law_982 : decode code 982 = .ok (.iload 4, 2) := by decide +kernel
theorem d_LA_law_984 : decode code 984 = .ok (.iconst 3, 1) := by decide +kernel
theorem d_LA_law_985 : decode code 985 = .ok (.iadd, 1) := by decide +kernel
theorem d_LA_law_986 : decode code 986 = .ok (.iaload, 1) := by decide +kernel
theorem d_LA_law_987 : decode code 987 = .ok (.aload_n 0, 1) := by decide +kernel
theorem d_LA_law_988 : decode code 988 = .ok (.iload 4, 2) := by decide +kernel
theorem d_LA_law_990 : decode code 990 = .ok (.iconst 4, 1) := by decide +kernel
theorem d_LA_law_991 : decode code 991 = .ok (.iadd, 1) := by decide +kernel
theorem d_LA_law_992 : decode code 992 = .ok (.iaload, 1) := by decide +kernel
theorem d_LA_law_993 : decode code 993 = .ok (.invokevirtual 119, 3) := by decide +kernel
theorem d_LA_law_996 : decode code 996 = .ok (.istore 6, 2) := by decide +kernel
theorem d_LA_law_998 : decode code 998 = .ok (.aload_n 2, 1) := by decide +kernel
theorem d_LA_law_999 : decode code 999 = .ok (.invokevirtual 66, 3) := by decide +kernel
theorem d_LA_law_1002 : decode code 1002 = .ok (.iload 5, 2) := by decide +kernel
theorem d_LA_law_1004 : decode code 1004 = .ok (.if_icmp .eq 5, 3) := by decide +kernel
theorem d_LA_law_1007 : decode code 1007 = .ok (.iconst 0, 1) := by decide +kernel
theorem d_LA_law_1008 : decode code 1008 = .ok (.ireturn, 1) := by decide +kernel
theorem d_LA_law_1009 : decode code 1009 = .ok (.iload 5, 2) := by decide +kernel
theorem d_LA_law_1011 : decode code 1011 = .ok (.ifCond .ne 15, 3) := by decide +kernel
theorem d_LA_law_1014 : decode code 1014 = .ok (.aload_n 3, 1) := by decide +kernel
theorem d_LA_law_1015 : decode code 1015 = .ok (.iconst 0, 1) := by decide +kernel
theorem d_LA_law_1016 : decode code 1016 = .ok (.laload, 1) := by decide +kernel
theorem d_LA_law_1017 : decode code 1017 = .ok (.iload 6, 2) := by decide +kernel
theorem d_LA_law_1019 : decode code 1019 = .ok (.i2l, 1) := by decide +kernel
theorem d_LA_law_1020 : decode code 1020 = .ok (.lcmp, 1) := by decide +kernel
theorem d_LA_law_1021 : decode code 1021 = .ok (.ifCond .eq 5, 3) := by decide +kernel
theorem d_LA_law_1024 : decode code 1024 = .ok (.iconst 0, 1) := by decide +kernel
theorem d_LA_law_1025 : decode code 1025 = .ok (.ireturn, 1) := by decide +kernel
theorem d_LA_law_1026 : decode code 1026 = .ok (.goto 59, 3) := by decide +kernel
theorem d_LA_law_1029 : decode code 1029 = .ok (.aload_n 1, 1) := by decide +kernel
theorem d_LA_law_1030 : decode code 1030 = .ok (.aload_n 0, 1) := by decide +kernel
theorem d_LA_law_1031 : decode code 1031 = .ok (.iload 4, 2) := by decide +kernel
theorem d_LA_law_1033 : decode code 1033 = .ok (.iconst 1, 1) := by decide +kernel
theorem d_LA_law_1034 : decode code 1034 = .ok (.iadd, 1) := by decide +kernel
theorem d_LA_law_1035 : decode code 1035 = .ok (.iaload, 1) := by decide +kernel
theorem d_LA_law_1036 : decode code 1036 = .ok (.aload_n 3, 1) := by decide +kernel
theorem d_LA_law_1037 : decode code 1037 = .ok (.invokestatic 120, 3) := by decide +kernel
theorem d_LA_law_1040 : decode code 1040 = .ok (.istore 5, 2) := by decide +kernel
theorem d_LA_law_1042 : decode code 1042 = .ok (.aload_n 2, 1) := by decide +kernel
theorem d_LA_law_1043 : decode code 1043 = .ok (.aload_n 0, 1) := by decide +kernel
theorem d_LA_law_1044 : decode code 1044 = .ok (.iload 4, 2) := by decide +kernel
theorem d_LA_law_1046 : decode code 1046 = .ok (.iconst 1, 1) := by decide +kernel
theorem d_LA_law_1047 : decode code 1047 = .ok (.iadd, 1) := by decide +kernel
theorem d_LA_law_1048 : decode code 1048 = .ok (.iaload, 1) := by decide +kernel
theorem d_LA_law_1049 : decode code 1049 = .ok (.invokevirtual 122, 3) := by decide +kernel
theorem d_LA_law_1052 : decode code 1052 = .ok (.istore 6, 2) := by decide +kernel
theorem d_LA_law_1054 : decode code 1054 = .ok (.aload_n 2, 1) := by decide +kernel
theorem d_LA_law_1055 : decode code 1055 = .ok (.invokevirtual 66, 3) := by decide +kernel
theorem d_LA_law_1058 : decode code 1058 = .ok (.iload 5, 2) := by decide +kernel
theorem d_LA_law_1060 : decode code 1060 = .ok (.if_icmp .eq 5, 3) := by decide +kernel
theorem d_LA_law_1063 : decode code 1063 = .ok (.iconst 0, 1) := by decide +kernel
theorem d_LA_law_1064 : decode code 1064 = .ok (.ireturn, 1) := by decide +kernel
theorem d_LA_law_1065 : decode code 1065 = .ok (.iload 5, 2) := by decide +kernel
theorem d_LA_law_1067 : decode code 1067 = .ok (.ifCond .ne 15, 3) := by decide +kernel
theorem d_LA_law_1070 : decode code 1070 = .ok (.aload_n 3, 1) := by decide +kernel
theorem d_LA_law_1071 : decode code 1071 = .ok (.iconst 0, 1) := by decide +kernel
theorem d_LA_law_1072 : decode code 1072 = .ok (.laload, 1) := by decide +kernel
theorem d_LA_law_1073 : decode code 1073 = .ok (.iload 6, 2) := by decide +kernel
theorem d_LA_law_1075 : decode code 1075 = .ok (.i2l, 1) := by decide +kernel
theorem d_LA_law_1076 : decode code 1076 = .ok (.lcmp, 1) := by decide +kernel
theorem d_LA_law_1077 : decode code 1077 = .ok (.ifCond .eq 5, 3) := by decide +kernel
theorem d_LA_law_1080 : decode code 1080 = .ok (.iconst 0, 1) := by decide +kernel
theorem d_LA_law_1081 : decode code 1081 = .ok (.ireturn, 1) := by decide +kernel
theorem d_LA_law_1082 : decode code 1082 = .ok (.goto 3, 3) := by decide +kernel
theorem d_LA_law_1085 : decode code 1085 = .ok (.iinc 4 6, 3) := by decide +kernel
theorem d_LA_law_1088 : decode code 1088 = .ok (.goto (-1065), 3) := by decide +kernel
theorem d_LA_law_1091 : decode code 1091 = .ok (.iconst 1, 1) := by decide +kernel
theorem d_LA_law_1092 : decode code 1092 = .ok (.ireturn, 1) := by decide +kernel
