theorem d_L_law_904 : decode b_L_law 904 = .ok (.invokevirtual 78, 3) ∧ 904 + 3 = 907 := ⟨by decide +kernel, rfl⟩
theorem d_L_law_907 : decode b_L_law 907 = .ok (.iload 5, 2) ∧ 907 + 2 = 909 := ⟨by decide +kernel, rfl⟩
theorem d_L_law_909 : decode b_L_law 909 = .ok (.if_icmp .eq 5, 3) ∧ 909 + 3 = 912 ∧ ((909 : Nat) : Int) + 5 = ((914 : Nat) : Int) := ⟨by decide +kernel, rfl, by decide⟩
theorem d_L_law_912 : decode b_L_law 912 = .ok (.iconst 0, 1) ∧ 912 + 1 = 913 := ⟨by decide +kernel, rfl⟩
theorem d_L_law_913 : decode b_L_law 913 = .ok (.ireturn, 1) := by decide +kernel
theorem d_L_law_914 : decode b_L_law 914 = .ok (.iload 5, 2) ∧ 914 + 2 = 916 := ⟨by decide +kernel, rfl⟩
theorem d_L_law_916 : decode b_L_law 916 = .ok (.ifCond .ne 22, 3) ∧ 916 + 3 = 919 ∧ ((916 : Nat) : Int) + 22 = ((938 : Nat) : Int) := ⟨by decide +kernel, rfl, by decide⟩
theorem d_L_law_919 : decode b_L_law 919 = .ok (.aload_n 3, 1) ∧ 919 + 1 = 920 := ⟨by decide +kernel, rfl⟩
theorem d_L_law_920 : decode b_L_law 920 = .ok (.iconst 0, 1) ∧ 920 + 1 = 921 := ⟨by decide +kernel, rfl⟩
theorem d_L_law_921 : decode b_L_law 921 = .ok (.laload, 1) ∧ 921 + 1 = 922 := ⟨by decide +kernel, rfl⟩
theorem d_L_law_922 : decode b_L_law 922 = .ok (.iload 6, 2) ∧ 922 + 2 = 924 := ⟨by decide +kernel, rfl⟩
theorem d_L_law_924 : decode b_L_law 924 = .ok (.ifCond .eq 7, 3) ∧ 924 + 3 = 927 ∧ ((924 : Nat) : Int) + 7 = ((931 : Nat) : Int) := ⟨by decide +kernel, rfl, by decide⟩
theorem d_L_law_927 : decode b_L_law 927 = .ok (.lconst 1, 1) ∧ 927 + 1 = 928 := ⟨by decide +kernel, rfl⟩
theorem d_L_law_928 : decode b_L_law 928 = .ok (.goto 4, 3) ∧ ((928 : Nat) : Int) + 4 = ((932 : Nat) : Int) := ⟨by decide +kernel, by decide⟩
theorem d_L_law_931 : decode b_L_law 931 = .ok (.lconst 0, 1) ∧ 931 + 1 = 932 := ⟨by decide +kernel, rfl⟩
theorem d_L_law_932 : decode b_L_law 932 = .ok (.lcmp, 1) ∧ 932 + 1 = 933 := ⟨by decide +kernel, rfl⟩
theorem d_L_law_933 : decode b_L_law 933 = .ok (.ifCond .eq 5, 3) ∧ 933 + 3 = 936 ∧ ((933 : Nat) : Int) + 5 = ((938 : Nat) : Int) := ⟨by decide +kernel, rfl, by decide⟩
theorem d_L_law_936 : decode b_L_law 936 = .ok (.iconst 0, 1) ∧ 936 + 1 = 937 := ⟨by decide +kernel, rfl⟩
theorem d_L_law_937 : decode b_L_law 937 = .ok (.ireturn, 1) := by decide +kernel
theorem d_L_law_938 : decode b_L_law 938 = .ok (.goto 179, 3) ∧ ((938 : Nat) : Int) + 179 = ((1117 : Nat) : Int) := ⟨by decide +kernel, by decide⟩
theorem d_L_law_941 : decode b_L_law 941 = .ok (.aload_n 1, 1) ∧ 941 + 1 = 942 := ⟨by decide +kernel, rfl⟩
theorem d_L_law_942 : decode b_L_law 942 = .ok (.invokevirtual 123, 3) ∧ 942 + 3 = 945 := ⟨by decide +kernel, rfl⟩
theorem d_L_law_945 : decode b_L_law 945 = .ok (.aload_n 2, 1) ∧ 945 + 1 = 946 := ⟨by decide +kernel, rfl⟩
theorem d_L_law_946 : decode b_L_law 946 = .ok (.invokevirtual 126, 3) ∧ 946 + 3 = 949 := ⟨by decide +kernel, rfl⟩
theorem d_L_law_949 : decode b_L_law 949 = .ok (.if_icmp .eq 168, 3) ∧ 949 + 3 = 952 ∧ ((949 : Nat) : Int) + 168 = ((1117 : Nat) : Int) := ⟨by decide +kernel, rfl, by decide⟩
theorem d_L_law_952 : decode b_L_law 952 = .ok (.iconst 0, 1) ∧ 952 + 1 = 953 := ⟨by decide +kernel, rfl⟩
theorem d_L_law_953 : decode b_L_law 953 = .ok (.ireturn, 1) := by decide +kernel
theorem d_L_law_954 : decode b_L_law 954 = .ok (.aload_n 1, 1) ∧ 954 + 1 = 955 := ⟨by decide +kernel, rfl⟩
theorem d_L_law_955 : decode b_L_law 955 = .ok (.aload_n 0, 1) ∧ 955 + 1 = 956 := ⟨by decide +kernel, rfl⟩
theorem d_L_law_956 : decode b_L_law 956 = .ok (.iload 4, 2) ∧ 956 + 2 = 958 := ⟨by decide +kernel, rfl⟩
theorem d_L_law_958 : decode b_L_law 958 = .ok (.iconst 1, 1) ∧ 958 + 1 = 959 := ⟨by decide +kernel, rfl⟩
theorem d_L_law_959 : decode b_L_law 959 = .ok (.iadd, 1) ∧ 959 + 1 = 960 := ⟨by decide +kernel, rfl⟩
theorem d_L_law_960 : decode b_L_law 960 = .ok (.iaload, 1) ∧ 960 + 1 = 961 := ⟨by decide +kernel, rfl⟩
theorem d_L_law_961 : decode b_L_law 961 = .ok (.aload_n 0, 1) ∧ 961 + 1 = 962 := ⟨by decide +kernel, rfl⟩
theorem d_L_law_962 : decode b_L_law 962 = .ok (.iload 4, 2) ∧ 962 + 2 = 964 := ⟨by decide +kernel, rfl⟩
theorem d_L_law_964 : decode b_L_law 964 = .ok (.iconst 2, 1) ∧ 964 + 1 = 965 := ⟨by decide +kernel, rfl⟩
theorem d_L_law_965 : decode b_L_law 965 = .ok (.iadd, 1) ∧ 965 + 1 = 966 := ⟨by decide +kernel, rfl⟩
theorem d_L_law_966 : decode b_L_law 966 = .ok (.iaload, 1) ∧ 966 + 1 = 967 := ⟨by decide +kernel, rfl⟩
theorem d_L_law_967 : decode b_L_law 967 = .ok (.aload_n 0, 1) ∧ 967 + 1 = 968 := ⟨by decide +kernel, rfl⟩
theorem d_L_law_968 : decode b_L_law 968 = .ok (.iload 4, 2) ∧ 968 + 2 = 970 := ⟨by decide +kernel, rfl⟩
theorem d_L_law_970 : decode b_L_law 970 = .ok (.iconst 3, 1) ∧ 970 + 1 = 971 := ⟨by decide +kernel, rfl⟩
theorem d_L_law_971 : decode b_L_law 971 = .ok (.iadd, 1) ∧ 971 + 1 = 972 := ⟨by decide +kernel, rfl⟩
theorem d_L_law_972 : decode b_L_law 972 = .ok (.iaload, 1) ∧ 972 + 1 = 973 := ⟨by decide +kernel, rfl⟩
theorem d_L_law_973 : decode b_L_law 973 = .ok (.aload_n 3, 1) ∧ 973 + 1 = 974 := ⟨by decide +kernel, rfl⟩
theorem d_L_law_974 : decode b_L_law 974 = .ok (.invokestatic 127, 3) ∧ 974 + 3 = 977 := ⟨by decide +kernel, rfl⟩
theorem d_L_law_977 : decode b_L_law 977 = .ok (.istore 5, 2) ∧ 977 + 2 = 979 := ⟨by decide +kernel, rfl⟩
theorem d_L_law_979 : decode b_L_law 979 = .ok (.aload_n 2, 1) ∧ 979 + 1 = 980 := ⟨by decide +kernel, rfl⟩
theorem d_L_law_980 : decode b_L_law 980 = .ok (.aload_n 0, 1) ∧ 980 + 1 = 981 := ⟨by decide +kernel, rfl⟩
theorem d_L_law_981 : decode b_L_law 981 = .ok (.iload 4, 2) ∧ 981 + 2 = 983 := ⟨by decide +kernel, rfl⟩
theorem d_L_law_983 : decode b_L_law 983 = .ok (.iconst 1, 1) ∧ 983 + 1 = 984 := ⟨by decide +kernel, rfl⟩
theorem d_L_law_984 : decode b_L_law 984 = .ok (.iadd, 1) ∧ 984 + 1 = 985 := ⟨by decide +kernel, rfl⟩
theorem d_L_law_985 : decode b_L_law 985 = .ok (.iaload, 1) ∧ 985 + 1 = 986 := ⟨by decide +kernel, rfl⟩
theorem d_L_law_986 : decode b_L_law 986 = .ok (.aload_n 0, 1) ∧ 986 + 1 = 987 := ⟨by decide +kernel, rfl⟩
theorem d_L_law_987 : decode b_L_law 987 = .ok (.iload 4, 2) ∧ 987 + 2 = 989 := ⟨by decide +kernel, rfl⟩
theorem d_L_law_989 : decode b_L_law 989 = .ok (.iconst 2, 1) ∧ 989 + 1 = 990 := ⟨by decide +kernel, rfl⟩
theorem d_L_law_990 : decode b_L_law 990 = .ok (.iadd, 1) ∧ 990 + 1 = 991 := ⟨by decide +kernel, rfl⟩
theorem d_L_law_991 : decode b_L_law 991 = .ok (.iaload, 1) ∧ 991 + 1 = 992 := ⟨by decide +kernel, rfl⟩
theorem d_L_law_992 : decode b_L_law 992 = .ok (.aload_n 0, 1) ∧ 992 + 1 = 993 := ⟨by decide +kernel, rfl⟩
theorem d_L_law_993 : decode b_L_law 993 = .ok (.iload 4, 2) ∧ 993 + 2 = 995 := ⟨by decide +kernel, rfl⟩
theorem d_L_law_995 : decode b_L_law 995 = .ok (.iconst 3, 1) ∧ 995 + 1 = 996 := ⟨by decide +kernel, rfl⟩
theorem d_L_law_996 : decode b_L_law 996 = .ok (.iadd, 1) ∧ 996 + 1 = 997 := ⟨by decide +kernel, rfl⟩
theorem d_L_law_997 : decode b_L_law 997 = .ok (.iaload, 1) ∧ 997 + 1 = 998 := ⟨by decide +kernel, rfl⟩
theorem d_L_law_998 : decode b_L_law 998 = .ok (.invokevirtual 129, 3) ∧ 998 + 3 = 1001 := ⟨by decide +kernel, rfl⟩
theorem d_L_law_1001 : decode b_L_law 1001 = .ok (.istore 6, 2) ∧ 1001 + 2 = 1003 := ⟨by decide +kernel, rfl⟩
theorem d_L_law_1003 : decode b_L_law 1003 = .ok (.aload_n 2, 1) ∧ 1003 + 1 = 1004 := ⟨by decide +kernel, rfl⟩
theorem d_L_law_1004 : decode b_L_law 1004 = .ok (.invokevirtual 78, 3) ∧ 1004 + 3 = 1007 := ⟨by decide +kernel, rfl⟩
theorem d_L_law_1007 : decode b_L_law 1007 = .ok (.iload 5, 2) ∧ 1007 + 2 = 1009 := ⟨by decide +kernel, rfl⟩
theorem d_L_law_1009 : decode b_L_law 1009 = .ok (.if_icmp .eq 5, 3) ∧ 1009 + 3 = 1012 ∧ ((1009 : Nat) : Int) + 5 = ((1014 : Nat) : Int) := ⟨by decide +kernel, rfl, by decide⟩
theorem d_L_law_1012 : decode b_L_law 1012 = .ok (.iconst 0, 1) ∧ 1012 + 1 = 1013 := ⟨by decide +kernel, rfl⟩
theorem d_L_law_1013 : decode b_L_law 1013 = .ok (.ireturn, 1) := by decide +kernel
theorem d_L_law_1014 : decode b_L_law 1014 = .ok (.iload 5, 2) ∧ 1014 + 2 = 1016 := ⟨by decide +kernel, rfl⟩
theorem d_L_law_1016 : decode b_L_law 1016 = .ok (.ifCond .ne 15, 3) ∧ 1016 + 3 = 1019 ∧ ((1016 : Nat) : Int) + 15 = ((1031 : Nat) : Int) := ⟨by decide +kernel, rfl, by decide⟩
theorem d_L_law_1019 : decode b_L_law 1019 = .ok (.aload_n 3, 1) ∧ 1019 + 1 = 1020 := ⟨by decide +kernel, rfl⟩
theorem d_L_law_1020 : decode b_L_law 1020 = .ok (.iconst 0, 1) ∧ 1020 + 1 = 1021 := ⟨by decide +kernel, rfl⟩
theorem d_L_law_1021 : decode b_L_law 1021 = .ok (.laload, 1) ∧ 1021 + 1 = 1022 := ⟨by decide +kernel, rfl⟩
theorem d_L_law_1022 : decode b_L_law 1022 = .ok (.iload 6, 2) ∧ 1022 + 2 = 1024 := ⟨by decide +kernel, rfl⟩
theorem d_L_law_1024 : decode b_L_law 1024 = .ok (.i2l, 1) ∧ 1024 + 1 = 1025 := ⟨by decide +kernel, rfl⟩
theorem d_L_law_1025 : decode b_L_law 1025 = .ok (.lcmp, 1) ∧ 1025 + 1 = 1026 := ⟨by decide +kernel, rfl⟩
theorem d_L_law_1026 : decode b_L_law 1026 = .ok (.ifCond .eq 5, 3) ∧ 1026 + 3 = 1029 ∧ ((1026 : Nat) : Int) + 5 = ((1031 : Nat) : Int) := ⟨by decide +kernel, rfl, by decide⟩
theorem d_L_law_1029 : decode b_L_law 1029 = .ok (.iconst 0, 1) ∧ 1029 + 1 = 1030 := ⟨by decide +kernel, rfl⟩
theorem d_L_law_1030 : decode b_L_law 1030 = .ok (.ireturn, 1) := by decide +kernel
theorem d_L_law_1031 : decode b_L_law 1031 = .ok (.goto 86, 3) ∧ ((1031 : Nat) : Int) + 86 = ((1117 : Nat) : Int) := ⟨by decide +kernel, by decide⟩
theorem d_L_law_1034 : decode b_L_law 1034 = .ok (.aload_n 1, 1) ∧ 1034 + 1 = 1035 := ⟨by decide +kernel, rfl⟩
theorem d_L_law_1035 : decode b_L_law 1035 = .ok (.invokevirtual 130, 3) ∧ 1035 + 3 = 1038 := ⟨by decide +kernel, rfl⟩
theorem d_L_law_1038 : decode b_L_law 1038 = .ok (.aload_n 2, 1) ∧ 1038 + 1 = 1039 := ⟨by decide +kernel, rfl⟩
theorem d_L_law_1039 : decode b_L_law 1039 = .ok (.invokevirtual 133, 3) ∧ 1039 + 3 = 1042 := ⟨by decide +kernel, rfl⟩
theorem d_L_law_1042 : decode b_L_law 1042 = .ok (.goto 75, 3) ∧ ((1042 : Nat) : Int) + 75 = ((1117 : Nat) : Int) := ⟨by decide +kernel, by decide⟩
theorem d_L_law_1045 : decode b_L_law 1045 = .ok (.aload_n 1, 1) ∧ 1045 + 1 = 1046 := ⟨by decide +kernel, rfl⟩
theorem d_L_law_1046 : decode b_L_law 1046 = .ok (.aload_n 0, 1) ∧ 1046 + 1 = 1047 := ⟨by decide +kernel, rfl⟩
theorem d_L_law_1047 : decode b_L_law 1047 = .ok (.iload 4, 2) ∧ 1047 + 2 = 1049 := ⟨by decide +kernel, rfl⟩
theorem d_L_law_1049 : decode b_L_law 1049 = .ok (.iconst 1, 1) ∧ 1049 + 1 = 1050 := ⟨by decide +kernel, rfl⟩
theorem d_L_law_1050 : decode b_L_law 1050 = .ok (.iadd, 1) ∧ 1050 + 1 = 1051 := ⟨by decide +kernel, rfl⟩
theorem d_L_law_1051 : decode b_L_law 1051 = .ok (.iaload, 1) ∧ 1051 + 1 = 1052 := ⟨by decide +kernel, rfl⟩
theorem d_L_law_1052 : decode b_L_law 1052 = .ok (.ifCond .eq 7, 3) ∧ 1052 + 3 = 1055 ∧ ((1052 : Nat) : Int) + 7 = ((1059 : Nat) : Int) := ⟨by decide +kernel, rfl, by decide⟩
theorem d_L_law_1055 : decode b_L_law 1055 = .ok (.iconst 1, 1) ∧ 1055 + 1 = 1056 := ⟨by decide +kernel, rfl⟩
theorem d_L_law_1056 : decode b_L_law 1056 = .ok (.goto 4, 3) ∧ ((1056 : Nat) : Int) + 4 = ((1060 : Nat) : Int) := ⟨by decide +kernel, by decide⟩
theorem d_L_law_1059 : decode b_L_law 1059 = .ok (.iconst 0, 1) ∧ 1059 + 1 = 1060 := ⟨by decide +kernel, rfl⟩
theorem d_L_law_1060 : decode b_L_law 1060 = .ok (.aload_n 3, 1) ∧ 1060 + 1 = 1061 := ⟨by decide +kernel, rfl⟩
theorem d_L_law_1061 : decode b_L_law 1061 = .ok (.invokestatic 134, 3) ∧ 1061 + 3 = 1064 := ⟨by decide +kernel, rfl⟩
theorem d_L_law_1064 : decode b_L_law 1064 = .ok (.istore 5, 2) ∧ 1064 + 2 = 1066 := ⟨by decide +kernel, rfl⟩
theorem d_L_law_1066 : decode b_L_law 1066 = .ok (.aload_n 2, 1) ∧ 1066 + 1 = 1067 := ⟨by decide +kernel, rfl⟩
theorem d_L_law_1067 : decode b_L_law 1067 = .ok (.aload_n 0, 1) ∧ 1067 + 1 = 1068 := ⟨by decide +kernel, rfl⟩
theorem d_L_law_1068 : decode b_L_law 1068 = .ok (.iload 4, 2) ∧ 1068 + 2 = 1070 := ⟨by decide +kernel, rfl⟩
theorem d_L_law_1070 : decode b_L_law 1070 = .ok (.iconst 1, 1) ∧ 1070 + 1 = 1071 := ⟨by decide +kernel, rfl⟩
theorem d_L_law_1071 : decode b_L_law 1071 = .ok (.iadd, 1) ∧ 1071 + 1 = 1072 := ⟨by decide +kernel, rfl⟩
theorem d_L_law_1072 : decode b_L_law 1072 = .ok (.iaload, 1) ∧ 1072 + 1 = 1073 := ⟨by decide +kernel, rfl⟩
theorem d_L_law_1073 : decode b_L_law 1073 = .ok (.ifCond .eq 7, 3) ∧ 1073 + 3 = 1076 ∧ ((1073 : Nat) : Int) + 7 = ((1080 : Nat) : Int) := ⟨by decide +kernel, rfl, by decide⟩
theorem d_L_law_1076 : decode b_L_law 1076 = .ok (.iconst 1, 1) ∧ 1076 + 1 = 1077 := ⟨by decide +kernel, rfl⟩
theorem d_L_law_1077 : decode b_L_law 1077 = .ok (.goto 4, 3) ∧ ((1077 : Nat) : Int) + 4 = ((1081 : Nat) : Int) := ⟨by decide +kernel, by decide⟩
theorem d_L_law_1080 : decode b_L_law 1080 = .ok (.iconst 0, 1) ∧ 1080 + 1 = 1081 := ⟨by decide +kernel, rfl⟩
theorem d_L_law_1081 : decode b_L_law 1081 = .ok (.invokevirtual 137, 3) ∧ 1081 + 3 = 1084 := ⟨by decide +kernel, rfl⟩
theorem d_L_law_1084 : decode b_L_law 1084 = .ok (.istore 6, 2) ∧ 1084 + 2 = 1086 := ⟨by decide +kernel, rfl⟩
theorem d_L_law_1086 : decode b_L_law 1086 = .ok (.aload_n 2, 1) ∧ 1086 + 1 = 1087 := ⟨by decide +kernel, rfl⟩
theorem d_L_law_1087 : decode b_L_law 1087 = .ok (.invokevirtual 78, 3) ∧ 1087 + 3 = 1090 := ⟨by decide +kernel, rfl⟩
theorem d_L_law_1090 : decode b_L_law 1090 = .ok (.iload 5, 2) ∧ 1090 + 2 = 1092 := ⟨by decide +kernel, rfl⟩
theorem d_L_law_1092 : decode b_L_law 1092 = .ok (.if_icmp .eq 5, 3) ∧ 1092 + 3 = 1095 ∧ ((1092 : Nat) : Int) + 5 = ((1097 : Nat) : Int) := ⟨by decide +kernel, rfl, by decide⟩
theorem d_L_law_1095 : decode b_L_law 1095 = .ok (.iconst 0, 1) ∧ 1095 + 1 = 1096 := ⟨by decide +kernel, rfl⟩
theorem d_L_law_1096 : decode b_L_law 1096 = .ok (.ireturn, 1) := by decide +kernel
theorem d_L_law_1097 : decode b_L_law 1097 = .ok (.iload 5, 2) ∧ 1097 + 2 = 1099 := ⟨by decide +kernel, rfl⟩
theorem d_L_law_1099 : decode b_L_law 1099 = .ok (.ifCond .ne 15, 3) ∧ 1099 + 3 = 1102 ∧ ((1099 : Nat) : Int) + 15 = ((1114 : Nat) : Int) := ⟨by decide +kernel, rfl, by decide⟩
theorem d_L_law_1102 : decode b_L_law 1102 = .ok (.aload_n 3, 1) ∧ 1102 + 1 = 1103 := ⟨by decide +kernel, rfl⟩
theorem d_L_law_1103 : decode b_L_law 1103 = .ok (.iconst 0, 1) ∧ 1103 + 1 = 1104 := ⟨by decide +kernel, rfl⟩
theorem d_L_law_1104 : decode b_L_law 1104 = .ok (.laload, 1) ∧ 1104 + 1 = 1105 := ⟨by decide +kernel, rfl⟩
theorem d_L_law_1105 : decode b_L_law 1105 = .ok (.iload 6, 2) ∧ 1105 + 2 = 1107 := ⟨by decide +kernel, rfl⟩
theorem d_L_law_1107 : decode b_L_law 1107 = .ok (.i2l, 1) ∧ 1107 + 1 = 1108 := ⟨by decide +kernel, rfl⟩
theorem d_L_law_1108 : decode b_L_law 1108 = .ok (.lcmp, 1) ∧ 1108 + 1 = 1109 := ⟨by decide +kernel, rfl⟩
theorem d_L_law_1109 : decode b_L_law 1109 = .ok (.ifCond .eq 5, 3) ∧ 1109 + 3 = 1112 ∧ ((1109 : Nat) : Int) + 5 = ((1114 : Nat) : Int) := ⟨by decide +kernel, rfl, by decide⟩
theorem d_L_law_1112 : decode b_L_law 1112 = .ok (.iconst 0, 1) ∧ 1112 + 1 = 1113 := ⟨by decide +kernel, rfl⟩
theorem d_L_law_1113 : decode b_L_law 1113 = .ok (.ireturn, 1) := by decide +kernel
theorem d_L_law_1114 : decode b_L_law 1114 = .ok (.goto 3, 3) ∧ ((1114 : Nat) : Int) + 3 = ((1117 : Nat) : Int) := ⟨by decide +kernel, by decide⟩
theorem d_L_law_1117 : decode b_L_law 1117 = .ok (.iinc 4 4, 3) ∧ 1117 + 3 = 1120 := ⟨by decide +kernel, rfl⟩
theorem d_L_law_1120 : decode b_L_law 1120 = .ok (.goto (-1097), 3) ∧ ((1120 : Nat) : Int) + (-1097) = ((23 : Nat) : Int) := ⟨by decide +kernel, by decide⟩
theorem d_L_law_1123 : decode b_L_law 1123 = .ok (.iconst 1, 1) ∧ 1123 + 1 = 1124 := ⟨by decide +kernel, rfl⟩
theorem d_L_law_1124 : decode b_L_law 1124 = .ok (.ireturn, 1) := by decide +kernel
theorem d_L_look_0 : decode b_L_look 0 = .ok (.aload 4, 2) ∧ 0 + 2 = 2 := ⟨by decide +kernel, rfl⟩
theorem d_L_look_2 : decode b_L_look 2 = .ok (.iconst 0, 1) ∧ 2 + 1 = 3 := ⟨by decide +kernel, rfl⟩
theorem d_L_look_3 : decode b_L_look 3 = .ok (.aload_n 0, 1) ∧ 3 + 1 = 4 := ⟨by decide +kernel, rfl⟩
theorem d_L_look_4 : decode b_L_look 4 = .ok (.iload_n 1, 1) ∧ 4 + 1 = 5 := ⟨by decide +kernel, rfl⟩
theorem d_L_look_5 : decode b_L_look 5 = .ok (.iload_n 2, 1) ∧ 5 + 1 = 6 := ⟨by decide +kernel, rfl⟩
theorem d_L_look_6 : decode b_L_look 6 = .ok (.iload_n 3, 1) ∧ 6 + 1 = 7 := ⟨by decide +kernel, rfl⟩
theorem d_L_look_7 : decode b_L_look 7 = .ok (.invokevirtual 21, 3) ∧ 7 + 3 = 10 := ⟨by decide +kernel, rfl⟩
theorem d_L_look_10 : decode b_L_look 10 = .ok (.i2l, 1) ∧ 10 + 1 = 11 := ⟨by decide +kernel, rfl⟩
theorem d_L_look_11 : decode b_L_look 11 = .ok (.lastore, 1) ∧ 11 + 1 = 12 := ⟨by decide +kernel, rfl⟩
theorem d_L_look_12 : decode b_L_look 12 = .ok (.goto 11, 3) ∧ ((12 : Nat) : Int) + 11 = ((23 : Nat) : Int) := ⟨by decide +kernel, by decide⟩
theorem d_L_look_15 : decode b_L_look 15 = .ok (.astore 5, 2) ∧ 15 + 2 = 17 := ⟨by decide +kernel, rfl⟩
theorem d_L_look_17 : decode b_L_look 17 = .ok (.iconst 1, 1) ∧ 17 + 1 = 18 := ⟨by decide +kernel, rfl⟩
theorem d_L_look_18 : decode b_L_look 18 = .ok (.ireturn, 1) := by decide +kernel
theorem d_L_look_19 : decode b_L_look 19 = .ok (.astore 5, 2) ∧ 19 + 2 = 21 := ⟨by decide +kernel, rfl⟩
theorem d_L_look_21 : decode b_L_look 21 = .ok (.iconst 2, 1) ∧ 21 + 1 = 22 := ⟨by decide +kernel, rfl⟩
theorem d_L_look_22 : decode b_L_look 22 = .ok (.ireturn, 1) := by decide +kernel
theorem d_L_look_23 : decode b_L_look 23 = .ok (.iconst 0, 1) ∧ 23 + 1 = 24 := ⟨by decide +kernel, rfl⟩
theorem d_L_look_24 : decode b_L_look 24 = .ok (.ireturn, 1) := by decide +kernel
theorem d_L_pixel_0 : decode b_L_pixel 0 = .ok (.aload 4, 2) ∧ 0 + 2 = 2 := ⟨by decide +kernel, rfl⟩
theorem d_L_pixel_2 : decode b_L_pixel 2 = .ok (.iconst 0, 1) ∧ 2 + 1 = 3 := ⟨by decide +kernel, rfl⟩
theorem d_L_pixel_3 : decode b_L_pixel 3 = .ok (.aload_n 0, 1) ∧ 3 + 1 = 4 := ⟨by decide +kernel, rfl⟩
theorem d_L_pixel_4 : decode b_L_pixel 4 = .ok (.iload_n 1, 1) ∧ 4 + 1 = 5 := ⟨by decide +kernel, rfl⟩
theorem d_L_pixel_5 : decode b_L_pixel 5 = .ok (.iload_n 2, 1) ∧ 5 + 1 = 6 := ⟨by decide +kernel, rfl⟩
theorem d_L_pixel_6 : decode b_L_pixel 6 = .ok (.iload_n 3, 1) ∧ 6 + 1 = 7 := ⟨by decide +kernel, rfl⟩
theorem d_L_pixel_7 : decode b_L_pixel 7 = .ok (.invokevirtual 15, 3) ∧ 7 + 3 = 10 := ⟨by decide +kernel, rfl⟩
theorem d_L_pixel_10 : decode b_L_pixel 10 = .ok (.i2l, 1) ∧ 10 + 1 = 11 := ⟨by decide +kernel, rfl⟩
theorem d_L_pixel_11 : decode b_L_pixel 11 = .ok (.lastore, 1) ∧ 11 + 1 = 12 := ⟨by decide +kernel, rfl⟩
theorem d_L_pixel_12 : decode b_L_pixel 12 = .ok (.goto 7, 3) ∧ ((12 : Nat) : Int) + 7 = ((19 : Nat) : Int) := ⟨by decide +kernel, by decide⟩
theorem d_L_pixel_15 : decode b_L_pixel 15 = .ok (.astore 5, 2) ∧ 15 + 2 = 17 := ⟨by decide +kernel, rfl⟩
theorem d_L_pixel_17 : decode b_L_pixel 17 = .ok (.iconst 1, 1) ∧ 17 + 1 = 18 := ⟨by decide +kernel, rfl⟩
theorem d_L_pixel_18 : decode b_L_pixel 18 = .ok (.ireturn, 1) := by decide +kernel
theorem d_L_pixel_19 : decode b_L_pixel 19 = .ok (.iconst 0, 1) ∧ 19 + 1 = 20 := ⟨by decide +kernel, rfl⟩
theorem d_L_pixel_20 : decode b_L_pixel 20 = .ok (.ireturn, 1) := by decide +kernel
theorem d_L_project_0 : decode b_L_project 0 = .ok (.aload_n 0, 1) ∧ 0 + 1 = 1 := ⟨by decide +kernel, rfl⟩
theorem d_L_project_1 : decode b_L_project 1 = .ok (.iload_n 1, 1) ∧ 1 + 1 = 2 := ⟨by decide +kernel, rfl⟩
theorem d_L_project_2 : decode b_L_project 2 = .ok (.invokevirtual 34, 3) ∧ 2 + 3 = 5 := ⟨by decide +kernel, rfl⟩
theorem d_L_project_5 : decode b_L_project 5 = .ok (.goto 9, 3) ∧ ((5 : Nat) : Int) + 9 = ((14 : Nat) : Int) := ⟨by decide +kernel, by decide⟩
theorem d_L_project_8 : decode b_L_project 8 = .ok (.astore_n 2, 1) ∧ 8 + 1 = 9 := ⟨by decide +kernel, rfl⟩
theorem d_L_project_9 : decode b_L_project 9 = .ok (.iconst 1, 1) ∧ 9 + 1 = 10 := ⟨by decide +kernel, rfl⟩
theorem d_L_project_10 : decode b_L_project 10 = .ok (.ireturn, 1) := by decide +kernel
theorem d_L_project_11 : decode b_L_project 11 = .ok (.astore_n 2, 1) ∧ 11 + 1 = 12 := ⟨by decide +kernel, rfl⟩
theorem d_L_project_12 : decode b_L_project 12 = .ok (.iconst 2, 1) ∧ 12 + 1 = 13 := ⟨by decide +kernel, rfl⟩
theorem d_L_project_13 : decode b_L_project 13 = .ok (.ireturn, 1) := by decide +kernel
theorem d_L_project_14 : decode b_L_project 14 = .ok (.iconst 0, 1) ∧ 14 + 1 = 15 := ⟨by decide +kernel, rfl⟩
theorem d_L_project_15 : decode b_L_project 15 = .ok (.ireturn, 1) := by decide +kernel
theorem d_L_put_0 : decode b_L_put 0 = .ok (.aload 4, 2) ∧ 0 + 2 = 2 := ⟨by decide +kernel, rfl⟩
theorem d_L_put_2 : decode b_L_put 2 = .ok (.iconst 0, 1) ∧ 2 + 1 = 3 := ⟨by decide +kernel, rfl⟩
theorem d_L_put_3 : decode b_L_put 3 = .ok (.aload_n 0, 1) ∧ 3 + 1 = 4 := ⟨by decide +kernel, rfl⟩
theorem d_L_put_4 : decode b_L_put 4 = .ok (.iload_n 1, 1) ∧ 4 + 1 = 5 := ⟨by decide +kernel, rfl⟩
theorem d_L_put_5 : decode b_L_put 5 = .ok (.iload_n 2, 1) ∧ 5 + 1 = 6 := ⟨by decide +kernel, rfl⟩
theorem d_L_put_6 : decode b_L_put 6 = .ok (.iload_n 3, 1) ∧ 6 + 1 = 7 := ⟨by decide +kernel, rfl⟩
theorem d_L_put_7 : decode b_L_put 7 = .ok (.invokevirtual 45, 3) ∧ 7 + 3 = 10 := ⟨by decide +kernel, rfl⟩
theorem d_L_put_10 : decode b_L_put 10 = .ok (.i2l, 1) ∧ 10 + 1 = 11 := ⟨by decide +kernel, rfl⟩
theorem d_L_put_11 : decode b_L_put 11 = .ok (.lastore, 1) ∧ 11 + 1 = 12 := ⟨by decide +kernel, rfl⟩
theorem d_L_put_12 : decode b_L_put 12 = .ok (.goto 11, 3) ∧ ((12 : Nat) : Int) + 11 = ((23 : Nat) : Int) := ⟨by decide +kernel, by decide⟩
theorem d_L_put_15 : decode b_L_put 15 = .ok (.astore 5, 2) ∧ 15 + 2 = 17 := ⟨by decide +kernel, rfl⟩
theorem d_L_put_17 : decode b_L_put 17 = .ok (.iconst 1, 1) ∧ 17 + 1 = 18 := ⟨by decide +kernel, rfl⟩
theorem d_L_put_18 : decode b_L_put 18 = .ok (.ireturn, 1) := by decide +kernel
theorem d_L_put_19 : decode b_L_put 19 = .ok (.astore 5, 2) ∧ 19 + 2 = 21 := ⟨by decide +kernel, rfl⟩
theorem d_L_put_21 : decode b_L_put 21 = .ok (.iconst 2, 1) ∧ 21 + 1 = 22 := ⟨by decide +kernel, rfl⟩
theorem d_L_put_22 : decode b_L_put 22 = .ok (.ireturn, 1) := by decide +kernel
theorem d_L_put_23 : decode b_L_put 23 = .ok (.iconst 0, 1) ∧ 23 + 1 = 24 := ⟨by decide +kernel, rfl⟩
theorem d_L_put_24 : decode b_L_put 24 = .ok (.ireturn, 1) := by decide +kernel
theorem d_L_rebuild_0 : decode b_L_rebuild 0 = .ok (.aload_n 2, 1) ∧ 0 + 1 = 1 := ⟨by decide +kernel, rfl⟩
theorem d_L_rebuild_1 : decode b_L_rebuild 1 = .ok (.iconst 0, 1) ∧ 1 + 1 = 2 := ⟨by decide +kernel, rfl⟩
theorem d_L_rebuild_2 : decode b_L_rebuild 2 = .ok (.aload_n 0, 1) ∧ 2 + 1 = 3 := ⟨by decide +kernel, rfl⟩
theorem d_L_rebuild_3 : decode b_L_rebuild 3 = .ok (.iload_n 1, 1) ∧ 3 + 1 = 4 := ⟨by decide +kernel, rfl⟩
theorem d_L_rebuild_4 : decode b_L_rebuild 4 = .ok (.invokevirtual 51, 3) ∧ 4 + 3 = 7 := ⟨by decide +kernel, rfl⟩
theorem d_L_rebuild_7 : decode b_L_rebuild 7 = .ok (.i2l, 1) ∧ 7 + 1 = 8 := ⟨by decide +kernel, rfl⟩
theorem d_L_rebuild_8 : decode b_L_rebuild 8 = .ok (.lastore, 1) ∧ 8 + 1 = 9 := ⟨by decide +kernel, rfl⟩
theorem d_L_rebuild_9 : decode b_L_rebuild 9 = .ok (.goto 9, 3) ∧ ((9 : Nat) : Int) + 9 = ((18 : Nat) : Int) := ⟨by decide +kernel, by decide⟩
theorem d_L_rebuild_12 : decode b_L_rebuild 12 = .ok (.astore_n 3, 1) ∧ 12 + 1 = 13 := ⟨by decide +kernel, rfl⟩
theorem d_L_rebuild_13 : decode b_L_rebuild 13 = .ok (.iconst 1, 1) ∧ 13 + 1 = 14 := ⟨by decide +kernel, rfl⟩
theorem d_L_rebuild_14 : decode b_L_rebuild 14 = .ok (.ireturn, 1) := by decide +kernel
theorem d_L_rebuild_15 : decode b_L_rebuild 15 = .ok (.astore_n 3, 1) ∧ 15 + 1 = 16 := ⟨by decide +kernel, rfl⟩
theorem d_L_rebuild_16 : decode b_L_rebuild 16 = .ok (.iconst 2, 1) ∧ 16 + 1 = 17 := ⟨by decide +kernel, rfl⟩
theorem d_L_rebuild_17 : decode b_L_rebuild 17 = .ok (.ireturn, 1) := by decide +kernel
theorem d_L_rebuild_18 : decode b_L_rebuild 18 = .ok (.iconst 0, 1) ∧ 18 + 1 = 19 := ⟨by decide +kernel, rfl⟩
theorem d_L_rebuild_19 : decode b_L_rebuild 19 = .ok (.ireturn, 1) := by decide +kernel
theorem d_L_regenerate_0 : decode b_L_regenerate 0 = .ok (.aload_n 2, 1) ∧ 0 + 1 = 1 := ⟨by decide +kernel, rfl⟩
theorem d_L_regenerate_1 : decode b_L_regenerate 1 = .ok (.iconst 0, 1) ∧ 1 + 1 = 2 := ⟨by decide +kernel, rfl⟩
theorem d_L_regenerate_2 : decode b_L_regenerate 2 = .ok (.aload_n 0, 1) ∧ 2 + 1 = 3 := ⟨by decide +kernel, rfl⟩
theorem d_L_regenerate_3 : decode b_L_regenerate 3 = .ok (.iload_n 1, 1) ∧ 3 + 1 = 4 := ⟨by decide +kernel, rfl⟩
theorem d_L_regenerate_4 : decode b_L_regenerate 4 = .ok (.invokevirtual 58, 3) ∧ 4 + 3 = 7 := ⟨by decide +kernel, rfl⟩
theorem d_L_regenerate_7 : decode b_L_regenerate 7 = .ok (.ifCond .eq 7, 3) ∧ 7 + 3 = 10 ∧ ((7 : Nat) : Int) + 7 = ((14 : Nat) : Int) := ⟨by decide +kernel, rfl, by decide⟩
theorem d_L_regenerate_10 : decode b_L_regenerate 10 = .ok (.lconst 1, 1) ∧ 10 + 1 = 11 := ⟨by decide +kernel, rfl⟩
theorem d_L_regenerate_11 : decode b_L_regenerate 11 = .ok (.goto 4, 3) ∧ ((11 : Nat) : Int) + 4 = ((15 : Nat) : Int) := ⟨by decide +kernel, by decide⟩
theorem d_L_regenerate_14 : decode b_L_regenerate 14 = .ok (.lconst 0, 1) ∧ 14 + 1 = 15 := ⟨by decide +kernel, rfl⟩
theorem d_L_regenerate_15 : decode b_L_regenerate 15 = .ok (.lastore, 1) ∧ 15 + 1 = 16 := ⟨by decide +kernel, rfl⟩
theorem d_L_regenerate_16 : decode b_L_regenerate 16 = .ok (.goto 9, 3) ∧ ((16 : Nat) : Int) + 9 = ((25 : Nat) : Int) := ⟨by decide +kernel, by decide⟩
theorem d_L_regenerate_19 : decode b_L_regenerate 19 = .ok (.astore_n 3, 1) ∧ 19 + 1 = 20 := ⟨by decide +kernel, rfl⟩
theorem d_L_regenerate_20 : decode b_L_regenerate 20 = .ok (.iconst 1, 1) ∧ 20 + 1 = 21 := ⟨by decide +kernel, rfl⟩
theorem d_L_regenerate_21 : decode b_L_regenerate 21 = .ok (.ireturn, 1) := by decide +kernel
theorem d_L_regenerate_22 : decode b_L_regenerate 22 = .ok (.astore_n 3, 1) ∧ 22 + 1 = 23 := ⟨by decide +kernel, rfl⟩
theorem d_L_regenerate_23 : decode b_L_regenerate 23 = .ok (.iconst 2, 1) ∧ 23 + 1 = 24 := ⟨by decide +kernel, rfl⟩
theorem d_L_regenerate_24 : decode b_L_regenerate 24 = .ok (.ireturn, 1) := by decide +kernel
theorem d_L_regenerate_25 : decode b_L_regenerate 25 = .ok (.iconst 0, 1) ∧ 25 + 1 = 26 := ⟨by decide +kernel, rfl⟩
theorem d_L_regenerate_26 : decode b_L_regenerate 26 = .ok (.ireturn, 1) := by decide +kernel
theorem d_L_shelf_0 : decode b_L_shelf 0 = .ok (.aload_n 3, 1) ∧ 0 + 1 = 1 := ⟨by decide +kernel, rfl⟩
theorem d_L_shelf_1 : decode b_L_shelf 1 = .ok (.iconst 0, 1) ∧ 1 + 1 = 2 := ⟨by decide +kernel, rfl⟩
theorem d_L_shelf_2 : decode b_L_shelf 2 = .ok (.aload_n 0, 1) ∧ 2 + 1 = 3 := ⟨by decide +kernel, rfl⟩
theorem d_L_shelf_3 : decode b_L_shelf 3 = .ok (.iload_n 1, 1) ∧ 3 + 1 = 4 := ⟨by decide +kernel, rfl⟩
theorem d_L_shelf_4 : decode b_L_shelf 4 = .ok (.iload_n 2, 1) ∧ 4 + 1 = 5 := ⟨by decide +kernel, rfl⟩
theorem d_L_shelf_5 : decode b_L_shelf 5 = .ok (.invokevirtual 30, 3) ∧ 5 + 3 = 8 := ⟨by decide +kernel, rfl⟩
theorem d_L_shelf_8 : decode b_L_shelf 8 = .ok (.i2l, 1) ∧ 8 + 1 = 9 := ⟨by decide +kernel, rfl⟩
theorem d_L_shelf_9 : decode b_L_shelf 9 = .ok (.lastore, 1) ∧ 9 + 1 = 10 := ⟨by decide +kernel, rfl⟩
theorem d_L_shelf_10 : decode b_L_shelf 10 = .ok (.goto 11, 3) ∧ ((10 : Nat) : Int) + 11 = ((21 : Nat) : Int) := ⟨by decide +kernel, by decide⟩
theorem d_L_shelf_13 : decode b_L_shelf 13 = .ok (.astore 4, 2) ∧ 13 + 2 = 15 := ⟨by decide +kernel, rfl⟩
theorem d_L_shelf_15 : decode b_L_shelf 15 = .ok (.iconst 1, 1) ∧ 15 + 1 = 16 := ⟨by decide +kernel, rfl⟩
theorem d_L_shelf_16 : decode b_L_shelf 16 = .ok (.ireturn, 1) := by decide +kernel
theorem d_L_shelf_17 : decode b_L_shelf 17 = .ok (.astore 4, 2) ∧ 17 + 2 = 19 := ⟨by decide +kernel, rfl⟩
theorem d_L_shelf_19 : decode b_L_shelf 19 = .ok (.iconst 2, 1) ∧ 19 + 1 = 20 := ⟨by decide +kernel, rfl⟩
theorem d_L_shelf_20 : decode b_L_shelf 20 = .ok (.ireturn, 1) := by decide +kernel
theorem d_L_shelf_21 : decode b_L_shelf 21 = .ok (.iconst 0, 1) ∧ 21 + 1 = 22 := ⟨by decide +kernel, rfl⟩
theorem d_L_shelf_22 : decode b_L_shelf 22 = .ok (.ireturn, 1) := by decide +kernel
theorem d_L_size_0 : decode b_L_size 0 = .ok (.aload_n 0, 1) ∧ 0 + 1 = 1 := ⟨by decide +kernel, rfl⟩
theorem d_L_size_1 : decode b_L_size 1 = .ok (.iload_n 1, 1) ∧ 1 + 1 = 2 := ⟨by decide +kernel, rfl⟩
theorem d_L_size_2 : decode b_L_size 2 = .ok (.iload_n 2, 1) ∧ 2 + 1 = 3 := ⟨by decide +kernel, rfl⟩
theorem d_L_size_3 : decode b_L_size 3 = .ok (.invokevirtual 7, 3) ∧ 3 + 3 = 6 := ⟨by decide +kernel, rfl⟩
theorem d_L_size_6 : decode b_L_size 6 = .ok (.goto 6, 3) ∧ ((6 : Nat) : Int) + 6 = ((12 : Nat) : Int) := ⟨by decide +kernel, by decide⟩
theorem d_L_size_9 : decode b_L_size 9 = .ok (.astore_n 3, 1) ∧ 9 + 1 = 10 := ⟨by decide +kernel, rfl⟩
theorem d_L_size_10 : decode b_L_size 10 = .ok (.iconst 1, 1) ∧ 10 + 1 = 11 := ⟨by decide +kernel, rfl⟩
theorem d_L_size_11 : decode b_L_size 11 = .ok (.ireturn, 1) := by decide +kernel
theorem d_L_size_12 : decode b_L_size 12 = .ok (.iconst 0, 1) ∧ 12 + 1 = 13 := ⟨by decide +kernel, rfl⟩
theorem d_L_size_13 : decode b_L_size 13 = .ok (.ireturn, 1) := by decide +kernel
