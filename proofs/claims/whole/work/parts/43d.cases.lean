section LAWC2
variable {E : EE} {n0 : Nat} {p : Program} {l : Launch} {e : Env} {s : State} {m : MethodId} {args : Array Value} {below : List Frame} {meth : Method} {c : Code} {Qf : State → Prop} {k n b L : Nat} {xs : Nat → Int32} {x : Int32} {σ : Mem}
set_option maxHeartbeats 4000000 in
set_option maxRecDepth 100000 in
theorem ca_see (C : CxW E n0 p s m args meth c RL wsL_law cL_law 4 ret) (hX : va_X b L xs s s.heap) (hbl : b < n0) (hin : ∀ j : Int, 1 ≤ j → j ≤ 4 → vp_in (x + Int32.ofInt j) L) (hk : k ≤ room_1.cells ∧ n ≤ room_1.slots) (h : Inv σ) (kk : ∀ τ : Mem, Inv τ → JW E n0 p l e room_1 s m args below meth c Qf 4 k n 1363 (lvL E b x) [] τ) : JW E n0 p l e room_1 s m args below meth c Qf 4 k n 964 (lvL E b x) [] σ := by
  refine w_aload C 1 dL_law_964 rfl 2 rfl ?_
  refine w_arg C hX hbl dL_law_965 dL_law_966 dL_law_967 dL_law_968 dL_law_969 (hin 1 (by decide) (by decide)) ?_
  refine w_arg C hX hbl dL_law_970 dL_law_971 dL_law_972 dL_law_973 dL_law_974 (hin 2 (by decide) (by decide)) ?_
  refine w_callI (As := [.int (xs (x + Int32.ofInt 1).toNatClampNeg), .int (xs (x + Int32.ofInt 2).toNatClampNeg)]) (rest := []) C 0 (c_X5_see (g_see h)) (cwV 2 C.2.2.2.2.2.1 gL_law_X5_see rfl rfl rfl hdX5_see ⟨Nat.le_of_ble_eq_true rfl, Nat.le_of_ble_eq_true rfl⟩) rfl rfl rfl rfl (Nat.le_of_ble_eq_true rfl) hk dL_law_975 (fun r τ h1 => ?_)
  refine w_aload C 2 dL_law_978 rfl 1 rfl ?_
  refine w_arg C hX hbl dL_law_979 dL_law_980 dL_law_981 dL_law_982 dL_law_983 (hin 1 (by decide) (by decide)) ?_
  refine w_arg C hX hbl dL_law_984 dL_law_985 dL_law_986 dL_law_987 dL_law_988 (hin 2 (by decide) (by decide)) ?_
  refine w_callI (As := [.int (xs (x + Int32.ofInt 1).toNatClampNeg), .int (xs (x + Int32.ofInt 2).toNatClampNeg)]) (rest := [.int r]) C 64 (c_X6_see h1) (cwV 2 C.2.2.2.2.2.1 gL_law_X6_see rfl rfl rfl hdX6_see ⟨Nat.le_of_ble_eq_true rfl, Nat.le_of_ble_eq_true rfl⟩) rfl rfl rfl rfl (Nat.le_of_ble_eq_true rfl) hk dL_law_989 (fun r1 τ1 h2 => ?_)
  obtain ⟨e9, hI⟩ := h2
  subst e9
  exact w_icmp_eq C 1363 dL_law_992 (by decide) (fun _ => kk τ1 hI) (fun h9 => absurd rfl h9)
set_option maxHeartbeats 4000000 in
set_option maxRecDepth 100000 in
theorem ca_forget (C : CxW E n0 p s m args meth c RL wsL_law cL_law 4 ret) (hX : va_X b L xs s s.heap) (hbl : b < n0) (hin : ∀ j : Int, 1 ≤ j → j ≤ 4 → vp_in (x + Int32.ofInt j) L) (hk : k ≤ room_1.cells ∧ n ≤ room_1.slots) (h : Inv σ) (kk : ∀ τ : Mem, Inv τ → JW E n0 p l e room_1 s m args below meth c Qf 4 k n 1363 (lvL E b x) [] τ) : JW E n0 p l e room_1 s m args below meth c Qf 4 k n 997 (lvL E b x) [] σ := by
  refine w_aload C 1 dL_law_997 rfl 2 rfl ?_
  refine w_arg C hX hbl dL_law_998 dL_law_999 dL_law_1000 dL_law_1001 dL_law_1002 (hin 1 (by decide) (by decide)) ?_
  refine w_callI (As := [.int (xs (x + Int32.ofInt 1).toNatClampNeg)]) (rest := []) C 0 (c_X5_forget (g_forget h)) (cwV 1 C.2.2.2.2.2.1 gL_law_X5_forget rfl rfl rfl hdX5_forget ⟨Nat.le_of_ble_eq_true rfl, Nat.le_of_ble_eq_true rfl⟩) rfl rfl rfl rfl (Nat.le_of_ble_eq_true rfl) hk dL_law_1003 (fun r τ h1 => ?_)
  refine w_aload C 2 dL_law_1006 rfl 1 rfl ?_
  refine w_arg C hX hbl dL_law_1007 dL_law_1008 dL_law_1009 dL_law_1010 dL_law_1011 (hin 1 (by decide) (by decide)) ?_
  refine w_callI (As := [.int (xs (x + Int32.ofInt 1).toNatClampNeg)]) (rest := [.int r]) C 64 (c_X6_forget h1) (cwV 1 C.2.2.2.2.2.1 gL_law_X6_forget rfl rfl rfl hdX6_forget ⟨Nat.le_of_ble_eq_true rfl, Nat.le_of_ble_eq_true rfl⟩) rfl rfl rfl rfl (Nat.le_of_ble_eq_true rfl) hk dL_law_1012 (fun r1 τ1 h2 => ?_)
  obtain ⟨e9, hI⟩ := h2
  subst e9
  exact w_icmp_eq C 1363 dL_law_1015 (by decide) (fun _ => kk τ1 hI) (fun h9 => absurd rfl h9)
set_option maxHeartbeats 4000000 in
set_option maxRecDepth 100000 in
theorem ca_kinds (C : CxW E n0 p s m args meth c RL wsL_law cL_law 4 ret) (hX : va_X b L xs s s.heap) (hbl : b < n0) (hin : ∀ j : Int, 1 ≤ j → j ≤ 4 → vp_in (x + Int32.ofInt j) L) (hk : k ≤ room_1.cells ∧ n ≤ room_1.slots) (h : Inv σ) (kk : ∀ τ : Mem, Inv τ → JW E n0 p l e room_1 s m args below meth c Qf 4 k n 1363 (lvL E b x) [] τ) : JW E n0 p l e room_1 s m args below meth c Qf 4 k n 1020 (lvL E b x) [] σ := by
  refine w_aload C 1 dL_law_1020 rfl 2 rfl ?_
  refine w_arg C hX hbl dL_law_1021 dL_law_1022 dL_law_1023 dL_law_1024 dL_law_1025 (hin 1 (by decide) (by decide)) ?_
  refine w_callI (As := [.int (xs (x + Int32.ofInt 1).toNatClampNeg)]) (rest := []) C 0 (c_X5_kinds (g_kinds h)) (cwV 1 C.2.2.2.2.2.1 gL_law_X5_kinds rfl rfl rfl hdX5_kinds ⟨Nat.le_of_ble_eq_true rfl, Nat.le_of_ble_eq_true rfl⟩) rfl rfl rfl rfl (Nat.le_of_ble_eq_true rfl) hk dL_law_1026 (fun r τ h1 => ?_)
  refine w_aload C 2 dL_law_1029 rfl 1 rfl ?_
  refine w_arg C hX hbl dL_law_1030 dL_law_1031 dL_law_1032 dL_law_1033 dL_law_1034 (hin 1 (by decide) (by decide)) ?_
  refine w_callI (As := [.int (xs (x + Int32.ofInt 1).toNatClampNeg)]) (rest := [.int r]) C 64 (c_X6_kinds h1) (cwV 1 C.2.2.2.2.2.1 gL_law_X6_kinds rfl rfl rfl hdX6_kinds ⟨Nat.le_of_ble_eq_true rfl, Nat.le_of_ble_eq_true rfl⟩) rfl rfl rfl rfl (Nat.le_of_ble_eq_true rfl) hk dL_law_1035 (fun r1 τ1 h2 => ?_)
  obtain ⟨e9, hI⟩ := h2
  subst e9
  exact w_icmp_eq C 1363 dL_law_1038 (by decide) (fun _ => kk τ1 hI) (fun h9 => absurd rfl h9)
set_option maxHeartbeats 4000000 in
set_option maxRecDepth 100000 in
theorem ca_springs (C : CxW E n0 p s m args meth c RL wsL_law cL_law 4 ret) (hX : va_X b L xs s s.heap) (hbl : b < n0) (hin : ∀ j : Int, 1 ≤ j → j ≤ 4 → vp_in (x + Int32.ofInt j) L) (hk : k ≤ room_1.cells ∧ n ≤ room_1.slots) (h : Inv σ) (kk : ∀ τ : Mem, Inv τ → JW E n0 p l e room_1 s m args below meth c Qf 4 k n 1363 (lvL E b x) [] τ) : JW E n0 p l e room_1 s m args below meth c Qf 4 k n 1043 (lvL E b x) [] σ := by
  refine w_aload C 1 dL_law_1043 rfl 2 rfl ?_
  refine w_arg C hX hbl dL_law_1044 dL_law_1045 dL_law_1046 dL_law_1047 dL_law_1048 (hin 1 (by decide) (by decide)) ?_
  refine w_callI (As := [.int (xs (x + Int32.ofInt 1).toNatClampNeg)]) (rest := []) C 0 (c_X5_springs (g_springs h)) (cwV 1 C.2.2.2.2.2.1 gL_law_X5_springs rfl rfl rfl hdX5_springs ⟨Nat.le_of_ble_eq_true rfl, Nat.le_of_ble_eq_true rfl⟩) rfl rfl rfl rfl (Nat.le_of_ble_eq_true rfl) hk dL_law_1049 (fun r τ h1 => ?_)
  refine w_aload C 2 dL_law_1052 rfl 1 rfl ?_
  refine w_arg C hX hbl dL_law_1053 dL_law_1054 dL_law_1055 dL_law_1056 dL_law_1057 (hin 1 (by decide) (by decide)) ?_
  refine w_callI (As := [.int (xs (x + Int32.ofInt 1).toNatClampNeg)]) (rest := [.int r]) C 64 (c_X6_springs h1) (cwV 1 C.2.2.2.2.2.1 gL_law_X6_springs rfl rfl rfl hdX6_springs ⟨Nat.le_of_ble_eq_true rfl, Nat.le_of_ble_eq_true rfl⟩) rfl rfl rfl rfl (Nat.le_of_ble_eq_true rfl) hk dL_law_1058 (fun r1 τ1 h2 => ?_)
  obtain ⟨e9, hI⟩ := h2
  subst e9
  exact w_icmp_eq C 1363 dL_law_1061 (by decide) (fun _ => kk τ1 hI) (fun h9 => absurd rfl h9)
set_option maxHeartbeats 4000000 in
set_option maxRecDepth 100000 in
theorem ca_ask (C : CxW E n0 p s m args meth c RL wsL_law cL_law 4 ret) (hX : va_X b L xs s s.heap) (hbl : b < n0) (hin : ∀ j : Int, 1 ≤ j → j ≤ 4 → vp_in (x + Int32.ofInt j) L) (hk : k ≤ room_1.cells ∧ n ≤ room_1.slots) (h : Inv σ) (kk : ∀ τ : Mem, Inv τ → JW E n0 p l e room_1 s m args below meth c Qf 4 k n 1363 (lvL E b x) [] τ) : JW E n0 p l e room_1 s m args below meth c Qf 4 k n 1066 (lvL E b x) [] σ := by
  refine w_aload C 1 dL_law_1066 rfl 2 rfl ?_
  refine w_arg C hX hbl dL_law_1067 dL_law_1068 dL_law_1069 dL_law_1070 dL_law_1071 (hin 1 (by decide) (by decide)) ?_
  refine w_arg C hX hbl dL_law_1072 dL_law_1073 dL_law_1074 dL_law_1075 dL_law_1076 (hin 2 (by decide) (by decide)) ?_
  refine w_callI (As := [.int (xs (x + Int32.ofInt 1).toNatClampNeg), .int (xs (x + Int32.ofInt 2).toNatClampNeg)]) (rest := []) C 0 (c_X5_ask (g_ask h)) (cwV 2 C.2.2.2.2.2.1 gL_law_X5_ask rfl rfl rfl hdX5_ask ⟨Nat.le_of_ble_eq_true rfl, Nat.le_of_ble_eq_true rfl⟩) rfl rfl rfl rfl (Nat.le_of_ble_eq_true rfl) hk dL_law_1077 (fun r τ h1 => ?_)
  refine w_aload C 2 dL_law_1080 rfl 1 rfl ?_
  refine w_arg C hX hbl dL_law_1081 dL_law_1082 dL_law_1083 dL_law_1084 dL_law_1085 (hin 1 (by decide) (by decide)) ?_
  refine w_arg C hX hbl dL_law_1086 dL_law_1087 dL_law_1088 dL_law_1089 dL_law_1090 (hin 2 (by decide) (by decide)) ?_
  refine w_callI (As := [.int (xs (x + Int32.ofInt 1).toNatClampNeg), .int (xs (x + Int32.ofInt 2).toNatClampNeg)]) (rest := [.int r]) C 64 (c_X6_ask h1) (cwV 2 C.2.2.2.2.2.1 gL_law_X6_ask rfl rfl rfl hdX6_ask ⟨Nat.le_of_ble_eq_true rfl, Nat.le_of_ble_eq_true rfl⟩) rfl rfl rfl rfl (Nat.le_of_ble_eq_true rfl) hk dL_law_1091 (fun r1 τ1 h2 => ?_)
  obtain ⟨e9, hI⟩ := h2
  subst e9
  exact w_icmp_eq C 1363 dL_law_1094 (by decide) (fun _ => kk τ1 hI) (fun h9 => absurd rfl h9)
set_option maxHeartbeats 4000000 in
set_option maxRecDepth 100000 in
theorem ca_drift (C : CxW E n0 p s m args meth c RL wsL_law cL_law 4 ret) (hX : va_X b L xs s s.heap) (hbl : b < n0) (hin : ∀ j : Int, 1 ≤ j → j ≤ 4 → vp_in (x + Int32.ofInt j) L) (hk : k ≤ room_1.cells ∧ n ≤ room_1.slots) (h : Inv σ) (kk : ∀ τ : Mem, Inv τ → JW E n0 p l e room_1 s m args below meth c Qf 4 k n 1363 (lvL E b x) [] τ) : JW E n0 p l e room_1 s m args below meth c Qf 4 k n 1099 (lvL E b x) [] σ := by
  refine w_aload C 1 dL_law_1099 rfl 2 rfl ?_
  refine w_arg C hX hbl dL_law_1100 dL_law_1101 dL_law_1102 dL_law_1103 dL_law_1104 (hin 1 (by decide) (by decide)) ?_
  refine w_arg C hX hbl dL_law_1105 dL_law_1106 dL_law_1107 dL_law_1108 dL_law_1109 (hin 2 (by decide) (by decide)) ?_
  refine w_arg C hX hbl dL_law_1110 dL_law_1111 dL_law_1112 dL_law_1113 dL_law_1114 (hin 3 (by decide) (by decide)) ?_
  refine w_callI (As := [.int (xs (x + Int32.ofInt 1).toNatClampNeg), .int (xs (x + Int32.ofInt 2).toNatClampNeg), .int (xs (x + Int32.ofInt 3).toNatClampNeg)]) (rest := []) C 0 (c_X5_drift (g_drift h)) (cwV 3 C.2.2.2.2.2.1 gL_law_X5_drift rfl rfl rfl hdX5_drift ⟨Nat.le_of_ble_eq_true rfl, Nat.le_of_ble_eq_true rfl⟩) rfl rfl rfl rfl (Nat.le_of_ble_eq_true rfl) hk dL_law_1115 (fun r τ h1 => ?_)
  refine w_aload C 2 dL_law_1118 rfl 1 rfl ?_
  refine w_arg C hX hbl dL_law_1119 dL_law_1120 dL_law_1121 dL_law_1122 dL_law_1123 (hin 1 (by decide) (by decide)) ?_
  refine w_arg C hX hbl dL_law_1124 dL_law_1125 dL_law_1126 dL_law_1127 dL_law_1128 (hin 2 (by decide) (by decide)) ?_
  refine w_arg C hX hbl dL_law_1129 dL_law_1130 dL_law_1131 dL_law_1132 dL_law_1133 (hin 3 (by decide) (by decide)) ?_
  refine w_callI (As := [.int (xs (x + Int32.ofInt 1).toNatClampNeg), .int (xs (x + Int32.ofInt 2).toNatClampNeg), .int (xs (x + Int32.ofInt 3).toNatClampNeg)]) (rest := [.int r]) C 64 (c_X6_drift h1) (cwV 3 C.2.2.2.2.2.1 gL_law_X6_drift rfl rfl rfl hdX6_drift ⟨Nat.le_of_ble_eq_true rfl, Nat.le_of_ble_eq_true rfl⟩) rfl rfl rfl rfl (Nat.le_of_ble_eq_true rfl) hk dL_law_1134 (fun r1 τ1 h2 => ?_)
  obtain ⟨e9, hI⟩ := h2
  subst e9
  exact w_icmp_eq C 1363 dL_law_1137 (by decide) (fun _ => kk τ1 hI) (fun h9 => absurd rfl h9)
set_option maxHeartbeats 4000000 in
set_option maxRecDepth 100000 in
theorem ca_keep (C : CxW E n0 p s m args meth c RL wsL_law cL_law 4 ret) (hX : va_X b L xs s s.heap) (hbl : b < n0) (hin : ∀ j : Int, 1 ≤ j → j ≤ 4 → vp_in (x + Int32.ofInt j) L) (hk : k ≤ room_1.cells ∧ n ≤ room_1.slots) (h : Inv σ) (kk : ∀ τ : Mem, Inv τ → JW E n0 p l e room_1 s m args below meth c Qf 4 k n 1363 (lvL E b x) [] τ) : JW E n0 p l e room_1 s m args below meth c Qf 4 k n 1142 (lvL E b x) [] σ := by
  refine w_aload C 1 dL_law_1142 rfl 2 rfl ?_
  refine w_arg C hX hbl dL_law_1143 dL_law_1144 dL_law_1145 dL_law_1146 dL_law_1147 (hin 1 (by decide) (by decide)) ?_
  refine w_callI (As := [.int (xs (x + Int32.ofInt 1).toNatClampNeg)]) (rest := []) C 0 (c_X5_keep (g_keep h)) (cwV 1 C.2.2.2.2.2.1 gL_law_X5_keep rfl rfl rfl hdX5_keep ⟨Nat.le_of_ble_eq_true rfl, Nat.le_of_ble_eq_true rfl⟩) rfl rfl rfl rfl (Nat.le_of_ble_eq_true rfl) hk dL_law_1148 (fun r τ h1 => ?_)
  refine w_aload C 2 dL_law_1151 rfl 1 rfl ?_
  refine w_arg C hX hbl dL_law_1152 dL_law_1153 dL_law_1154 dL_law_1155 dL_law_1156 (hin 1 (by decide) (by decide)) ?_
  refine w_callI (As := [.int (xs (x + Int32.ofInt 1).toNatClampNeg)]) (rest := [.int r]) C 64 (c_X6_keep h1) (cwV 1 C.2.2.2.2.2.1 gL_law_X6_keep rfl rfl rfl hdX6_keep ⟨Nat.le_of_ble_eq_true rfl, Nat.le_of_ble_eq_true rfl⟩) rfl rfl rfl rfl (Nat.le_of_ble_eq_true rfl) hk dL_law_1157 (fun r1 τ1 h2 => ?_)
  obtain ⟨e9, hI⟩ := h2
  subst e9
  exact w_icmp_eq C 1363 dL_law_1160 (by decide) (fun _ => kk τ1 hI) (fun h9 => absurd rfl h9)
set_option maxHeartbeats 4000000 in
set_option maxRecDepth 100000 in
theorem ca_back (C : CxW E n0 p s m args meth c RL wsL_law cL_law 4 ret) (hX : va_X b L xs s s.heap) (hbl : b < n0) (hin : ∀ j : Int, 1 ≤ j → j ≤ 4 → vp_in (x + Int32.ofInt j) L) (hk : k ≤ room_1.cells ∧ n ≤ room_1.slots) (h : Inv σ) (kk : ∀ τ : Mem, Inv τ → JW E n0 p l e room_1 s m args below meth c Qf 4 k n 1363 (lvL E b x) [] τ) : JW E n0 p l e room_1 s m args below meth c Qf 4 k n 1165 (lvL E b x) [] σ := by
  refine w_aload C 1 dL_law_1165 rfl 2 rfl ?_
  refine w_arg C hX hbl dL_law_1166 dL_law_1167 dL_law_1168 dL_law_1169 dL_law_1170 (hin 1 (by decide) (by decide)) ?_
  refine w_callI (As := [.int (xs (x + Int32.ofInt 1).toNatClampNeg)]) (rest := []) C 0 (c_X5_back (g_back h)) (cwV 1 C.2.2.2.2.2.1 gL_law_X5_back rfl rfl rfl hdX5_back ⟨Nat.le_of_ble_eq_true rfl, Nat.le_of_ble_eq_true rfl⟩) rfl rfl rfl rfl (Nat.le_of_ble_eq_true rfl) hk dL_law_1171 (fun r τ h1 => ?_)
  refine w_aload C 2 dL_law_1174 rfl 1 rfl ?_
  refine w_arg C hX hbl dL_law_1175 dL_law_1176 dL_law_1177 dL_law_1178 dL_law_1179 (hin 1 (by decide) (by decide)) ?_
  refine w_callI (As := [.int (xs (x + Int32.ofInt 1).toNatClampNeg)]) (rest := [.int r]) C 64 (c_X6_back h1) (cwV 1 C.2.2.2.2.2.1 gL_law_X6_back rfl rfl rfl hdX6_back ⟨Nat.le_of_ble_eq_true rfl, Nat.le_of_ble_eq_true rfl⟩) rfl rfl rfl rfl (Nat.le_of_ble_eq_true rfl) hk dL_law_1180 (fun r1 τ1 h2 => ?_)
  obtain ⟨e9, hI⟩ := h2
  subst e9
  exact w_icmp_eq C 1363 dL_law_1183 (by decide) (fun _ => kk τ1 hI) (fun h9 => absurd rfl h9)
set_option maxHeartbeats 4000000 in
set_option maxRecDepth 100000 in
theorem ca_sheet (C : CxW E n0 p s m args meth c RL wsL_law cL_law 4 ret) (hX : va_X b L xs s s.heap) (hbl : b < n0) (hin : ∀ j : Int, 1 ≤ j → j ≤ 4 → vp_in (x + Int32.ofInt j) L) (hk : k ≤ room_1.cells ∧ n ≤ room_1.slots) (h : Inv σ) (kk : ∀ τ : Mem, Inv τ → JW E n0 p l e room_1 s m args below meth c Qf 4 k n 1363 (lvL E b x) [] τ) : JW E n0 p l e room_1 s m args below meth c Qf 4 k n 1188 (lvL E b x) [] σ := by
  refine w_aload C 1 dL_law_1188 rfl 2 rfl ?_
  refine w_arg C hX hbl dL_law_1189 dL_law_1190 dL_law_1191 dL_law_1192 dL_law_1193 (hin 1 (by decide) (by decide)) ?_
  refine w_arg C hX hbl dL_law_1194 dL_law_1195 dL_law_1196 dL_law_1197 dL_law_1198 (hin 2 (by decide) (by decide)) ?_
  refine w_arg C hX hbl dL_law_1199 dL_law_1200 dL_law_1201 dL_law_1202 dL_law_1203 (hin 3 (by decide) (by decide)) ?_
  refine w_callI (As := [.int (xs (x + Int32.ofInt 1).toNatClampNeg), .int (xs (x + Int32.ofInt 2).toNatClampNeg), .int (xs (x + Int32.ofInt 3).toNatClampNeg)]) (rest := []) C 0 (c_X5_sheet (g_sheet h)) (cwV 3 C.2.2.2.2.2.1 gL_law_X5_sheet rfl rfl rfl hdX5_sheet ⟨Nat.le_of_ble_eq_true rfl, Nat.le_of_ble_eq_true rfl⟩) rfl rfl rfl rfl (Nat.le_of_ble_eq_true rfl) hk dL_law_1204 (fun r τ h1 => ?_)
  refine w_aload C 2 dL_law_1207 rfl 1 rfl ?_
  refine w_arg C hX hbl dL_law_1208 dL_law_1209 dL_law_1210 dL_law_1211 dL_law_1212 (hin 1 (by decide) (by decide)) ?_
  refine w_arg C hX hbl dL_law_1213 dL_law_1214 dL_law_1215 dL_law_1216 dL_law_1217 (hin 2 (by decide) (by decide)) ?_
  refine w_arg C hX hbl dL_law_1218 dL_law_1219 dL_law_1220 dL_law_1221 dL_law_1222 (hin 3 (by decide) (by decide)) ?_
  refine w_callI (As := [.int (xs (x + Int32.ofInt 1).toNatClampNeg), .int (xs (x + Int32.ofInt 2).toNatClampNeg), .int (xs (x + Int32.ofInt 3).toNatClampNeg)]) (rest := [.int r]) C 64 (c_X6_sheet h1) (cwV 3 C.2.2.2.2.2.1 gL_law_X6_sheet rfl rfl rfl hdX6_sheet ⟨Nat.le_of_ble_eq_true rfl, Nat.le_of_ble_eq_true rfl⟩) rfl rfl rfl rfl (Nat.le_of_ble_eq_true rfl) hk dL_law_1223 (fun r1 τ1 h2 => ?_)
  obtain ⟨e9, hI⟩ := h2
  subst e9
  exact w_icmp_eq C 1363 dL_law_1226 (by decide) (fun _ => kk τ1 hI) (fun h9 => absurd rfl h9)
set_option maxHeartbeats 4000000 in
set_option maxRecDepth 100000 in
theorem ca_lay (C : CxW E n0 p s m args meth c RL wsL_law cL_law 4 ret) (hX : va_X b L xs s s.heap) (hbl : b < n0) (hin : ∀ j : Int, 1 ≤ j → j ≤ 4 → vp_in (x + Int32.ofInt j) L) (hk : k ≤ room_1.cells ∧ n ≤ room_1.slots) (h : Inv σ) (kk : ∀ τ : Mem, Inv τ → JW E n0 p l e room_1 s m args below meth c Qf 4 k n 1363 (lvL E b x) [] τ) : JW E n0 p l e room_1 s m args below meth c Qf 4 k n 1231 (lvL E b x) [] σ := by
  refine w_aload C 1 dL_law_1231 rfl 2 rfl ?_
  refine w_arg C hX hbl dL_law_1232 dL_law_1233 dL_law_1234 dL_law_1235 dL_law_1236 (hin 1 (by decide) (by decide)) ?_
  refine w_arg C hX hbl dL_law_1237 dL_law_1238 dL_law_1239 dL_law_1240 dL_law_1241 (hin 2 (by decide) (by decide)) ?_
  refine w_arg C hX hbl dL_law_1242 dL_law_1243 dL_law_1244 dL_law_1245 dL_law_1246 (hin 3 (by decide) (by decide)) ?_
  refine w_callI (As := [.int (xs (x + Int32.ofInt 1).toNatClampNeg), .int (xs (x + Int32.ofInt 2).toNatClampNeg), .int (xs (x + Int32.ofInt 3).toNatClampNeg)]) (rest := []) C 0 (c_X5_lay (g_lay h)) (cwV 3 C.2.2.2.2.2.1 gL_law_X5_lay rfl rfl rfl hdX5_lay ⟨Nat.le_of_ble_eq_true rfl, Nat.le_of_ble_eq_true rfl⟩) rfl rfl rfl rfl (Nat.le_of_ble_eq_true rfl) hk dL_law_1247 (fun r τ h1 => ?_)
  refine w_aload C 2 dL_law_1250 rfl 1 rfl ?_
  refine w_arg C hX hbl dL_law_1251 dL_law_1252 dL_law_1253 dL_law_1254 dL_law_1255 (hin 1 (by decide) (by decide)) ?_
  refine w_arg C hX hbl dL_law_1256 dL_law_1257 dL_law_1258 dL_law_1259 dL_law_1260 (hin 2 (by decide) (by decide)) ?_
  refine w_arg C hX hbl dL_law_1261 dL_law_1262 dL_law_1263 dL_law_1264 dL_law_1265 (hin 3 (by decide) (by decide)) ?_
  refine w_callI (As := [.int (xs (x + Int32.ofInt 1).toNatClampNeg), .int (xs (x + Int32.ofInt 2).toNatClampNeg), .int (xs (x + Int32.ofInt 3).toNatClampNeg)]) (rest := [.int r]) C 64 (c_X6_lay h1) (cwV 3 C.2.2.2.2.2.1 gL_law_X6_lay rfl rfl rfl hdX6_lay ⟨Nat.le_of_ble_eq_true rfl, Nat.le_of_ble_eq_true rfl⟩) rfl rfl rfl rfl (Nat.le_of_ble_eq_true rfl) hk dL_law_1266 (fun r1 τ1 h2 => ?_)
  obtain ⟨e9, hI⟩ := h2
  subst e9
  exact w_icmp_eq C 1363 dL_law_1269 (by decide) (fun _ => kk τ1 hI) (fun h9 => absurd rfl h9)
set_option maxHeartbeats 4000000 in
set_option maxRecDepth 100000 in
theorem ca_read (C : CxW E n0 p s m args meth c RL wsL_law cL_law 4 ret) (hX : va_X b L xs s s.heap) (hbl : b < n0) (hin : ∀ j : Int, 1 ≤ j → j ≤ 4 → vp_in (x + Int32.ofInt j) L) (hk : k ≤ room_1.cells ∧ n ≤ room_1.slots) (h : Inv σ) (kk : ∀ τ : Mem, Inv τ → JW E n0 p l e room_1 s m args below meth c Qf 4 k n 1363 (lvL E b x) [] τ) : JW E n0 p l e room_1 s m args below meth c Qf 4 k n 1274 (lvL E b x) [] σ := by
  refine w_aload C 1 dL_law_1274 rfl 2 rfl ?_
  refine w_arg C hX hbl dL_law_1275 dL_law_1276 dL_law_1277 dL_law_1278 dL_law_1279 (hin 1 (by decide) (by decide)) ?_
  refine w_arg C hX hbl dL_law_1280 dL_law_1281 dL_law_1282 dL_law_1283 dL_law_1284 (hin 2 (by decide) (by decide)) ?_
  refine w_arg C hX hbl dL_law_1285 dL_law_1286 dL_law_1287 dL_law_1288 dL_law_1289 (hin 3 (by decide) (by decide)) ?_
  refine w_arg C hX hbl dL_law_1290 dL_law_1291 dL_law_1292 dL_law_1293 dL_law_1294 (hin 4 (by decide) (by decide)) ?_
  refine w_callI (As := [.int (xs (x + Int32.ofInt 1).toNatClampNeg), .int (xs (x + Int32.ofInt 2).toNatClampNeg), .int (xs (x + Int32.ofInt 3).toNatClampNeg), .int (xs (x + Int32.ofInt 4).toNatClampNeg)]) (rest := []) C 0 (c_X5_read (g_read h)) (cwV 4 C.2.2.2.2.2.1 gL_law_X5_read rfl rfl rfl hdX5_read ⟨Nat.le_of_ble_eq_true rfl, Nat.le_of_ble_eq_true rfl⟩) rfl rfl rfl rfl (Nat.le_of_ble_eq_true rfl) hk dL_law_1295 (fun r τ h1 => ?_)
  refine w_aload C 2 dL_law_1298 rfl 1 rfl ?_
  refine w_arg C hX hbl dL_law_1299 dL_law_1300 dL_law_1301 dL_law_1302 dL_law_1303 (hin 1 (by decide) (by decide)) ?_
  refine w_arg C hX hbl dL_law_1304 dL_law_1305 dL_law_1306 dL_law_1307 dL_law_1308 (hin 2 (by decide) (by decide)) ?_
  refine w_arg C hX hbl dL_law_1309 dL_law_1310 dL_law_1311 dL_law_1312 dL_law_1313 (hin 3 (by decide) (by decide)) ?_
  refine w_arg C hX hbl dL_law_1314 dL_law_1315 dL_law_1316 dL_law_1317 dL_law_1318 (hin 4 (by decide) (by decide)) ?_
  refine w_callI (As := [.int (xs (x + Int32.ofInt 1).toNatClampNeg), .int (xs (x + Int32.ofInt 2).toNatClampNeg), .int (xs (x + Int32.ofInt 3).toNatClampNeg), .int (xs (x + Int32.ofInt 4).toNatClampNeg)]) (rest := [.int r]) C 64 (c_X6_read h1) (cwV 4 C.2.2.2.2.2.1 gL_law_X6_read rfl rfl rfl hdX6_read ⟨Nat.le_of_ble_eq_true rfl, Nat.le_of_ble_eq_true rfl⟩) rfl rfl rfl rfl (Nat.le_of_ble_eq_true rfl) hk dL_law_1319 (fun r1 τ1 h2 => ?_)
  obtain ⟨e9, hI⟩ := h2
  subst e9
  exact w_icmp_eq C 1363 dL_law_1322 (by decide) (fun _ => kk τ1 hI) (fun h9 => absurd rfl h9)
set_option maxHeartbeats 4000000 in
set_option maxRecDepth 100000 in
theorem ca_torn (C : CxW E n0 p s m args meth c RL wsL_law cL_law 4 ret) (hX : va_X b L xs s s.heap) (hbl : b < n0) (hin : ∀ j : Int, 1 ≤ j → j ≤ 4 → vp_in (x + Int32.ofInt j) L) (hk : k ≤ room_1.cells ∧ n ≤ room_1.slots) (h : Inv σ) (kk : ∀ τ : Mem, Inv τ → JW E n0 p l e room_1 s m args below meth c Qf 4 k n 1363 (lvL E b x) [] τ) : JW E n0 p l e room_1 s m args below meth c Qf 4 k n 1327 (lvL E b x) [] σ := by
  refine w_aload C 1 dL_law_1327 rfl 2 rfl ?_
  refine w_callI (As := []) (rest := []) C 0 (c_X5_torn (g_torn h)) (cwV 0 C.2.2.2.2.2.1 gL_law_X5_torn rfl rfl rfl hdX5_torn ⟨Nat.le_of_ble_eq_true rfl, Nat.le_of_ble_eq_true rfl⟩) rfl rfl rfl rfl (Nat.le_of_ble_eq_true rfl) hk dL_law_1328 (fun r τ h1 => ?_)
  refine w_aload C 2 dL_law_1331 rfl 1 rfl ?_
  refine w_callI (As := []) (rest := [.int r]) C 64 (c_X6_torn h1) (cwV 0 C.2.2.2.2.2.1 gL_law_X6_torn rfl rfl rfl hdX6_torn ⟨Nat.le_of_ble_eq_true rfl, Nat.le_of_ble_eq_true rfl⟩) rfl rfl rfl rfl (Nat.le_of_ble_eq_true rfl) hk dL_law_1332 (fun r1 τ1 h2 => ?_)
  obtain ⟨e9, hI⟩ := h2
  subst e9
  exact w_icmp_eq C 1363 dL_law_1335 (by decide) (fun _ => kk τ1 hI) (fun h9 => absurd rfl h9)
set_option maxHeartbeats 4000000 in
set_option maxRecDepth 100000 in
theorem ca_count (C : CxW E n0 p s m args meth c RL wsL_law cL_law 4 ret) (hX : va_X b L xs s s.heap) (hbl : b < n0) (hin : ∀ j : Int, 1 ≤ j → j ≤ 4 → vp_in (x + Int32.ofInt j) L) (hk : k ≤ room_1.cells ∧ n ≤ room_1.slots) (h : Inv σ) (kk : ∀ τ : Mem, Inv τ → JW E n0 p l e room_1 s m args below meth c Qf 4 k n 1363 (lvL E b x) [] τ) : JW E n0 p l e room_1 s m args below meth c Qf 4 k n 1340 (lvL E b x) [] σ := by
  refine w_aload C 1 dL_law_1340 rfl 2 rfl ?_
  refine w_arg C hX hbl dL_law_1341 dL_law_1342 dL_law_1343 dL_law_1344 dL_law_1345 (hin 1 (by decide) (by decide)) ?_
  refine w_callI (As := [.int (xs (x + Int32.ofInt 1).toNatClampNeg)]) (rest := []) C 0 (c_X5_count (g_count h)) (cwV 1 C.2.2.2.2.2.1 gL_law_X5_count rfl rfl rfl hdX5_count ⟨Nat.le_of_ble_eq_true rfl, Nat.le_of_ble_eq_true rfl⟩) rfl rfl rfl rfl (Nat.le_of_ble_eq_true rfl) hk dL_law_1346 (fun r τ h1 => ?_)
  refine w_aload C 2 dL_law_1349 rfl 1 rfl ?_
  refine w_arg C hX hbl dL_law_1350 dL_law_1351 dL_law_1352 dL_law_1353 dL_law_1354 (hin 1 (by decide) (by decide)) ?_
  refine w_callI (As := [.int (xs (x + Int32.ofInt 1).toNatClampNeg)]) (rest := [.int r]) C 64 (c_X6_count h1) (cwV 1 C.2.2.2.2.2.1 gL_law_X6_count rfl rfl rfl hdX6_count ⟨Nat.le_of_ble_eq_true rfl, Nat.le_of_ble_eq_true rfl⟩) rfl rfl rfl rfl (Nat.le_of_ble_eq_true rfl) hk dL_law_1355 (fun r1 τ1 h2 => ?_)
  obtain ⟨e9, hI⟩ := h2
  subst e9
  exact w_icmp_eq C 1363 dL_law_1358 (by decide) (fun _ => kk τ1 hI) (fun h9 => absurd rfl h9)
end LAWC2
