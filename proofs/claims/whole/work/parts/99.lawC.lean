/-! ===== the script's calls (gen_law.py) ===== -/
section GC
variable {d i L : Nat} {M : Mem} {Q : Option PV → Mem → Prop}
theorem g_back (hd : 60 ≤ d) (I : InvE M) (S : Scp L M) (hi : i + 6 ≤ L) (hL : L ≤ 3072) (nx : ∀ M', InvE M' → Scp L M' → WP (d + 1) 0 1496 [some (vr 1), some (vr 2), some (vr 113), some (vi (nI i))] [] M' Q) : WP (d + 1) 0 1066 [some (vr 1), some (vr 2), some (vr 113), some (vi (nI i))] [] M Q := by
  obtain ⟨c2, c113, hX, _, _⟩ := I.ks
  have s1 := S.1
  have s2 := S.2
  obtain ⟨h, j, r, E, eM, I⟩ := I
  simp only [k0_1066, k0_1067, k0_1070, k0_1071, k0_1074, k0_1077, k0_1078, psh_s, psh_n, z_n, z_i, z_r, z_l, Nat.reduceAdd, Nat.reduceLeDiff, s1, s2, c2]
  rw [eM]
  refine WP.mono (WP.sc (WP.deep (q_back I) hd) (by rw [← eM]; exact s1) (by rw [← eM]; omega)) ?_
  rw [← eM]
  intro v1 M1 ⟨B, f1⟩
  obtain ⟨a, rfl⟩ : ∃ a, v1 = some (vi a) := WP.val B (fun _ _ h => h.2.1)
  have S1 := S.go (by omega) f1
  have c113' := (f1.2.1 113 (by omega)).trans c113
  have t1 := S1.1
  have t2 := S1.2
  have t3 := f1.1
  simp only [k0_1066, k0_1067, k0_1070, k0_1071, k0_1074, k0_1077, k0_1078, psh_s, psh_n, z_n, z_i, z_r, z_l, Nat.reduceAdd, Nat.reduceLeDiff, t1, t2, t3, c113']
  refine WP.mono (WP.sc (WP.deep B hd) t1 (Nat.le_trans (by omega) f1.2.2.2)) ?_
  intro v2 M2 ⟨⟨e2, _, I2⟩, f2⟩
  subst e2
  simp only [k0_1066, k0_1067, k0_1070, k0_1071, k0_1074, k0_1077, k0_1078, psh_s, psh_n, eq_self, if_true]
  exact nx M2 I2 (S1.go (Nat.le_trans (by omega) f1.2.2.2) f2)
theorem g_undo (hd : 60 ≤ d) (I : InvE M) (S : Scp L M) (hi : i + 6 ≤ L) (hL : L ≤ 3072) (nx : ∀ M', InvE M' → Scp L M' → WP (d + 1) 0 1496 [some (vr 1), some (vr 2), some (vr 113), some (vi (nI i))] [] M' Q) : WP (d + 1) 0 1079 [some (vr 1), some (vr 2), some (vr 113), some (vi (nI i))] [] M Q := by
  obtain ⟨c2, c113, hX, _, _⟩ := I.ks
  have s1 := S.1
  have s2 := S.2
  obtain ⟨h, j, r, E, eM, I⟩ := I
  simp only [k0_1079, k0_1080, k0_1083, k0_1084, k0_1087, k0_1090, k0_1091, psh_s, psh_n, z_n, z_i, z_r, z_l, Nat.reduceAdd, Nat.reduceLeDiff, s1, s2, c2]
  rw [eM]
  refine WP.mono (WP.sc (WP.deep (q_undo I) hd) (by rw [← eM]; exact s1) (by rw [← eM]; omega)) ?_
  rw [← eM]
  intro v1 M1 ⟨B, f1⟩
  obtain ⟨a, rfl⟩ : ∃ a, v1 = some (vi a) := WP.val B (fun _ _ h => h.2.1)
  have S1 := S.go (by omega) f1
  have c113' := (f1.2.1 113 (by omega)).trans c113
  have t1 := S1.1
  have t2 := S1.2
  have t3 := f1.1
  simp only [k0_1079, k0_1080, k0_1083, k0_1084, k0_1087, k0_1090, k0_1091, psh_s, psh_n, z_n, z_i, z_r, z_l, Nat.reduceAdd, Nat.reduceLeDiff, t1, t2, t3, c113']
  refine WP.mono (WP.sc (WP.deep B hd) t1 (Nat.le_trans (by omega) f1.2.2.2)) ?_
  intro v2 M2 ⟨⟨e2, _, I2⟩, f2⟩
  subst e2
  simp only [k0_1079, k0_1080, k0_1083, k0_1084, k0_1087, k0_1090, k0_1091, psh_s, psh_n, eq_self, if_true]
  exact nx M2 I2 (S1.go (Nat.le_trans (by omega) f1.2.2.2) f2)
theorem g_redo (hd : 60 ≤ d) (I : InvE M) (S : Scp L M) (hi : i + 6 ≤ L) (hL : L ≤ 3072) (nx : ∀ M', InvE M' → Scp L M' → WP (d + 1) 0 1496 [some (vr 1), some (vr 2), some (vr 113), some (vi (nI i))] [] M' Q) : WP (d + 1) 0 1092 [some (vr 1), some (vr 2), some (vr 113), some (vi (nI i))] [] M Q := by
  obtain ⟨c2, c113, hX, _, _⟩ := I.ks
  have s1 := S.1
  have s2 := S.2
  obtain ⟨h, j, r, E, eM, I⟩ := I
  simp only [k0_1092, k0_1093, k0_1096, k0_1097, k0_1100, k0_1103, k0_1104, psh_s, psh_n, z_n, z_i, z_r, z_l, Nat.reduceAdd, Nat.reduceLeDiff, s1, s2, c2]
  rw [eM]
  refine WP.mono (WP.sc (WP.deep (q_redo I) hd) (by rw [← eM]; exact s1) (by rw [← eM]; omega)) ?_
  rw [← eM]
  intro v1 M1 ⟨B, f1⟩
  obtain ⟨a, rfl⟩ : ∃ a, v1 = some (vi a) := WP.val B (fun _ _ h => h.2.1)
  have S1 := S.go (by omega) f1
  have c113' := (f1.2.1 113 (by omega)).trans c113
  have t1 := S1.1
  have t2 := S1.2
  have t3 := f1.1
  simp only [k0_1092, k0_1093, k0_1096, k0_1097, k0_1100, k0_1103, k0_1104, psh_s, psh_n, z_n, z_i, z_r, z_l, Nat.reduceAdd, Nat.reduceLeDiff, t1, t2, t3, c113']
  refine WP.mono (WP.sc (WP.deep B hd) t1 (Nat.le_trans (by omega) f1.2.2.2)) ?_
  intro v2 M2 ⟨⟨e2, _, I2⟩, f2⟩
  subst e2
  simp only [k0_1092, k0_1093, k0_1096, k0_1097, k0_1100, k0_1103, k0_1104, psh_s, psh_n, eq_self, if_true]
  exact nx M2 I2 (S1.go (Nat.le_trans (by omega) f1.2.2.2) f2)
theorem g_body (hd : 60 ≤ d) (I : InvE M) (S : Scp L M) (hi : i + 6 ≤ L) (hL : L ≤ 3072) (nx : ∀ M', InvE M' → Scp L M' → WP (d + 1) 0 1496 [some (vr 1), some (vr 2), some (vr 113), some (vi (nI i))] [] M' Q) : WP (d + 1) 0 1105 [some (vr 1), some (vr 2), some (vr 113), some (vi (nI i))] [] M Q := by
  obtain ⟨c2, c113, hX, _, _⟩ := I.ks
  have s1 := S.1
  have s2 := S.2
  have b1 : inb (nI i + 1) L = True := nIc (c := 1) hi hL (by decide)
  obtain ⟨h, j, r, E, eM, I⟩ := I
  simp only [k0_1105, k0_1106, k0_1107, k0_1108, k0_1109, k0_1110, k0_1111, k0_1114, k0_1115, k0_1116, k0_1117, k0_1118, k0_1119, k0_1120, k0_1123, k0_1126, k0_1127, psh_s, psh_n, z_n, z_i, z_r, z_l, Nat.reduceAdd, Nat.reduceLeDiff, s1, s2, c2, b1]
  rw [eM]
  refine WP.mono (WP.sc (WP.deep (q_body I) hd) (by rw [← eM]; exact s1) (by rw [← eM]; omega)) ?_
  rw [← eM]
  intro v1 M1 ⟨B, f1⟩
  obtain ⟨a, rfl⟩ : ∃ a, v1 = some (vi a) := WP.val B (fun _ _ h => h.2.1)
  have S1 := S.go (by omega) f1
  have c113' := (f1.2.1 113 (by omega)).trans c113
  have t1 := S1.1
  have t2 := S1.2
  have t3 := f1.1
  simp only [k0_1105, k0_1106, k0_1107, k0_1108, k0_1109, k0_1110, k0_1111, k0_1114, k0_1115, k0_1116, k0_1117, k0_1118, k0_1119, k0_1120, k0_1123, k0_1126, k0_1127, psh_s, psh_n, z_n, z_i, z_r, z_l, Nat.reduceAdd, Nat.reduceLeDiff, t1, t2, t3, c113', b1]
  refine WP.mono (WP.sc (WP.deep B hd) t1 (Nat.le_trans (by omega) f1.2.2.2)) ?_
  intro v2 M2 ⟨⟨e2, _, I2⟩, f2⟩
  subst e2
  simp only [k0_1105, k0_1106, k0_1107, k0_1108, k0_1109, k0_1110, k0_1111, k0_1114, k0_1115, k0_1116, k0_1117, k0_1118, k0_1119, k0_1120, k0_1123, k0_1126, k0_1127, psh_s, psh_n, eq_self, if_true]
  exact nx M2 I2 (S1.go (Nat.le_trans (by omega) f1.2.2.2) f2)
theorem g_act (hd : 60 ≤ d) (I : InvE M) (S : Scp L M) (hi : i + 6 ≤ L) (hL : L ≤ 3072) (nx : ∀ M', InvE M' → Scp L M' → WP (d + 1) 0 1496 [some (vr 1), some (vr 2), some (vr 113), some (vi (nI i))] [] M' Q) : WP (d + 1) 0 1128 [some (vr 1), some (vr 2), some (vr 113), some (vi (nI i))] [] M Q := by
  obtain ⟨c2, c113, hX, _, _⟩ := I.ks
  have s1 := S.1
  have s2 := S.2
  have b1 : inb (nI i + 1) L = True := nIc (c := 1) hi hL (by decide)
  have b2 : inb (nI i + 2) L = True := nIc (c := 2) hi hL (by decide)
  have b3 : inb (nI i + 3) L = True := nIc (c := 3) hi hL (by decide)
  obtain ⟨h, j, r, E, eM, I⟩ := I
  simp only [k0_1128, k0_1129, k0_1130, k0_1131, k0_1132, k0_1133, k0_1134, k0_1135, k0_1136, k0_1137, k0_1138, k0_1139, k0_1140, k0_1141, k0_1142, k0_1143, k0_1144, k0_1147, k0_1148, k0_1149, k0_1150, k0_1151, k0_1152, k0_1153, k0_1154, k0_1155, k0_1156, k0_1157, k0_1158, k0_1159, k0_1160, k0_1161, k0_1162, k0_1163, k0_1166, k0_1169, k0_1170, psh_s, psh_n, z_n, z_i, z_r, z_l, Nat.reduceAdd, Nat.reduceLeDiff, s1, s2, c2, b1, b2, b3]
  rw [eM]
  refine WP.mono (WP.sc (WP.deep (q_act I) hd) (by rw [← eM]; exact s1) (by rw [← eM]; omega)) ?_
  rw [← eM]
  intro v1 M1 ⟨B, f1⟩
  obtain ⟨a, rfl⟩ : ∃ a, v1 = some (vi a) := WP.val B (fun _ _ h => h.2.1)
  have S1 := S.go (by omega) f1
  have c113' := (f1.2.1 113 (by omega)).trans c113
  have t1 := S1.1
  have t2 := S1.2
  have t3 := f1.1
  simp only [k0_1128, k0_1129, k0_1130, k0_1131, k0_1132, k0_1133, k0_1134, k0_1135, k0_1136, k0_1137, k0_1138, k0_1139, k0_1140, k0_1141, k0_1142, k0_1143, k0_1144, k0_1147, k0_1148, k0_1149, k0_1150, k0_1151, k0_1152, k0_1153, k0_1154, k0_1155, k0_1156, k0_1157, k0_1158, k0_1159, k0_1160, k0_1161, k0_1162, k0_1163, k0_1166, k0_1169, k0_1170, psh_s, psh_n, z_n, z_i, z_r, z_l, Nat.reduceAdd, Nat.reduceLeDiff, t1, t2, t3, c113', b1, b2, b3]
  refine WP.mono (WP.sc (WP.deep B hd) t1 (Nat.le_trans (by omega) f1.2.2.2)) ?_
  intro v2 M2 ⟨⟨e2, _, I2⟩, f2⟩
  subst e2
  simp only [k0_1128, k0_1129, k0_1130, k0_1131, k0_1132, k0_1133, k0_1134, k0_1135, k0_1136, k0_1137, k0_1138, k0_1139, k0_1140, k0_1141, k0_1142, k0_1143, k0_1144, k0_1147, k0_1148, k0_1149, k0_1150, k0_1151, k0_1152, k0_1153, k0_1154, k0_1155, k0_1156, k0_1157, k0_1158, k0_1159, k0_1160, k0_1161, k0_1162, k0_1163, k0_1166, k0_1169, k0_1170, psh_s, psh_n, eq_self, if_true]
  exact nx M2 I2 (S1.go (Nat.le_trans (by omega) f1.2.2.2) f2)
theorem g_trace (hd : 60 ≤ d) (I : InvE M) (S : Scp L M) (hi : i + 6 ≤ L) (hL : L ≤ 3072) (nx : ∀ M', InvE M' → Scp L M' → WP (d + 1) 0 1496 [some (vr 1), some (vr 2), some (vr 113), some (vi (nI i))] [] M' Q) : WP (d + 1) 0 1171 [some (vr 1), some (vr 2), some (vr 113), some (vi (nI i))] [] M Q := by
  obtain ⟨c2, c113, hX, _, _⟩ := I.ks
  have s1 := S.1
  have s2 := S.2
  have b1 : inb (nI i + 1) L = True := nIc (c := 1) hi hL (by decide)
  obtain ⟨h, j, r, E, eM, I⟩ := I
  simp only [k0_1171, k0_1172, k0_1173, k0_1174, k0_1175, k0_1176, k0_1177, k0_1180, k0_1181, k0_1182, k0_1183, k0_1184, k0_1185, k0_1186, k0_1189, k0_1192, k0_1193, psh_s, psh_n, z_n, z_i, z_r, z_l, Nat.reduceAdd, Nat.reduceLeDiff, s1, s2, c2, b1]
  rw [eM]
  refine WP.mono (WP.sc (WP.deep (q_trace I) hd) (by rw [← eM]; exact s1) (by rw [← eM]; omega)) ?_
  rw [← eM]
  intro v1 M1 ⟨B, f1⟩
  obtain ⟨a, rfl⟩ : ∃ a, v1 = some (vi a) := WP.val B (fun _ _ h => h.2.1)
  have S1 := S.go (by omega) f1
  have c113' := (f1.2.1 113 (by omega)).trans c113
  have t1 := S1.1
  have t2 := S1.2
  have t3 := f1.1
  simp only [k0_1171, k0_1172, k0_1173, k0_1174, k0_1175, k0_1176, k0_1177, k0_1180, k0_1181, k0_1182, k0_1183, k0_1184, k0_1185, k0_1186, k0_1189, k0_1192, k0_1193, psh_s, psh_n, z_n, z_i, z_r, z_l, Nat.reduceAdd, Nat.reduceLeDiff, t1, t2, t3, c113', b1]
  refine WP.mono (WP.sc (WP.deep B hd) t1 (Nat.le_trans (by omega) f1.2.2.2)) ?_
  intro v2 M2 ⟨⟨e2, _, I2⟩, f2⟩
  subst e2
  simp only [k0_1171, k0_1172, k0_1173, k0_1174, k0_1175, k0_1176, k0_1177, k0_1180, k0_1181, k0_1182, k0_1183, k0_1184, k0_1185, k0_1186, k0_1189, k0_1192, k0_1193, psh_s, psh_n, eq_self, if_true]
  exact nx M2 I2 (S1.go (Nat.le_trans (by omega) f1.2.2.2) f2)
theorem g_keep (hd : 60 ≤ d) (I : InvE M) (S : Scp L M) (hi : i + 6 ≤ L) (hL : L ≤ 3072) (nx : ∀ M', InvE M' → Scp L M' → WP (d + 1) 0 1496 [some (vr 1), some (vr 2), some (vr 113), some (vi (nI i))] [] M' Q) : WP (d + 1) 0 1194 [some (vr 1), some (vr 2), some (vr 113), some (vi (nI i))] [] M Q := by
  obtain ⟨c2, c113, hX, _, _⟩ := I.ks
  have s1 := S.1
  have s2 := S.2
  have b1 : inb (nI i + 1) L = True := nIc (c := 1) hi hL (by decide)
  have b2 : inb (nI i + 2) L = True := nIc (c := 2) hi hL (by decide)
  obtain ⟨h, j, r, E, eM, I⟩ := I
  simp only [k0_1194, k0_1195, k0_1196, k0_1197, k0_1198, k0_1199, k0_1200, k0_1201, k0_1202, k0_1203, k0_1204, k0_1205, k0_1208, k0_1209, k0_1210, k0_1211, k0_1212, k0_1213, k0_1214, k0_1215, k0_1216, k0_1217, k0_1218, k0_1219, k0_1222, k0_1225, k0_1226, psh_s, psh_n, z_n, z_i, z_r, z_l, Nat.reduceAdd, Nat.reduceLeDiff, s1, s2, c2, b1, b2]
  rw [eM]
  refine WP.mono (WP.sc (WP.deep (q_keep I) hd) (by rw [← eM]; exact s1) (by rw [← eM]; omega)) ?_
  rw [← eM]
  intro v1 M1 ⟨B, f1⟩
  obtain ⟨a, rfl⟩ : ∃ a, v1 = some (vi a) := WP.val B (fun _ _ h => h.2.1)
  have S1 := S.go (by omega) f1
  have c113' := (f1.2.1 113 (by omega)).trans c113
  have t1 := S1.1
  have t2 := S1.2
  have t3 := f1.1
  simp only [k0_1194, k0_1195, k0_1196, k0_1197, k0_1198, k0_1199, k0_1200, k0_1201, k0_1202, k0_1203, k0_1204, k0_1205, k0_1208, k0_1209, k0_1210, k0_1211, k0_1212, k0_1213, k0_1214, k0_1215, k0_1216, k0_1217, k0_1218, k0_1219, k0_1222, k0_1225, k0_1226, psh_s, psh_n, z_n, z_i, z_r, z_l, Nat.reduceAdd, Nat.reduceLeDiff, t1, t2, t3, c113', b1, b2]
  refine WP.mono (WP.sc (WP.deep B hd) t1 (Nat.le_trans (by omega) f1.2.2.2)) ?_
  intro v2 M2 ⟨⟨e2, _, I2⟩, f2⟩
  subst e2
  simp only [k0_1194, k0_1195, k0_1196, k0_1197, k0_1198, k0_1199, k0_1200, k0_1201, k0_1202, k0_1203, k0_1204, k0_1205, k0_1208, k0_1209, k0_1210, k0_1211, k0_1212, k0_1213, k0_1214, k0_1215, k0_1216, k0_1217, k0_1218, k0_1219, k0_1222, k0_1225, k0_1226, psh_s, psh_n, eq_self, if_true]
  exact nx M2 I2 (S1.go (Nat.le_trans (by omega) f1.2.2.2) f2)
theorem g_row (hd : 60 ≤ d) (I : InvE M) (S : Scp L M) (hi : i + 6 ≤ L) (hL : L ≤ 3072) (nx : ∀ M', InvE M' → Scp L M' → WP (d + 1) 0 1496 [some (vr 1), some (vr 2), some (vr 113), some (vi (nI i))] [] M' Q) : WP (d + 1) 0 1227 [some (vr 1), some (vr 2), some (vr 113), some (vi (nI i))] [] M Q := by
  obtain ⟨c2, c113, hX, _, _⟩ := I.ks
  have s1 := S.1
  have s2 := S.2
  have b1 : inb (nI i + 1) L = True := nIc (c := 1) hi hL (by decide)
  have b2 : inb (nI i + 2) L = True := nIc (c := 2) hi hL (by decide)
  have b3 : inb (nI i + 3) L = True := nIc (c := 3) hi hL (by decide)
  obtain ⟨h, j, r, E, eM, I⟩ := I
  simp only [k0_1227, k0_1228, k0_1229, k0_1230, k0_1231, k0_1232, k0_1233, k0_1234, k0_1235, k0_1236, k0_1237, k0_1238, k0_1239, k0_1240, k0_1241, k0_1242, k0_1243, k0_1246, k0_1247, k0_1248, k0_1249, k0_1250, k0_1251, k0_1252, k0_1253, k0_1254, k0_1255, k0_1256, k0_1257, k0_1258, k0_1259, k0_1260, k0_1261, k0_1262, k0_1265, k0_1268, k0_1269, psh_s, psh_n, z_n, z_i, z_r, z_l, Nat.reduceAdd, Nat.reduceLeDiff, s1, s2, c2, b1, b2, b3]
  rw [eM]
  refine WP.mono (WP.sc (WP.deep (q_row I) hd) (by rw [← eM]; exact s1) (by rw [← eM]; omega)) ?_
  rw [← eM]
  intro v1 M1 ⟨B, f1⟩
  obtain ⟨a, rfl⟩ : ∃ a, v1 = some (vi a) := WP.val B (fun _ _ h => h.2.1)
  have S1 := S.go (by omega) f1
  have c113' := (f1.2.1 113 (by omega)).trans c113
  have t1 := S1.1
  have t2 := S1.2
  have t3 := f1.1
  simp only [k0_1227, k0_1228, k0_1229, k0_1230, k0_1231, k0_1232, k0_1233, k0_1234, k0_1235, k0_1236, k0_1237, k0_1238, k0_1239, k0_1240, k0_1241, k0_1242, k0_1243, k0_1246, k0_1247, k0_1248, k0_1249, k0_1250, k0_1251, k0_1252, k0_1253, k0_1254, k0_1255, k0_1256, k0_1257, k0_1258, k0_1259, k0_1260, k0_1261, k0_1262, k0_1265, k0_1268, k0_1269, psh_s, psh_n, z_n, z_i, z_r, z_l, Nat.reduceAdd, Nat.reduceLeDiff, t1, t2, t3, c113', b1, b2, b3]
  refine WP.mono (WP.sc (WP.deep B hd) t1 (Nat.le_trans (by omega) f1.2.2.2)) ?_
  intro v2 M2 ⟨⟨e2, _, I2⟩, f2⟩
  subst e2
  simp only [k0_1227, k0_1228, k0_1229, k0_1230, k0_1231, k0_1232, k0_1233, k0_1234, k0_1235, k0_1236, k0_1237, k0_1238, k0_1239, k0_1240, k0_1241, k0_1242, k0_1243, k0_1246, k0_1247, k0_1248, k0_1249, k0_1250, k0_1251, k0_1252, k0_1253, k0_1254, k0_1255, k0_1256, k0_1257, k0_1258, k0_1259, k0_1260, k0_1261, k0_1262, k0_1265, k0_1268, k0_1269, psh_s, psh_n, eq_self, if_true]
  exact nx M2 I2 (S1.go (Nat.le_trans (by omega) f1.2.2.2) f2)
theorem g_put (hd : 60 ≤ d) (I : InvE M) (S : Scp L M) (hi : i + 6 ≤ L) (hL : L ≤ 3072) (nx : ∀ M', InvE M' → Scp L M' → WP (d + 1) 0 1496 [some (vr 1), some (vr 2), some (vr 113), some (vi (nI i))] [] M' Q) : WP (d + 1) 0 1270 [some (vr 1), some (vr 2), some (vr 113), some (vi (nI i))] [] M Q := by
  obtain ⟨c2, c113, hX, _, _⟩ := I.ks
  have s1 := S.1
  have s2 := S.2
  have b1 : inb (nI i + 1) L = True := nIc (c := 1) hi hL (by decide)
  have b2 : inb (nI i + 2) L = True := nIc (c := 2) hi hL (by decide)
  have b3 : inb (nI i + 3) L = True := nIc (c := 3) hi hL (by decide)
  have b4 : inb (nI i + 4) L = True := nIc (c := 4) hi hL (by decide)
  obtain ⟨h, j, r, E, eM, I⟩ := I
  simp only [k0_1270, k0_1271, k0_1272, k0_1273, k0_1274, k0_1275, k0_1276, k0_1277, k0_1278, k0_1279, k0_1280, k0_1281, k0_1282, k0_1283, k0_1284, k0_1285, k0_1286, k0_1287, k0_1289, k0_1290, k0_1291, k0_1292, k0_1293, k0_1294, k0_1295, k0_1296, k0_1299, k0_1300, k0_1301, k0_1304, k0_1305, k0_1306, k0_1307, k0_1308, k0_1309, k0_1310, k0_1311, k0_1312, k0_1313, k0_1314, k0_1315, k0_1316, k0_1317, k0_1318, k0_1319, k0_1320, k0_1321, k0_1323, k0_1324, k0_1325, k0_1326, k0_1327, k0_1328, k0_1329, k0_1330, k0_1333, k0_1334, k0_1335, k0_1338, k0_1341, k0_1342, psh_s, psh_n, z_n, z_i, z_r, z_l, Nat.reduceAdd, Nat.reduceLeDiff, s1, s2, c2, b1, b2, b3, b4]
  rw [eM]
  refine WP.mono (WP.sc (WP.deep (q_put I) hd) (by rw [← eM]; exact s1) (by rw [← eM]; omega)) ?_
  rw [← eM]
  intro v1 M1 ⟨B, f1⟩
  obtain ⟨a, rfl⟩ : ∃ a, v1 = some (vi a) := WP.val B (fun _ _ h => h.2.1)
  have S1 := S.go (by omega) f1
  have c113' := (f1.2.1 113 (by omega)).trans c113
  have t1 := S1.1
  have t2 := S1.2
  have t3 := f1.1
  simp only [k0_1270, k0_1271, k0_1272, k0_1273, k0_1274, k0_1275, k0_1276, k0_1277, k0_1278, k0_1279, k0_1280, k0_1281, k0_1282, k0_1283, k0_1284, k0_1285, k0_1286, k0_1287, k0_1289, k0_1290, k0_1291, k0_1292, k0_1293, k0_1294, k0_1295, k0_1296, k0_1299, k0_1300, k0_1301, k0_1304, k0_1305, k0_1306, k0_1307, k0_1308, k0_1309, k0_1310, k0_1311, k0_1312, k0_1313, k0_1314, k0_1315, k0_1316, k0_1317, k0_1318, k0_1319, k0_1320, k0_1321, k0_1323, k0_1324, k0_1325, k0_1326, k0_1327, k0_1328, k0_1329, k0_1330, k0_1333, k0_1334, k0_1335, k0_1338, k0_1341, k0_1342, psh_s, psh_n, z_n, z_i, z_r, z_l, Nat.reduceAdd, Nat.reduceLeDiff, t1, t2, t3, c113', b1, b2, b3, b4]
  refine WP.mono (WP.sc (WP.deep B hd) t1 (Nat.le_trans (by omega) f1.2.2.2)) ?_
  intro v2 M2 ⟨⟨e2, _, I2⟩, f2⟩
  subst e2
  simp only [k0_1270, k0_1271, k0_1272, k0_1273, k0_1274, k0_1275, k0_1276, k0_1277, k0_1278, k0_1279, k0_1280, k0_1281, k0_1282, k0_1283, k0_1284, k0_1285, k0_1286, k0_1287, k0_1289, k0_1290, k0_1291, k0_1292, k0_1293, k0_1294, k0_1295, k0_1296, k0_1299, k0_1300, k0_1301, k0_1304, k0_1305, k0_1306, k0_1307, k0_1308, k0_1309, k0_1310, k0_1311, k0_1312, k0_1313, k0_1314, k0_1315, k0_1316, k0_1317, k0_1318, k0_1319, k0_1320, k0_1321, k0_1323, k0_1324, k0_1325, k0_1326, k0_1327, k0_1328, k0_1329, k0_1330, k0_1333, k0_1334, k0_1335, k0_1338, k0_1341, k0_1342, psh_s, psh_n, eq_self, if_true]
  exact nx M2 I2 (S1.go (Nat.le_trans (by omega) f1.2.2.2) f2)
theorem g_element (hd : 60 ≤ d) (I : InvE M) (S : Scp L M) (hi : i + 6 ≤ L) (hL : L ≤ 3072) (nx : ∀ M', InvE M' → Scp L M' → WP (d + 1) 0 1496 [some (vr 1), some (vr 2), some (vr 113), some (vi (nI i))] [] M' Q) : WP (d + 1) 0 1343 [some (vr 1), some (vr 2), some (vr 113), some (vi (nI i))] [] M Q := by
  obtain ⟨c2, c113, hX, _, _⟩ := I.ks
  have s1 := S.1
  have s2 := S.2
  have b1 : inb (nI i + 1) L = True := nIc (c := 1) hi hL (by decide)
  have b2 : inb (nI i + 2) L = True := nIc (c := 2) hi hL (by decide)
  obtain ⟨h, j, r, E, eM, I⟩ := I
  simp only [k0_1343, k0_1344, k0_1345, k0_1346, k0_1347, k0_1348, k0_1349, k0_1350, k0_1351, k0_1352, k0_1353, k0_1354, k0_1357, k0_1358, k0_1359, k0_1360, k0_1361, k0_1362, k0_1363, k0_1364, k0_1365, k0_1366, k0_1367, k0_1368, k0_1371, k0_1372, k0_1375, k0_1376, psh_s, psh_n, z_n, z_i, z_r, z_l, Nat.reduceAdd, Nat.reduceLeDiff, s1, s2, c2, b1, b2]
  rw [eM]
  refine WP.mono (WP.sc (WP.deep (q_element I) hd) (by rw [← eM]; exact s1) (by rw [← eM]; omega)) ?_
  rw [← eM]
  intro v1 M1 ⟨B, f1⟩
  obtain ⟨a, rfl⟩ : ∃ a, v1 = some (vl a) := WP.val B (fun _ _ h => h.2.1)
  have S1 := S.go (by omega) f1
  have c113' := (f1.2.1 113 (by omega)).trans c113
  have t1 := S1.1
  have t2 := S1.2
  have t3 := f1.1
  simp only [k0_1343, k0_1344, k0_1345, k0_1346, k0_1347, k0_1348, k0_1349, k0_1350, k0_1351, k0_1352, k0_1353, k0_1354, k0_1357, k0_1358, k0_1359, k0_1360, k0_1361, k0_1362, k0_1363, k0_1364, k0_1365, k0_1366, k0_1367, k0_1368, k0_1371, k0_1372, k0_1375, k0_1376, psh_s, psh_n, z_n, z_i, z_r, z_l, Nat.reduceAdd, Nat.reduceLeDiff, t1, t2, t3, c113', b1, b2]
  refine WP.mono (WP.sc (WP.deep B hd) t1 (Nat.le_trans (by omega) f1.2.2.2)) ?_
  intro v2 M2 ⟨⟨e2, _, I2⟩, f2⟩
  subst e2
  simp only [k0_1343, k0_1344, k0_1345, k0_1346, k0_1347, k0_1348, k0_1349, k0_1350, k0_1351, k0_1352, k0_1353, k0_1354, k0_1357, k0_1358, k0_1359, k0_1360, k0_1361, k0_1362, k0_1363, k0_1364, k0_1365, k0_1366, k0_1367, k0_1368, k0_1371, k0_1372, k0_1375, k0_1376, psh_s, psh_n, eq_self, if_true, lcmp0]
  exact nx M2 I2 (S1.go (Nat.le_trans (by omega) f1.2.2.2) f2)
theorem g_shift (hd : 60 ≤ d) (I : InvE M) (S : Scp L M) (hi : i + 6 ≤ L) (hL : L ≤ 3072) (nx : ∀ M', InvE M' → Scp L M' → WP (d + 1) 0 1496 [some (vr 1), some (vr 2), some (vr 113), some (vi (nI i))] [] M' Q) : WP (d + 1) 0 1377 [some (vr 1), some (vr 2), some (vr 113), some (vi (nI i))] [] M Q := by
  obtain ⟨c2, c113, hX, _, _⟩ := I.ks
  have s1 := S.1
  have s2 := S.2
  have b1 : inb (nI i + 1) L = True := nIc (c := 1) hi hL (by decide)
  have b2 : inb (nI i + 2) L = True := nIc (c := 2) hi hL (by decide)
  have b3 : inb (nI i + 3) L = True := nIc (c := 3) hi hL (by decide)
  have b4 : inb (nI i + 4) L = True := nIc (c := 4) hi hL (by decide)
  have b5 : inb (nI i + 5) L = True := nIc (c := 5) hi hL (by decide)
  obtain ⟨h, j, r, E, eM, I⟩ := I
  simp only [k0_1377, k0_1378, k0_1379, k0_1380, k0_1381, k0_1382, k0_1383, k0_1384, k0_1385, k0_1386, k0_1387, k0_1388, k0_1389, k0_1390, k0_1391, k0_1392, k0_1393, k0_1394, k0_1395, k0_1396, k0_1397, k0_1398, k0_1399, k0_1400, k0_1401, k0_1402, k0_1403, k0_1406, k0_1407, k0_1408, k0_1409, k0_1410, k0_1411, k0_1412, k0_1413, k0_1414, k0_1415, k0_1416, k0_1417, k0_1418, k0_1419, k0_1420, k0_1421, k0_1422, k0_1423, k0_1424, k0_1425, k0_1426, k0_1427, k0_1428, k0_1429, k0_1430, k0_1431, k0_1432, k0_1435, k0_1438, k0_1439, psh_s, psh_n, z_n, z_i, z_r, z_l, Nat.reduceAdd, Nat.reduceLeDiff, s1, s2, c2, b1, b2, b3, b4, b5]
  rw [eM]
  refine WP.mono (WP.sc (WP.deep (q_shift I) hd) (by rw [← eM]; exact s1) (by rw [← eM]; omega)) ?_
  rw [← eM]
  intro v1 M1 ⟨B, f1⟩
  obtain ⟨a, rfl⟩ : ∃ a, v1 = some (vi a) := WP.val B (fun _ _ h => h.2.1)
  have S1 := S.go (by omega) f1
  have c113' := (f1.2.1 113 (by omega)).trans c113
  have t1 := S1.1
  have t2 := S1.2
  have t3 := f1.1
  simp only [k0_1377, k0_1378, k0_1379, k0_1380, k0_1381, k0_1382, k0_1383, k0_1384, k0_1385, k0_1386, k0_1387, k0_1388, k0_1389, k0_1390, k0_1391, k0_1392, k0_1393, k0_1394, k0_1395, k0_1396, k0_1397, k0_1398, k0_1399, k0_1400, k0_1401, k0_1402, k0_1403, k0_1406, k0_1407, k0_1408, k0_1409, k0_1410, k0_1411, k0_1412, k0_1413, k0_1414, k0_1415, k0_1416, k0_1417, k0_1418, k0_1419, k0_1420, k0_1421, k0_1422, k0_1423, k0_1424, k0_1425, k0_1426, k0_1427, k0_1428, k0_1429, k0_1430, k0_1431, k0_1432, k0_1435, k0_1438, k0_1439, psh_s, psh_n, z_n, z_i, z_r, z_l, Nat.reduceAdd, Nat.reduceLeDiff, t1, t2, t3, c113', b1, b2, b3, b4, b5]
  refine WP.mono (WP.sc (WP.deep B hd) t1 (Nat.le_trans (by omega) f1.2.2.2)) ?_
  intro v2 M2 ⟨⟨e2, _, I2⟩, f2⟩
  subst e2
  simp only [k0_1377, k0_1378, k0_1379, k0_1380, k0_1381, k0_1382, k0_1383, k0_1384, k0_1385, k0_1386, k0_1387, k0_1388, k0_1389, k0_1390, k0_1391, k0_1392, k0_1393, k0_1394, k0_1395, k0_1396, k0_1397, k0_1398, k0_1399, k0_1400, k0_1401, k0_1402, k0_1403, k0_1406, k0_1407, k0_1408, k0_1409, k0_1410, k0_1411, k0_1412, k0_1413, k0_1414, k0_1415, k0_1416, k0_1417, k0_1418, k0_1419, k0_1420, k0_1421, k0_1422, k0_1423, k0_1424, k0_1425, k0_1426, k0_1427, k0_1428, k0_1429, k0_1430, k0_1431, k0_1432, k0_1435, k0_1438, k0_1439, psh_s, psh_n, eq_self, if_true]
  exact nx M2 I2 (S1.go (Nat.le_trans (by omega) f1.2.2.2) f2)
theorem g_taken (hd : 60 ≤ d) (I : InvE M) (S : Scp L M) (hi : i + 6 ≤ L) (hL : L ≤ 3072) (nx : ∀ M', InvE M' → Scp L M' → WP (d + 1) 0 1496 [some (vr 1), some (vr 2), some (vr 113), some (vi (nI i))] [] M' Q) : WP (d + 1) 0 1440 [some (vr 1), some (vr 2), some (vr 113), some (vi (nI i))] [] M Q := by
  obtain ⟨c2, c113, hX, _, _⟩ := I.ks
  have s1 := S.1
  have s2 := S.2
  have b1 : inb (nI i + 1) L = True := nIc (c := 1) hi hL (by decide)
  have b2 : inb (nI i + 2) L = True := nIc (c := 2) hi hL (by decide)
  obtain ⟨h, j, r, E, eM, I⟩ := I
  simp only [k0_1440, k0_1441, k0_1442, k0_1443, k0_1444, k0_1445, k0_1446, k0_1447, k0_1448, k0_1449, k0_1450, k0_1451, k0_1454, k0_1455, k0_1456, k0_1457, k0_1458, k0_1459, k0_1460, k0_1461, k0_1462, k0_1463, k0_1464, k0_1465, k0_1468, k0_1471, k0_1472, psh_s, psh_n, z_n, z_i, z_r, z_l, Nat.reduceAdd, Nat.reduceLeDiff, s1, s2, c2, b1, b2]
  rw [eM]
  refine WP.mono (WP.sc (WP.deep (q_taken I) hd) (by rw [← eM]; exact s1) (by rw [← eM]; omega)) ?_
  rw [← eM]
  intro v1 M1 ⟨B, f1⟩
  obtain ⟨a, rfl⟩ : ∃ a, v1 = some (vi a) := WP.val B (fun _ _ h => h.2.1)
  have S1 := S.go (by omega) f1
  have c113' := (f1.2.1 113 (by omega)).trans c113
  have t1 := S1.1
  have t2 := S1.2
  have t3 := f1.1
  simp only [k0_1440, k0_1441, k0_1442, k0_1443, k0_1444, k0_1445, k0_1446, k0_1447, k0_1448, k0_1449, k0_1450, k0_1451, k0_1454, k0_1455, k0_1456, k0_1457, k0_1458, k0_1459, k0_1460, k0_1461, k0_1462, k0_1463, k0_1464, k0_1465, k0_1468, k0_1471, k0_1472, psh_s, psh_n, z_n, z_i, z_r, z_l, Nat.reduceAdd, Nat.reduceLeDiff, t1, t2, t3, c113', b1, b2]
  refine WP.mono (WP.sc (WP.deep B hd) t1 (Nat.le_trans (by omega) f1.2.2.2)) ?_
  intro v2 M2 ⟨⟨e2, _, I2⟩, f2⟩
  subst e2
  simp only [k0_1440, k0_1441, k0_1442, k0_1443, k0_1444, k0_1445, k0_1446, k0_1447, k0_1448, k0_1449, k0_1450, k0_1451, k0_1454, k0_1455, k0_1456, k0_1457, k0_1458, k0_1459, k0_1460, k0_1461, k0_1462, k0_1463, k0_1464, k0_1465, k0_1468, k0_1471, k0_1472, psh_s, psh_n, eq_self, if_true]
  exact nx M2 I2 (S1.go (Nat.le_trans (by omega) f1.2.2.2) f2)
theorem g_count (hd : 60 ≤ d) (I : InvE M) (S : Scp L M) (hi : i + 6 ≤ L) (hL : L ≤ 3072) (nx : ∀ M', InvE M' → Scp L M' → WP (d + 1) 0 1496 [some (vr 1), some (vr 2), some (vr 113), some (vi (nI i))] [] M' Q) : WP (d + 1) 0 1473 [some (vr 1), some (vr 2), some (vr 113), some (vi (nI i))] [] M Q := by
  obtain ⟨c2, c113, hX, _, _⟩ := I.ks
  have s1 := S.1
  have s2 := S.2
  have b1 : inb (nI i + 1) L = True := nIc (c := 1) hi hL (by decide)
  obtain ⟨h, j, r, E, eM, I⟩ := I
  simp only [k0_1473, k0_1474, k0_1475, k0_1476, k0_1477, k0_1478, k0_1479, k0_1482, k0_1483, k0_1484, k0_1485, k0_1486, k0_1487, k0_1488, k0_1491, k0_1494, k0_1495, psh_s, psh_n, z_n, z_i, z_r, z_l, Nat.reduceAdd, Nat.reduceLeDiff, s1, s2, c2, b1]
  rw [eM]
  refine WP.mono (WP.sc (WP.deep (q_count I) hd) (by rw [← eM]; exact s1) (by rw [← eM]; omega)) ?_
  rw [← eM]
  intro v1 M1 ⟨B, f1⟩
  obtain ⟨a, rfl⟩ : ∃ a, v1 = some (vi a) := WP.val B (fun _ _ h => h.2.1)
  have S1 := S.go (by omega) f1
  have c113' := (f1.2.1 113 (by omega)).trans c113
  have t1 := S1.1
  have t2 := S1.2
  have t3 := f1.1
  simp only [k0_1473, k0_1474, k0_1475, k0_1476, k0_1477, k0_1478, k0_1479, k0_1482, k0_1483, k0_1484, k0_1485, k0_1486, k0_1487, k0_1488, k0_1491, k0_1494, k0_1495, psh_s, psh_n, z_n, z_i, z_r, z_l, Nat.reduceAdd, Nat.reduceLeDiff, t1, t2, t3, c113', b1]
  refine WP.mono (WP.sc (WP.deep B hd) t1 (Nat.le_trans (by omega) f1.2.2.2)) ?_
  intro v2 M2 ⟨⟨e2, _, I2⟩, f2⟩
  subst e2
  simp only [k0_1473, k0_1474, k0_1475, k0_1476, k0_1477, k0_1478, k0_1479, k0_1482, k0_1483, k0_1484, k0_1485, k0_1486, k0_1487, k0_1488, k0_1491, k0_1494, k0_1495, psh_s, psh_n, eq_self, if_true]
  exact nx M2 I2 (S1.go (Nat.le_trans (by omega) f1.2.2.2) f2)
end GC
