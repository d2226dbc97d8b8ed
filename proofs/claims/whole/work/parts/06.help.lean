theorem kc_m1 : Int32.ofInt (-1) = (-1) := by decide
theorem kc_0 : Int32.ofInt (0) = (0) := by decide
theorem kc_1 : Int32.ofInt (1) = (1) := by decide
theorem kc_2 : Int32.ofInt (2) = (2) := by decide
theorem kc_3 : Int32.ofInt (3) = (3) := by decide
theorem kc_4 : Int32.ofInt (4) = (4) := by decide
theorem kc_5 : Int32.ofInt (5) = (5) := by decide
theorem kb_6 : (Int8.ofInt (6)).toInt32 = (6) := by decide
theorem kb_7 : (Int8.ofInt (7)).toInt32 = (7) := by decide
theorem kb_8 : (Int8.ofInt (8)).toInt32 = (8) := by decide
theorem kb_9 : (Int8.ofInt (9)).toInt32 = (9) := by decide
theorem kb_10 : (Int8.ofInt (10)).toInt32 = (10) := by decide
theorem kb_11 : (Int8.ofInt (11)).toInt32 = (11) := by decide
theorem kb_12 : (Int8.ofInt (12)).toInt32 = (12) := by decide
theorem kb_13 : (Int8.ofInt (13)).toInt32 = (13) := by decide
theorem kb_14 : (Int8.ofInt (14)).toInt32 = (14) := by decide
theorem kb_16 : (Int8.ofInt (16)).toInt32 = (16) := by decide
theorem kb_18 : (Int8.ofInt (18)).toInt32 = (18) := by decide
theorem kb_20 : (Int8.ofInt (20)).toInt32 = (20) := by decide
theorem kb_21 : (Int8.ofInt (21)).toInt32 = (21) := by decide
theorem kb_22 : (Int8.ofInt (22)).toInt32 = (22) := by decide
theorem kb_23 : (Int8.ofInt (23)).toInt32 = (23) := by decide
theorem kb_24 : (Int8.ofInt (24)).toInt32 = (24) := by decide
theorem kb_30 : (Int8.ofInt (30)).toInt32 = (30) := by decide
theorem kb_31 : (Int8.ofInt (31)).toInt32 = (31) := by decide
theorem kb_32 : (Int8.ofInt (32)).toInt32 = (32) := by decide
theorem kb_36 : (Int8.ofInt (36)).toInt32 = (36) := by decide
theorem kb_40 : (Int8.ofInt (40)).toInt32 = (40) := by decide
theorem kb_44 : (Int8.ofInt (44)).toInt32 = (44) := by decide
theorem kb_48 : (Int8.ofInt (48)).toInt32 = (48) := by decide
theorem kb_57 : (Int8.ofInt (57)).toInt32 = (57) := by decide
theorem kb_59 : (Int8.ofInt (59)).toInt32 = (59) := by decide
theorem kb_60 : (Int8.ofInt (60)).toInt32 = (60) := by decide
theorem kb_61 : (Int8.ofInt (61)).toInt32 = (61) := by decide
theorem kb_63 : (Int8.ofInt (63)).toInt32 = (63) := by decide
theorem kb_64 : (Int8.ofInt (64)).toInt32 = (64) := by decide
theorem kb_72 : (Int8.ofInt (72)).toInt32 = (72) := by decide
theorem kb_98 : (Int8.ofInt (98)).toInt32 = (98) := by decide
theorem kb_99 : (Int8.ofInt (99)).toInt32 = (99) := by decide
theorem kb_100 : (Int8.ofInt (100)).toInt32 = (100) := by decide
theorem kb_101 : (Int8.ofInt (101)).toInt32 = (101) := by decide
theorem kb_110 : (Int8.ofInt (110)).toInt32 = (110) := by decide
theorem kb_115 : (Int8.ofInt (115)).toInt32 = (115) := by decide
theorem ks_255 : (Int16.ofInt (255)).toInt32 = (255) := by decide
theorem ks_300 : (Int16.ofInt (300)).toInt32 = (300) := by decide
theorem ks_320 : (Int16.ofInt (320)).toInt32 = (320) := by decide
theorem ks_828 : (Int16.ofInt (828)).toInt32 = (828) := by decide
theorem ks_900 : (Int16.ofInt (900)).toInt32 = (900) := by decide
theorem ks_972 : (Int16.ofInt (972)).toInt32 = (972) := by decide
theorem ks_973 : (Int16.ofInt (973)).toInt32 = (973) := by decide
theorem ks_975 : (Int16.ofInt (975)).toInt32 = (975) := by decide
theorem ks_976 : (Int16.ofInt (976)).toInt32 = (976) := by decide
theorem ks_978 : (Int16.ofInt (978)).toInt32 = (978) := by decide
theorem ks_984 : (Int16.ofInt (984)).toInt32 = (984) := by decide
theorem ks_990 : (Int16.ofInt (990)).toInt32 = (990) := by decide
theorem ks_996 : (Int16.ofInt (996)).toInt32 = (996) := by decide
theorem ks_999 : (Int16.ofInt (999)).toInt32 = (999) := by decide
theorem ks_1000 : (Int16.ofInt (1000)).toInt32 = (1000) := by decide
theorem ks_1008 : (Int16.ofInt (1008)).toInt32 = (1008) := by decide
theorem ks_9999 : (Int16.ofInt (9999)).toInt32 = (9999) := by decide
section GH
variable {E : gX} {own : String} {cc : ByteArray} {ret : Option FieldType} {nL k mc sz0 : Nat} {ini : Bool} {G0 : gG} {Q : Option Value → gG → Prop} {K : Nat → List (Option Value) → List Value → Nat → gG → Prop}
variable {pc sz : Nat} {st : List Value} {G : gG}
theorem st_a_4_7 (hK : Cl E own cc ret nL k mc sz0 ini G0 Q K) {a0 a1 a2 a3 a4 a5 a6 : Option Value} {x : Nat} (hd : decode cc pc = .ok (.astore 4, 2)) (h1 : okc a3) (kk : K (pc + 2) [a0, a1, a2, a3, some (.ref x), a5, a6] st sz G) : K pc [a0, a1, a2, a3, a4, a5, a6] (.ref x :: st) sz G := r_astore hK hd (Nat.le_of_ble_eq_true rfl) h1 kk
theorem st_a_6_8 (hK : Cl E own cc ret nL k mc sz0 ini G0 Q K) {a0 a1 a2 a3 a4 a5 a6 a7 : Option Value} {x : Nat} (hd : decode cc pc = .ok (.astore 6, 2)) (h1 : okc a5) (kk : K (pc + 2) [a0, a1, a2, a3, a4, a5, some (.ref x), a7] st sz G) : K pc [a0, a1, a2, a3, a4, a5, a6, a7] (.ref x :: st) sz G := r_astore hK hd (Nat.le_of_ble_eq_true rfl) h1 kk
theorem st_a_7_8 (hK : Cl E own cc ret nL k mc sz0 ini G0 Q K) {a0 a1 a2 a3 a4 a5 a6 a7 : Option Value} {x : Nat} (hd : decode cc pc = .ok (.astore 7, 2)) (h1 : okc a6) (kk : K (pc + 2) [a0, a1, a2, a3, a4, a5, a6, some (.ref x)] st sz G) : K pc [a0, a1, a2, a3, a4, a5, a6, a7] (.ref x :: st) sz G := r_astore hK hd (Nat.le_of_ble_eq_true rfl) h1 kk
theorem st_an_1_4 (hK : Cl E own cc ret nL k mc sz0 ini G0 Q K) {a0 a1 a2 a3 : Option Value} {x : Nat} (hd : decode cc pc = .ok (.astore_n 1, 1)) (h1 : okc a0) (kk : K (pc + 1) [a0, some (.ref x), a2, a3] st sz G) : K pc [a0, a1, a2, a3] (.ref x :: st) sz G := r_astore_n hK hd (Nat.le_of_ble_eq_true rfl) h1 kk
theorem st_an_2_4 (hK : Cl E own cc ret nL k mc sz0 ini G0 Q K) {a0 a1 a2 a3 : Option Value} {x : Nat} (hd : decode cc pc = .ok (.astore_n 2, 1)) (h1 : okc a1) (kk : K (pc + 1) [a0, a1, some (.ref x), a3] st sz G) : K pc [a0, a1, a2, a3] (.ref x :: st) sz G := r_astore_n hK hd (Nat.le_of_ble_eq_true rfl) h1 kk
theorem st_an_3_4 (hK : Cl E own cc ret nL k mc sz0 ini G0 Q K) {a0 a1 a2 a3 : Option Value} {x : Nat} (hd : decode cc pc = .ok (.astore_n 3, 1)) (h1 : okc a2) (kk : K (pc + 1) [a0, a1, a2, some (.ref x)] st sz G) : K pc [a0, a1, a2, a3] (.ref x :: st) sz G := r_astore_n hK hd (Nat.le_of_ble_eq_true rfl) h1 kk
theorem st_i_4_5 (hK : Cl E own cc ret nL k mc sz0 ini G0 Q K) {a0 a1 a2 a3 a4 : Option Value} {x : Int32} (hd : decode cc pc = .ok (.istore 4, 2)) (h1 : okc a3) (kk : K (pc + 2) [a0, a1, a2, a3, some (.int x)] st sz G) : K pc [a0, a1, a2, a3, a4] (.int x :: st) sz G := r_istore hK hd (Nat.le_of_ble_eq_true rfl) h1 kk
theorem st_i_4_6 (hK : Cl E own cc ret nL k mc sz0 ini G0 Q K) {a0 a1 a2 a3 a4 a5 : Option Value} {x : Int32} (hd : decode cc pc = .ok (.istore 4, 2)) (h1 : okc a3) (kk : K (pc + 2) [a0, a1, a2, a3, some (.int x), a5] st sz G) : K pc [a0, a1, a2, a3, a4, a5] (.int x :: st) sz G := r_istore hK hd (Nat.le_of_ble_eq_true rfl) h1 kk
theorem st_i_4_7 (hK : Cl E own cc ret nL k mc sz0 ini G0 Q K) {a0 a1 a2 a3 a4 a5 a6 : Option Value} {x : Int32} (hd : decode cc pc = .ok (.istore 4, 2)) (h1 : okc a3) (kk : K (pc + 2) [a0, a1, a2, a3, some (.int x), a5, a6] st sz G) : K pc [a0, a1, a2, a3, a4, a5, a6] (.int x :: st) sz G := r_istore hK hd (Nat.le_of_ble_eq_true rfl) h1 kk
theorem st_i_4_8 (hK : Cl E own cc ret nL k mc sz0 ini G0 Q K) {a0 a1 a2 a3 a4 a5 a6 a7 : Option Value} {x : Int32} (hd : decode cc pc = .ok (.istore 4, 2)) (h1 : okc a3) (kk : K (pc + 2) [a0, a1, a2, a3, some (.int x), a5, a6, a7] st sz G) : K pc [a0, a1, a2, a3, a4, a5, a6, a7] (.int x :: st) sz G := r_istore hK hd (Nat.le_of_ble_eq_true rfl) h1 kk
theorem st_i_4_9 (hK : Cl E own cc ret nL k mc sz0 ini G0 Q K) {a0 a1 a2 a3 a4 a5 a6 a7 a8 : Option Value} {x : Int32} (hd : decode cc pc = .ok (.istore 4, 2)) (h1 : okc a3) (kk : K (pc + 2) [a0, a1, a2, a3, some (.int x), a5, a6, a7, a8] st sz G) : K pc [a0, a1, a2, a3, a4, a5, a6, a7, a8] (.int x :: st) sz G := r_istore hK hd (Nat.le_of_ble_eq_true rfl) h1 kk
theorem st_i_5_6 (hK : Cl E own cc ret nL k mc sz0 ini G0 Q K) {a0 a1 a2 a3 a4 a5 : Option Value} {x : Int32} (hd : decode cc pc = .ok (.istore 5, 2)) (h1 : okc a4) (kk : K (pc + 2) [a0, a1, a2, a3, a4, some (.int x)] st sz G) : K pc [a0, a1, a2, a3, a4, a5] (.int x :: st) sz G := r_istore hK hd (Nat.le_of_ble_eq_true rfl) h1 kk
theorem st_i_5_7 (hK : Cl E own cc ret nL k mc sz0 ini G0 Q K) {a0 a1 a2 a3 a4 a5 a6 : Option Value} {x : Int32} (hd : decode cc pc = .ok (.istore 5, 2)) (h1 : okc a4) (kk : K (pc + 2) [a0, a1, a2, a3, a4, some (.int x), a6] st sz G) : K pc [a0, a1, a2, a3, a4, a5, a6] (.int x :: st) sz G := r_istore hK hd (Nat.le_of_ble_eq_true rfl) h1 kk
theorem st_i_5_8 (hK : Cl E own cc ret nL k mc sz0 ini G0 Q K) {a0 a1 a2 a3 a4 a5 a6 a7 : Option Value} {x : Int32} (hd : decode cc pc = .ok (.istore 5, 2)) (h1 : okc a4) (kk : K (pc + 2) [a0, a1, a2, a3, a4, some (.int x), a6, a7] st sz G) : K pc [a0, a1, a2, a3, a4, a5, a6, a7] (.int x :: st) sz G := r_istore hK hd (Nat.le_of_ble_eq_true rfl) h1 kk
theorem st_i_5_9 (hK : Cl E own cc ret nL k mc sz0 ini G0 Q K) {a0 a1 a2 a3 a4 a5 a6 a7 a8 : Option Value} {x : Int32} (hd : decode cc pc = .ok (.istore 5, 2)) (h1 : okc a4) (kk : K (pc + 2) [a0, a1, a2, a3, a4, some (.int x), a6, a7, a8] st sz G) : K pc [a0, a1, a2, a3, a4, a5, a6, a7, a8] (.int x :: st) sz G := r_istore hK hd (Nat.le_of_ble_eq_true rfl) h1 kk
theorem st_i_6_7 (hK : Cl E own cc ret nL k mc sz0 ini G0 Q K) {a0 a1 a2 a3 a4 a5 a6 : Option Value} {x : Int32} (hd : decode cc pc = .ok (.istore 6, 2)) (h1 : okc a5) (kk : K (pc + 2) [a0, a1, a2, a3, a4, a5, some (.int x)] st sz G) : K pc [a0, a1, a2, a3, a4, a5, a6] (.int x :: st) sz G := r_istore hK hd (Nat.le_of_ble_eq_true rfl) h1 kk
theorem st_i_6_8 (hK : Cl E own cc ret nL k mc sz0 ini G0 Q K) {a0 a1 a2 a3 a4 a5 a6 a7 : Option Value} {x : Int32} (hd : decode cc pc = .ok (.istore 6, 2)) (h1 : okc a5) (kk : K (pc + 2) [a0, a1, a2, a3, a4, a5, some (.int x), a7] st sz G) : K pc [a0, a1, a2, a3, a4, a5, a6, a7] (.int x :: st) sz G := r_istore hK hd (Nat.le_of_ble_eq_true rfl) h1 kk
theorem st_i_6_9 (hK : Cl E own cc ret nL k mc sz0 ini G0 Q K) {a0 a1 a2 a3 a4 a5 a6 a7 a8 : Option Value} {x : Int32} (hd : decode cc pc = .ok (.istore 6, 2)) (h1 : okc a5) (kk : K (pc + 2) [a0, a1, a2, a3, a4, a5, some (.int x), a7, a8] st sz G) : K pc [a0, a1, a2, a3, a4, a5, a6, a7, a8] (.int x :: st) sz G := r_istore hK hd (Nat.le_of_ble_eq_true rfl) h1 kk
theorem st_i_6_11 (hK : Cl E own cc ret nL k mc sz0 ini G0 Q K) {a0 a1 a2 a3 a4 a5 a6 a7 a8 a9 a10 : Option Value} {x : Int32} (hd : decode cc pc = .ok (.istore 6, 2)) (h1 : okc a5) (kk : K (pc + 2) [a0, a1, a2, a3, a4, a5, some (.int x), a7, a8, a9, a10] st sz G) : K pc [a0, a1, a2, a3, a4, a5, a6, a7, a8, a9, a10] (.int x :: st) sz G := r_istore hK hd (Nat.le_of_ble_eq_true rfl) h1 kk
theorem st_i_7_8 (hK : Cl E own cc ret nL k mc sz0 ini G0 Q K) {a0 a1 a2 a3 a4 a5 a6 a7 : Option Value} {x : Int32} (hd : decode cc pc = .ok (.istore 7, 2)) (h1 : okc a6) (kk : K (pc + 2) [a0, a1, a2, a3, a4, a5, a6, some (.int x)] st sz G) : K pc [a0, a1, a2, a3, a4, a5, a6, a7] (.int x :: st) sz G := r_istore hK hd (Nat.le_of_ble_eq_true rfl) h1 kk
theorem st_i_7_9 (hK : Cl E own cc ret nL k mc sz0 ini G0 Q K) {a0 a1 a2 a3 a4 a5 a6 a7 a8 : Option Value} {x : Int32} (hd : decode cc pc = .ok (.istore 7, 2)) (h1 : okc a6) (kk : K (pc + 2) [a0, a1, a2, a3, a4, a5, a6, some (.int x), a8] st sz G) : K pc [a0, a1, a2, a3, a4, a5, a6, a7, a8] (.int x :: st) sz G := r_istore hK hd (Nat.le_of_ble_eq_true rfl) h1 kk
theorem st_i_7_11 (hK : Cl E own cc ret nL k mc sz0 ini G0 Q K) {a0 a1 a2 a3 a4 a5 a6 a7 a8 a9 a10 : Option Value} {x : Int32} (hd : decode cc pc = .ok (.istore 7, 2)) (h1 : okc a6) (kk : K (pc + 2) [a0, a1, a2, a3, a4, a5, a6, some (.int x), a8, a9, a10] st sz G) : K pc [a0, a1, a2, a3, a4, a5, a6, a7, a8, a9, a10] (.int x :: st) sz G := r_istore hK hd (Nat.le_of_ble_eq_true rfl) h1 kk
theorem st_i_8_9 (hK : Cl E own cc ret nL k mc sz0 ini G0 Q K) {a0 a1 a2 a3 a4 a5 a6 a7 a8 : Option Value} {x : Int32} (hd : decode cc pc = .ok (.istore 8, 2)) (h1 : okc a7) (kk : K (pc + 2) [a0, a1, a2, a3, a4, a5, a6, a7, some (.int x)] st sz G) : K pc [a0, a1, a2, a3, a4, a5, a6, a7, a8] (.int x :: st) sz G := r_istore hK hd (Nat.le_of_ble_eq_true rfl) h1 kk
theorem st_i_8_11 (hK : Cl E own cc ret nL k mc sz0 ini G0 Q K) {a0 a1 a2 a3 a4 a5 a6 a7 a8 a9 a10 : Option Value} {x : Int32} (hd : decode cc pc = .ok (.istore 8, 2)) (h1 : okc a7) (kk : K (pc + 2) [a0, a1, a2, a3, a4, a5, a6, a7, some (.int x), a9, a10] st sz G) : K pc [a0, a1, a2, a3, a4, a5, a6, a7, a8, a9, a10] (.int x :: st) sz G := r_istore hK hd (Nat.le_of_ble_eq_true rfl) h1 kk
theorem st_i_9_11 (hK : Cl E own cc ret nL k mc sz0 ini G0 Q K) {a0 a1 a2 a3 a4 a5 a6 a7 a8 a9 a10 : Option Value} {x : Int32} (hd : decode cc pc = .ok (.istore 9, 2)) (h1 : okc a8) (kk : K (pc + 2) [a0, a1, a2, a3, a4, a5, a6, a7, a8, some (.int x), a10] st sz G) : K pc [a0, a1, a2, a3, a4, a5, a6, a7, a8, a9, a10] (.int x :: st) sz G := r_istore hK hd (Nat.le_of_ble_eq_true rfl) h1 kk
theorem st_i_10_11 (hK : Cl E own cc ret nL k mc sz0 ini G0 Q K) {a0 a1 a2 a3 a4 a5 a6 a7 a8 a9 a10 : Option Value} {x : Int32} (hd : decode cc pc = .ok (.istore 10, 2)) (h1 : okc a9) (kk : K (pc + 2) [a0, a1, a2, a3, a4, a5, a6, a7, a8, a9, some (.int x)] st sz G) : K pc [a0, a1, a2, a3, a4, a5, a6, a7, a8, a9, a10] (.int x :: st) sz G := r_istore hK hd (Nat.le_of_ble_eq_true rfl) h1 kk
theorem st_in_0_1 (hK : Cl E own cc ret nL k mc sz0 ini G0 Q K) {a0 : Option Value} {x : Int32} (hd : decode cc pc = .ok (.istore_n 0, 1))  (kk : K (pc + 1) [some (.int x)] st sz G) : K pc [a0] (.int x :: st) sz G := r_istore_n hK hd (Nat.le_of_ble_eq_true rfl) trivial kk
theorem st_in_1_2 (hK : Cl E own cc ret nL k mc sz0 ini G0 Q K) {a0 a1 : Option Value} {x : Int32} (hd : decode cc pc = .ok (.istore_n 1, 1)) (h1 : okc a0) (kk : K (pc + 1) [a0, some (.int x)] st sz G) : K pc [a0, a1] (.int x :: st) sz G := r_istore_n hK hd (Nat.le_of_ble_eq_true rfl) h1 kk
theorem st_in_1_3 (hK : Cl E own cc ret nL k mc sz0 ini G0 Q K) {a0 a1 a2 : Option Value} {x : Int32} (hd : decode cc pc = .ok (.istore_n 1, 1)) (h1 : okc a0) (kk : K (pc + 1) [a0, some (.int x), a2] st sz G) : K pc [a0, a1, a2] (.int x :: st) sz G := r_istore_n hK hd (Nat.le_of_ble_eq_true rfl) h1 kk
theorem st_in_1_4 (hK : Cl E own cc ret nL k mc sz0 ini G0 Q K) {a0 a1 a2 a3 : Option Value} {x : Int32} (hd : decode cc pc = .ok (.istore_n 1, 1)) (h1 : okc a0) (kk : K (pc + 1) [a0, some (.int x), a2, a3] st sz G) : K pc [a0, a1, a2, a3] (.int x :: st) sz G := r_istore_n hK hd (Nat.le_of_ble_eq_true rfl) h1 kk
theorem st_in_2_3 (hK : Cl E own cc ret nL k mc sz0 ini G0 Q K) {a0 a1 a2 : Option Value} {x : Int32} (hd : decode cc pc = .ok (.istore_n 2, 1)) (h1 : okc a1) (kk : K (pc + 1) [a0, a1, some (.int x)] st sz G) : K pc [a0, a1, a2] (.int x :: st) sz G := r_istore_n hK hd (Nat.le_of_ble_eq_true rfl) h1 kk
theorem st_in_2_4 (hK : Cl E own cc ret nL k mc sz0 ini G0 Q K) {a0 a1 a2 a3 : Option Value} {x : Int32} (hd : decode cc pc = .ok (.istore_n 2, 1)) (h1 : okc a1) (kk : K (pc + 1) [a0, a1, some (.int x), a3] st sz G) : K pc [a0, a1, a2, a3] (.int x :: st) sz G := r_istore_n hK hd (Nat.le_of_ble_eq_true rfl) h1 kk
theorem st_in_2_5 (hK : Cl E own cc ret nL k mc sz0 ini G0 Q K) {a0 a1 a2 a3 a4 : Option Value} {x : Int32} (hd : decode cc pc = .ok (.istore_n 2, 1)) (h1 : okc a1) (kk : K (pc + 1) [a0, a1, some (.int x), a3, a4] st sz G) : K pc [a0, a1, a2, a3, a4] (.int x :: st) sz G := r_istore_n hK hd (Nat.le_of_ble_eq_true rfl) h1 kk
theorem st_in_2_6 (hK : Cl E own cc ret nL k mc sz0 ini G0 Q K) {a0 a1 a2 a3 a4 a5 : Option Value} {x : Int32} (hd : decode cc pc = .ok (.istore_n 2, 1)) (h1 : okc a1) (kk : K (pc + 1) [a0, a1, some (.int x), a3, a4, a5] st sz G) : K pc [a0, a1, a2, a3, a4, a5] (.int x :: st) sz G := r_istore_n hK hd (Nat.le_of_ble_eq_true rfl) h1 kk
theorem st_in_3_4 (hK : Cl E own cc ret nL k mc sz0 ini G0 Q K) {a0 a1 a2 a3 : Option Value} {x : Int32} (hd : decode cc pc = .ok (.istore_n 3, 1)) (h1 : okc a2) (kk : K (pc + 1) [a0, a1, a2, some (.int x)] st sz G) : K pc [a0, a1, a2, a3] (.int x :: st) sz G := r_istore_n hK hd (Nat.le_of_ble_eq_true rfl) h1 kk
theorem st_in_3_5 (hK : Cl E own cc ret nL k mc sz0 ini G0 Q K) {a0 a1 a2 a3 a4 : Option Value} {x : Int32} (hd : decode cc pc = .ok (.istore_n 3, 1)) (h1 : okc a2) (kk : K (pc + 1) [a0, a1, a2, some (.int x), a4] st sz G) : K pc [a0, a1, a2, a3, a4] (.int x :: st) sz G := r_istore_n hK hd (Nat.le_of_ble_eq_true rfl) h1 kk
theorem st_in_3_6 (hK : Cl E own cc ret nL k mc sz0 ini G0 Q K) {a0 a1 a2 a3 a4 a5 : Option Value} {x : Int32} (hd : decode cc pc = .ok (.istore_n 3, 1)) (h1 : okc a2) (kk : K (pc + 1) [a0, a1, a2, some (.int x), a4, a5] st sz G) : K pc [a0, a1, a2, a3, a4, a5] (.int x :: st) sz G := r_istore_n hK hd (Nat.le_of_ble_eq_true rfl) h1 kk
theorem st_in_3_8 (hK : Cl E own cc ret nL k mc sz0 ini G0 Q K) {a0 a1 a2 a3 a4 a5 a6 a7 : Option Value} {x : Int32} (hd : decode cc pc = .ok (.istore_n 3, 1)) (h1 : okc a2) (kk : K (pc + 1) [a0, a1, a2, some (.int x), a4, a5, a6, a7] st sz G) : K pc [a0, a1, a2, a3, a4, a5, a6, a7] (.int x :: st) sz G := r_istore_n hK hd (Nat.le_of_ble_eq_true rfl) h1 kk
theorem st_l_4_9 (hK : Cl E own cc ret nL k mc sz0 ini G0 Q K) {a0 a1 a2 a3 a4 a5 a6 a7 a8 : Option Value} {x : Int64} (hd : decode cc pc = .ok (.lstore 4, 2)) (h1 : okc a3) (kk : K (pc + 2) [a0, a1, a2, a3, some (.long x), none, a6, a7, a8] st sz G) : K pc [a0, a1, a2, a3, a4, a5, a6, a7, a8] (.long x :: st) sz G := r_lstore hK hd (Nat.le_of_ble_eq_true rfl) h1 kk
theorem st_l_5_8 (hK : Cl E own cc ret nL k mc sz0 ini G0 Q K) {a0 a1 a2 a3 a4 a5 a6 a7 : Option Value} {x : Int64} (hd : decode cc pc = .ok (.lstore 5, 2)) (h1 : okc a4) (kk : K (pc + 2) [a0, a1, a2, a3, a4, some (.long x), none, a7] st sz G) : K pc [a0, a1, a2, a3, a4, a5, a6, a7] (.long x :: st) sz G := r_lstore hK hd (Nat.le_of_ble_eq_true rfl) h1 kk
theorem ii_1_1_2 (hK : Cl E own cc ret nL k mc sz0 ini G0 Q K) {a0 : Option Value} {x : Int32} (hd : decode cc pc = .ok (.iinc 1 (1), 3)) (h1 : okc a0) (kk : K (pc + 3) [a0, some (.int (x + (1)))] st sz G) : K pc [a0, some (.int x)] st sz G := r_iinc hK hd rfl rfl h1 kk
theorem iN_1_2 (hK : Cl E own cc ret nL k mc sz0 ini G0 Q K) {a0 : Option Value} {j : Nat} (hd : decode cc pc = .ok (.iinc 1 (1), 3)) (h1 : okc a0) (kk : K (pc + 3) [a0, some (.int (nI (j + 1)))] st sz G) : K pc [a0, some (.int (nI j))] st sz G := r_iinc hK hd rfl (nI_1 j) h1 kk
theorem ii_1_1_4 (hK : Cl E own cc ret nL k mc sz0 ini G0 Q K) {a0 a2 a3 : Option Value} {x : Int32} (hd : decode cc pc = .ok (.iinc 1 (1), 3)) (h1 : okc a0) (kk : K (pc + 3) [a0, some (.int (x + (1))), a2, a3] st sz G) : K pc [a0, some (.int x), a2, a3] st sz G := r_iinc hK hd rfl rfl h1 kk
theorem iN_1_4 (hK : Cl E own cc ret nL k mc sz0 ini G0 Q K) {a0 a2 a3 : Option Value} {j : Nat} (hd : decode cc pc = .ok (.iinc 1 (1), 3)) (h1 : okc a0) (kk : K (pc + 3) [a0, some (.int (nI (j + 1))), a2, a3] st sz G) : K pc [a0, some (.int (nI j)), a2, a3] st sz G := r_iinc hK hd rfl (nI_1 j) h1 kk
theorem ii_2_m1_6 (hK : Cl E own cc ret nL k mc sz0 ini G0 Q K) {a0 a1 a3 a4 a5 : Option Value} {x : Int32} (hd : decode cc pc = .ok (.iinc 2 (-1), 3)) (h1 : okc a1) (kk : K (pc + 3) [a0, a1, some (.int (x + (-1))), a3, a4, a5] st sz G) : K pc [a0, a1, some (.int x), a3, a4, a5] st sz G := r_iinc hK hd rfl rfl h1 kk
theorem ii_2_1_3 (hK : Cl E own cc ret nL k mc sz0 ini G0 Q K) {a0 a1 : Option Value} {x : Int32} (hd : decode cc pc = .ok (.iinc 2 (1), 3)) (h1 : okc a1) (kk : K (pc + 3) [a0, a1, some (.int (x + (1)))] st sz G) : K pc [a0, a1, some (.int x)] st sz G := r_iinc hK hd rfl rfl h1 kk
theorem iN_2_3 (hK : Cl E own cc ret nL k mc sz0 ini G0 Q K) {a0 a1 : Option Value} {j : Nat} (hd : decode cc pc = .ok (.iinc 2 (1), 3)) (h1 : okc a1) (kk : K (pc + 3) [a0, a1, some (.int (nI (j + 1)))] st sz G) : K pc [a0, a1, some (.int (nI j))] st sz G := r_iinc hK hd rfl (nI_1 j) h1 kk
theorem ii_2_1_4 (hK : Cl E own cc ret nL k mc sz0 ini G0 Q K) {a0 a1 a3 : Option Value} {x : Int32} (hd : decode cc pc = .ok (.iinc 2 (1), 3)) (h1 : okc a1) (kk : K (pc + 3) [a0, a1, some (.int (x + (1))), a3] st sz G) : K pc [a0, a1, some (.int x), a3] st sz G := r_iinc hK hd rfl rfl h1 kk
theorem iN_2_4 (hK : Cl E own cc ret nL k mc sz0 ini G0 Q K) {a0 a1 a3 : Option Value} {j : Nat} (hd : decode cc pc = .ok (.iinc 2 (1), 3)) (h1 : okc a1) (kk : K (pc + 3) [a0, a1, some (.int (nI (j + 1))), a3] st sz G) : K pc [a0, a1, some (.int (nI j)), a3] st sz G := r_iinc hK hd rfl (nI_1 j) h1 kk
theorem ii_3_m1_6 (hK : Cl E own cc ret nL k mc sz0 ini G0 Q K) {a0 a1 a2 a4 a5 : Option Value} {x : Int32} (hd : decode cc pc = .ok (.iinc 3 (-1), 3)) (h1 : okc a2) (kk : K (pc + 3) [a0, a1, a2, some (.int (x + (-1))), a4, a5] st sz G) : K pc [a0, a1, a2, some (.int x), a4, a5] st sz G := r_iinc hK hd rfl rfl h1 kk
theorem ii_3_1_4 (hK : Cl E own cc ret nL k mc sz0 ini G0 Q K) {a0 a1 a2 : Option Value} {x : Int32} (hd : decode cc pc = .ok (.iinc 3 (1), 3)) (h1 : okc a2) (kk : K (pc + 3) [a0, a1, a2, some (.int (x + (1)))] st sz G) : K pc [a0, a1, a2, some (.int x)] st sz G := r_iinc hK hd rfl rfl h1 kk
theorem iN_3_4 (hK : Cl E own cc ret nL k mc sz0 ini G0 Q K) {a0 a1 a2 : Option Value} {j : Nat} (hd : decode cc pc = .ok (.iinc 3 (1), 3)) (h1 : okc a2) (kk : K (pc + 3) [a0, a1, a2, some (.int (nI (j + 1)))] st sz G) : K pc [a0, a1, a2, some (.int (nI j))] st sz G := r_iinc hK hd rfl (nI_1 j) h1 kk
theorem ii_3_1_5 (hK : Cl E own cc ret nL k mc sz0 ini G0 Q K) {a0 a1 a2 a4 : Option Value} {x : Int32} (hd : decode cc pc = .ok (.iinc 3 (1), 3)) (h1 : okc a2) (kk : K (pc + 3) [a0, a1, a2, some (.int (x + (1))), a4] st sz G) : K pc [a0, a1, a2, some (.int x), a4] st sz G := r_iinc hK hd rfl rfl h1 kk
theorem iN_3_5 (hK : Cl E own cc ret nL k mc sz0 ini G0 Q K) {a0 a1 a2 a4 : Option Value} {j : Nat} (hd : decode cc pc = .ok (.iinc 3 (1), 3)) (h1 : okc a2) (kk : K (pc + 3) [a0, a1, a2, some (.int (nI (j + 1))), a4] st sz G) : K pc [a0, a1, a2, some (.int (nI j)), a4] st sz G := r_iinc hK hd rfl (nI_1 j) h1 kk
theorem ii_3_1_6 (hK : Cl E own cc ret nL k mc sz0 ini G0 Q K) {a0 a1 a2 a4 a5 : Option Value} {x : Int32} (hd : decode cc pc = .ok (.iinc 3 (1), 3)) (h1 : okc a2) (kk : K (pc + 3) [a0, a1, a2, some (.int (x + (1))), a4, a5] st sz G) : K pc [a0, a1, a2, some (.int x), a4, a5] st sz G := r_iinc hK hd rfl rfl h1 kk
theorem iN_3_6 (hK : Cl E own cc ret nL k mc sz0 ini G0 Q K) {a0 a1 a2 a4 a5 : Option Value} {j : Nat} (hd : decode cc pc = .ok (.iinc 3 (1), 3)) (h1 : okc a2) (kk : K (pc + 3) [a0, a1, a2, some (.int (nI (j + 1))), a4, a5] st sz G) : K pc [a0, a1, a2, some (.int (nI j)), a4, a5] st sz G := r_iinc hK hd rfl (nI_1 j) h1 kk
theorem ii_3_1_8 (hK : Cl E own cc ret nL k mc sz0 ini G0 Q K) {a0 a1 a2 a4 a5 a6 a7 : Option Value} {x : Int32} (hd : decode cc pc = .ok (.iinc 3 (1), 3)) (h1 : okc a2) (kk : K (pc + 3) [a0, a1, a2, some (.int (x + (1))), a4, a5, a6, a7] st sz G) : K pc [a0, a1, a2, some (.int x), a4, a5, a6, a7] st sz G := r_iinc hK hd rfl rfl h1 kk
theorem iN_3_8 (hK : Cl E own cc ret nL k mc sz0 ini G0 Q K) {a0 a1 a2 a4 a5 a6 a7 : Option Value} {j : Nat} (hd : decode cc pc = .ok (.iinc 3 (1), 3)) (h1 : okc a2) (kk : K (pc + 3) [a0, a1, a2, some (.int (nI (j + 1))), a4, a5, a6, a7] st sz G) : K pc [a0, a1, a2, some (.int (nI j)), a4, a5, a6, a7] st sz G := r_iinc hK hd rfl (nI_1 j) h1 kk
theorem ii_3_6_4 (hK : Cl E own cc ret nL k mc sz0 ini G0 Q K) {a0 a1 a2 : Option Value} {x : Int32} (hd : decode cc pc = .ok (.iinc 3 (6), 3)) (h1 : okc a2) (kk : K (pc + 3) [a0, a1, a2, some (.int (x + (6)))] st sz G) : K pc [a0, a1, a2, some (.int x)] st sz G := r_iinc hK hd rfl rfl h1 kk
theorem ii_4_m1_6 (hK : Cl E own cc ret nL k mc sz0 ini G0 Q K) {a0 a1 a2 a3 a5 : Option Value} {x : Int32} (hd : decode cc pc = .ok (.iinc 4 (-1), 3)) (h1 : okc a3) (kk : K (pc + 3) [a0, a1, a2, a3, some (.int (x + (-1))), a5] st sz G) : K pc [a0, a1, a2, a3, some (.int x), a5] st sz G := r_iinc hK hd rfl rfl h1 kk
theorem ii_4_1_5 (hK : Cl E own cc ret nL k mc sz0 ini G0 Q K) {a0 a1 a2 a3 : Option Value} {x : Int32} (hd : decode cc pc = .ok (.iinc 4 (1), 3)) (h1 : okc a3) (kk : K (pc + 3) [a0, a1, a2, a3, some (.int (x + (1)))] st sz G) : K pc [a0, a1, a2, a3, some (.int x)] st sz G := r_iinc hK hd rfl rfl h1 kk
theorem iN_4_5 (hK : Cl E own cc ret nL k mc sz0 ini G0 Q K) {a0 a1 a2 a3 : Option Value} {j : Nat} (hd : decode cc pc = .ok (.iinc 4 (1), 3)) (h1 : okc a3) (kk : K (pc + 3) [a0, a1, a2, a3, some (.int (nI (j + 1)))] st sz G) : K pc [a0, a1, a2, a3, some (.int (nI j))] st sz G := r_iinc hK hd rfl (nI_1 j) h1 kk
theorem ii_4_1_6 (hK : Cl E own cc ret nL k mc sz0 ini G0 Q K) {a0 a1 a2 a3 a5 : Option Value} {x : Int32} (hd : decode cc pc = .ok (.iinc 4 (1), 3)) (h1 : okc a3) (kk : K (pc + 3) [a0, a1, a2, a3, some (.int (x + (1))), a5] st sz G) : K pc [a0, a1, a2, a3, some (.int x), a5] st sz G := r_iinc hK hd rfl rfl h1 kk
theorem iN_4_6 (hK : Cl E own cc ret nL k mc sz0 ini G0 Q K) {a0 a1 a2 a3 a5 : Option Value} {j : Nat} (hd : decode cc pc = .ok (.iinc 4 (1), 3)) (h1 : okc a3) (kk : K (pc + 3) [a0, a1, a2, a3, some (.int (nI (j + 1))), a5] st sz G) : K pc [a0, a1, a2, a3, some (.int (nI j)), a5] st sz G := r_iinc hK hd rfl (nI_1 j) h1 kk
theorem ii_4_1_8 (hK : Cl E own cc ret nL k mc sz0 ini G0 Q K) {a0 a1 a2 a3 a5 a6 a7 : Option Value} {x : Int32} (hd : decode cc pc = .ok (.iinc 4 (1), 3)) (h1 : okc a3) (kk : K (pc + 3) [a0, a1, a2, a3, some (.int (x + (1))), a5, a6, a7] st sz G) : K pc [a0, a1, a2, a3, some (.int x), a5, a6, a7] st sz G := r_iinc hK hd rfl rfl h1 kk
theorem iN_4_8 (hK : Cl E own cc ret nL k mc sz0 ini G0 Q K) {a0 a1 a2 a3 a5 a6 a7 : Option Value} {j : Nat} (hd : decode cc pc = .ok (.iinc 4 (1), 3)) (h1 : okc a3) (kk : K (pc + 3) [a0, a1, a2, a3, some (.int (nI (j + 1))), a5, a6, a7] st sz G) : K pc [a0, a1, a2, a3, some (.int (nI j)), a5, a6, a7] st sz G := r_iinc hK hd rfl (nI_1 j) h1 kk
theorem ii_5_m1_6 (hK : Cl E own cc ret nL k mc sz0 ini G0 Q K) {a0 a1 a2 a3 a4 : Option Value} {x : Int32} (hd : decode cc pc = .ok (.iinc 5 (-1), 3)) (h1 : okc a4) (kk : K (pc + 3) [a0, a1, a2, a3, a4, some (.int (x + (-1)))] st sz G) : K pc [a0, a1, a2, a3, a4, some (.int x)] st sz G := r_iinc hK hd rfl rfl h1 kk
theorem ii_5_1_6 (hK : Cl E own cc ret nL k mc sz0 ini G0 Q K) {a0 a1 a2 a3 a4 : Option Value} {x : Int32} (hd : decode cc pc = .ok (.iinc 5 (1), 3)) (h1 : okc a4) (kk : K (pc + 3) [a0, a1, a2, a3, a4, some (.int (x + (1)))] st sz G) : K pc [a0, a1, a2, a3, a4, some (.int x)] st sz G := r_iinc hK hd rfl rfl h1 kk
theorem iN_5_6 (hK : Cl E own cc ret nL k mc sz0 ini G0 Q K) {a0 a1 a2 a3 a4 : Option Value} {j : Nat} (hd : decode cc pc = .ok (.iinc 5 (1), 3)) (h1 : okc a4) (kk : K (pc + 3) [a0, a1, a2, a3, a4, some (.int (nI (j + 1)))] st sz G) : K pc [a0, a1, a2, a3, a4, some (.int (nI j))] st sz G := r_iinc hK hd rfl (nI_1 j) h1 kk
theorem ii_5_1_7 (hK : Cl E own cc ret nL k mc sz0 ini G0 Q K) {a0 a1 a2 a3 a4 a6 : Option Value} {x : Int32} (hd : decode cc pc = .ok (.iinc 5 (1), 3)) (h1 : okc a4) (kk : K (pc + 3) [a0, a1, a2, a3, a4, some (.int (x + (1))), a6] st sz G) : K pc [a0, a1, a2, a3, a4, some (.int x), a6] st sz G := r_iinc hK hd rfl rfl h1 kk
theorem iN_5_7 (hK : Cl E own cc ret nL k mc sz0 ini G0 Q K) {a0 a1 a2 a3 a4 a6 : Option Value} {j : Nat} (hd : decode cc pc = .ok (.iinc 5 (1), 3)) (h1 : okc a4) (kk : K (pc + 3) [a0, a1, a2, a3, a4, some (.int (nI (j + 1))), a6] st sz G) : K pc [a0, a1, a2, a3, a4, some (.int (nI j)), a6] st sz G := r_iinc hK hd rfl (nI_1 j) h1 kk
theorem ii_6_1_7 (hK : Cl E own cc ret nL k mc sz0 ini G0 Q K) {a0 a1 a2 a3 a4 a5 : Option Value} {x : Int32} (hd : decode cc pc = .ok (.iinc 6 (1), 3)) (h1 : okc a5) (kk : K (pc + 3) [a0, a1, a2, a3, a4, a5, some (.int (x + (1)))] st sz G) : K pc [a0, a1, a2, a3, a4, a5, some (.int x)] st sz G := r_iinc hK hd rfl rfl h1 kk
theorem iN_6_7 (hK : Cl E own cc ret nL k mc sz0 ini G0 Q K) {a0 a1 a2 a3 a4 a5 : Option Value} {j : Nat} (hd : decode cc pc = .ok (.iinc 6 (1), 3)) (h1 : okc a5) (kk : K (pc + 3) [a0, a1, a2, a3, a4, a5, some (.int (nI (j + 1)))] st sz G) : K pc [a0, a1, a2, a3, a4, a5, some (.int (nI j))] st sz G := r_iinc hK hd rfl (nI_1 j) h1 kk
theorem ii_6_1_8 (hK : Cl E own cc ret nL k mc sz0 ini G0 Q K) {a0 a1 a2 a3 a4 a5 a7 : Option Value} {x : Int32} (hd : decode cc pc = .ok (.iinc 6 (1), 3)) (h1 : okc a5) (kk : K (pc + 3) [a0, a1, a2, a3, a4, a5, some (.int (x + (1))), a7] st sz G) : K pc [a0, a1, a2, a3, a4, a5, some (.int x), a7] st sz G := r_iinc hK hd rfl rfl h1 kk
theorem iN_6_8 (hK : Cl E own cc ret nL k mc sz0 ini G0 Q K) {a0 a1 a2 a3 a4 a5 a7 : Option Value} {j : Nat} (hd : decode cc pc = .ok (.iinc 6 (1), 3)) (h1 : okc a5) (kk : K (pc + 3) [a0, a1, a2, a3, a4, a5, some (.int (nI (j + 1))), a7] st sz G) : K pc [a0, a1, a2, a3, a4, a5, some (.int (nI j)), a7] st sz G := r_iinc hK hd rfl (nI_1 j) h1 kk
theorem ii_6_1_9 (hK : Cl E own cc ret nL k mc sz0 ini G0 Q K) {a0 a1 a2 a3 a4 a5 a7 a8 : Option Value} {x : Int32} (hd : decode cc pc = .ok (.iinc 6 (1), 3)) (h1 : okc a5) (kk : K (pc + 3) [a0, a1, a2, a3, a4, a5, some (.int (x + (1))), a7, a8] st sz G) : K pc [a0, a1, a2, a3, a4, a5, some (.int x), a7, a8] st sz G := r_iinc hK hd rfl rfl h1 kk
theorem iN_6_9 (hK : Cl E own cc ret nL k mc sz0 ini G0 Q K) {a0 a1 a2 a3 a4 a5 a7 a8 : Option Value} {j : Nat} (hd : decode cc pc = .ok (.iinc 6 (1), 3)) (h1 : okc a5) (kk : K (pc + 3) [a0, a1, a2, a3, a4, a5, some (.int (nI (j + 1))), a7, a8] st sz G) : K pc [a0, a1, a2, a3, a4, a5, some (.int (nI j)), a7, a8] st sz G := r_iinc hK hd rfl (nI_1 j) h1 kk
theorem ii_7_1_8 (hK : Cl E own cc ret nL k mc sz0 ini G0 Q K) {a0 a1 a2 a3 a4 a5 a6 : Option Value} {x : Int32} (hd : decode cc pc = .ok (.iinc 7 (1), 3)) (h1 : okc a6) (kk : K (pc + 3) [a0, a1, a2, a3, a4, a5, a6, some (.int (x + (1)))] st sz G) : K pc [a0, a1, a2, a3, a4, a5, a6, some (.int x)] st sz G := r_iinc hK hd rfl rfl h1 kk
theorem iN_7_8 (hK : Cl E own cc ret nL k mc sz0 ini G0 Q K) {a0 a1 a2 a3 a4 a5 a6 : Option Value} {j : Nat} (hd : decode cc pc = .ok (.iinc 7 (1), 3)) (h1 : okc a6) (kk : K (pc + 3) [a0, a1, a2, a3, a4, a5, a6, some (.int (nI (j + 1)))] st sz G) : K pc [a0, a1, a2, a3, a4, a5, a6, some (.int (nI j))] st sz G := r_iinc hK hd rfl (nI_1 j) h1 kk
theorem ii_7_1_9 (hK : Cl E own cc ret nL k mc sz0 ini G0 Q K) {a0 a1 a2 a3 a4 a5 a6 a8 : Option Value} {x : Int32} (hd : decode cc pc = .ok (.iinc 7 (1), 3)) (h1 : okc a6) (kk : K (pc + 3) [a0, a1, a2, a3, a4, a5, a6, some (.int (x + (1))), a8] st sz G) : K pc [a0, a1, a2, a3, a4, a5, a6, some (.int x), a8] st sz G := r_iinc hK hd rfl rfl h1 kk
theorem iN_7_9 (hK : Cl E own cc ret nL k mc sz0 ini G0 Q K) {a0 a1 a2 a3 a4 a5 a6 a8 : Option Value} {j : Nat} (hd : decode cc pc = .ok (.iinc 7 (1), 3)) (h1 : okc a6) (kk : K (pc + 3) [a0, a1, a2, a3, a4, a5, a6, some (.int (nI (j + 1))), a8] st sz G) : K pc [a0, a1, a2, a3, a4, a5, a6, some (.int (nI j)), a8] st sz G := r_iinc hK hd rfl (nI_1 j) h1 kk
theorem ii_8_1_9 (hK : Cl E own cc ret nL k mc sz0 ini G0 Q K) {a0 a1 a2 a3 a4 a5 a6 a7 : Option Value} {x : Int32} (hd : decode cc pc = .ok (.iinc 8 (1), 3)) (h1 : okc a7) (kk : K (pc + 3) [a0, a1, a2, a3, a4, a5, a6, a7, some (.int (x + (1)))] st sz G) : K pc [a0, a1, a2, a3, a4, a5, a6, a7, some (.int x)] st sz G := r_iinc hK hd rfl rfl h1 kk
theorem iN_8_9 (hK : Cl E own cc ret nL k mc sz0 ini G0 Q K) {a0 a1 a2 a3 a4 a5 a6 a7 : Option Value} {j : Nat} (hd : decode cc pc = .ok (.iinc 8 (1), 3)) (h1 : okc a7) (kk : K (pc + 3) [a0, a1, a2, a3, a4, a5, a6, a7, some (.int (nI (j + 1)))] st sz G) : K pc [a0, a1, a2, a3, a4, a5, a6, a7, some (.int (nI j))] st sz G := r_iinc hK hd rfl (nI_1 j) h1 kk
theorem ii_10_1_11 (hK : Cl E own cc ret nL k mc sz0 ini G0 Q K) {a0 a1 a2 a3 a4 a5 a6 a7 a8 a9 : Option Value} {x : Int32} (hd : decode cc pc = .ok (.iinc 10 (1), 3)) (h1 : okc a9) (kk : K (pc + 3) [a0, a1, a2, a3, a4, a5, a6, a7, a8, a9, some (.int (x + (1)))] st sz G) : K pc [a0, a1, a2, a3, a4, a5, a6, a7, a8, a9, some (.int x)] st sz G := r_iinc hK hd rfl rfl h1 kk
theorem iN_10_11 (hK : Cl E own cc ret nL k mc sz0 ini G0 Q K) {a0 a1 a2 a3 a4 a5 a6 a7 a8 a9 : Option Value} {j : Nat} (hd : decode cc pc = .ok (.iinc 10 (1), 3)) (h1 : okc a9) (kk : K (pc + 3) [a0, a1, a2, a3, a4, a5, a6, a7, a8, a9, some (.int (nI (j + 1)))] st sz G) : K pc [a0, a1, a2, a3, a4, a5, a6, a7, a8, a9, some (.int (nI j))] st sz G := r_iinc hK hd rfl (nI_1 j) h1 kk
variable {Ls : List (Option Value)}
def isO (G : gG) (b ci : Nat) : Prop := ∃ fs : List Value, G b = some (.inr (ci, fs))
def kc (K : Nat → List (Option Value) → List Value → Nat → gG → Prop) (pc : Nat) (Ls : List (Option Value)) (st : List Value) (sz : Nat) : Option Value → gG → Prop
  | some v, G => K pc Ls (v :: st) sz G
  | none, G => K pc Ls st sz G
theorem kc_s {v : Value} (h : K pc Ls (v :: st) sz G) : kc K pc Ls st sz (some v) G := h
theorem kc_n (h : K pc Ls st sz G) : kc K pc Ls st sz none G := h
theorem kc_eq : kc K pc Ls st sz = fun r G' => K pc Ls (r.toList ++ st) sz G' := by funext r G'; cases r <;> rfl
theorem r_v0 (hK : Cl E own cc ret nL k 0 sz0 ini G0 Q K) {idx ci b k' : Nat} {y : MethodName}  (hl : LkV own idx y 0 ci) (hd : decode cc pc = .ok (.invokevirtual idx, 3)) (hG : isO G b ci) (hk : k' + 1 ≤ k) (hrest : (st.map fun v => v.category).sum ≤ 8) (hrun : Runs E y k' 0 sz0 [.ref b] G (kc K (pc + 3) Ls st sz0)) : K pc Ls (.ref b :: st) sz0 G := by
  rw [kc_eq] at hrun
  exact hG.elim fun _ hG => r_inv (As := []) hK hl rfl hG hk (Nat.le_refl _) hrest hd hrun
theorem r_v1 (hK : Cl E own cc ret nL k 0 sz0 ini G0 Q K) {idx ci b k' : Nat} {y : MethodName} {a1 : Value} (hl : LkV own idx y 1 ci) (hd : decode cc pc = .ok (.invokevirtual idx, 3)) (hG : isO G b ci) (hk : k' + 1 ≤ k) (hrest : (st.map fun v => v.category).sum ≤ 8) (hrun : Runs E y k' 0 sz0 [.ref b, a1] G (kc K (pc + 3) Ls st sz0)) : K pc Ls (a1 :: .ref b :: st) sz0 G := by
  rw [kc_eq] at hrun
  exact hG.elim fun _ hG => r_inv (As := [a1]) hK hl rfl hG hk (Nat.le_refl _) hrest hd hrun
theorem r_v2 (hK : Cl E own cc ret nL k 0 sz0 ini G0 Q K) {idx ci b k' : Nat} {y : MethodName} {a1 a2 : Value} (hl : LkV own idx y 2 ci) (hd : decode cc pc = .ok (.invokevirtual idx, 3)) (hG : isO G b ci) (hk : k' + 1 ≤ k) (hrest : (st.map fun v => v.category).sum ≤ 8) (hrun : Runs E y k' 0 sz0 [.ref b, a1, a2] G (kc K (pc + 3) Ls st sz0)) : K pc Ls (a2 :: a1 :: .ref b :: st) sz0 G := by
  rw [kc_eq] at hrun
  exact hG.elim fun _ hG => r_inv (As := [a1, a2]) hK hl rfl hG hk (Nat.le_refl _) hrest hd hrun
theorem r_v3 (hK : Cl E own cc ret nL k 0 sz0 ini G0 Q K) {idx ci b k' : Nat} {y : MethodName} {a1 a2 a3 : Value} (hl : LkV own idx y 3 ci) (hd : decode cc pc = .ok (.invokevirtual idx, 3)) (hG : isO G b ci) (hk : k' + 1 ≤ k) (hrest : (st.map fun v => v.category).sum ≤ 8) (hrun : Runs E y k' 0 sz0 [.ref b, a1, a2, a3] G (kc K (pc + 3) Ls st sz0)) : K pc Ls (a3 :: a2 :: a1 :: .ref b :: st) sz0 G := by
  rw [kc_eq] at hrun
  exact hG.elim fun _ hG => r_inv (As := [a1, a2, a3]) hK hl rfl hG hk (Nat.le_refl _) hrest hd hrun
theorem r_v4 (hK : Cl E own cc ret nL k 0 sz0 ini G0 Q K) {idx ci b k' : Nat} {y : MethodName} {a1 a2 a3 a4 : Value} (hl : LkV own idx y 4 ci) (hd : decode cc pc = .ok (.invokevirtual idx, 3)) (hG : isO G b ci) (hk : k' + 1 ≤ k) (hrest : (st.map fun v => v.category).sum ≤ 8) (hrun : Runs E y k' 0 sz0 [.ref b, a1, a2, a3, a4] G (kc K (pc + 3) Ls st sz0)) : K pc Ls (a4 :: a3 :: a2 :: a1 :: .ref b :: st) sz0 G := by
  rw [kc_eq] at hrun
  exact hG.elim fun _ hG => r_inv (As := [a1, a2, a3, a4]) hK hl rfl hG hk (Nat.le_refl _) hrest hd hrun
theorem r_v5 (hK : Cl E own cc ret nL k 0 sz0 ini G0 Q K) {idx ci b k' : Nat} {y : MethodName} {a1 a2 a3 a4 a5 : Value} (hl : LkV own idx y 5 ci) (hd : decode cc pc = .ok (.invokevirtual idx, 3)) (hG : isO G b ci) (hk : k' + 1 ≤ k) (hrest : (st.map fun v => v.category).sum ≤ 8) (hrun : Runs E y k' 0 sz0 [.ref b, a1, a2, a3, a4, a5] G (kc K (pc + 3) Ls st sz0)) : K pc Ls (a5 :: a4 :: a3 :: a2 :: a1 :: .ref b :: st) sz0 G := by
  rw [kc_eq] at hrun
  exact hG.elim fun _ hG => r_inv (As := [a1, a2, a3, a4, a5]) hK hl rfl hG hk (Nat.le_refl _) hrest hd hrun
theorem r_v6 (hK : Cl E own cc ret nL k 0 sz0 ini G0 Q K) {idx ci b k' : Nat} {y : MethodName} {a1 a2 a3 a4 a5 a6 : Value} (hl : LkV own idx y 6 ci) (hd : decode cc pc = .ok (.invokevirtual idx, 3)) (hG : isO G b ci) (hk : k' + 1 ≤ k) (hrest : (st.map fun v => v.category).sum ≤ 8) (hrun : Runs E y k' 0 sz0 [.ref b, a1, a2, a3, a4, a5, a6] G (kc K (pc + 3) Ls st sz0)) : K pc Ls (a6 :: a5 :: a4 :: a3 :: a2 :: a1 :: .ref b :: st) sz0 G := by
  rw [kc_eq] at hrun
  exact hG.elim fun _ hG => r_inv (As := [a1, a2, a3, a4, a5, a6]) hK hl rfl hG hk (Nat.le_refl _) hrest hd hrun
theorem r_s0 (hK : Cl E own cc ret nL k 0 sz0 ini G0 Q K) {idx k' : Nat} {y : MethodName}  (hl : LkS own idx y 0) (hd : decode cc pc = .ok (.invokestatic idx, 3)) (hk : k' + 1 ≤ k) (hrest : (st.map fun v => v.category).sum ≤ 8) (hrun : Runs E y k' 0 sz0 [] G (kc K (pc + 3) Ls st sz0)) : K pc Ls (st) sz0 G := by
  rw [kc_eq] at hrun
  exact r_ist (As := []) hK hl rfl hk (Nat.le_refl _) hrest hd hrun
theorem r_s1 (hK : Cl E own cc ret nL k 0 sz0 ini G0 Q K) {idx k' : Nat} {y : MethodName} {a1 : Value} (hl : LkS own idx y 1) (hd : decode cc pc = .ok (.invokestatic idx, 3)) (hk : k' + 1 ≤ k) (hrest : (st.map fun v => v.category).sum ≤ 8) (hrun : Runs E y k' 0 sz0 [a1] G (kc K (pc + 3) Ls st sz0)) : K pc Ls (a1 :: st) sz0 G := by
  rw [kc_eq] at hrun
  exact r_ist (As := [a1]) hK hl rfl hk (Nat.le_refl _) hrest hd hrun
theorem r_s2 (hK : Cl E own cc ret nL k 0 sz0 ini G0 Q K) {idx k' : Nat} {y : MethodName} {a1 a2 : Value} (hl : LkS own idx y 2) (hd : decode cc pc = .ok (.invokestatic idx, 3)) (hk : k' + 1 ≤ k) (hrest : (st.map fun v => v.category).sum ≤ 8) (hrun : Runs E y k' 0 sz0 [a1, a2] G (kc K (pc + 3) Ls st sz0)) : K pc Ls (a2 :: a1 :: st) sz0 G := by
  rw [kc_eq] at hrun
  exact r_ist (As := [a1, a2]) hK hl rfl hk (Nat.le_refl _) hrest hd hrun
theorem r_s3 (hK : Cl E own cc ret nL k 0 sz0 ini G0 Q K) {idx k' : Nat} {y : MethodName} {a1 a2 a3 : Value} (hl : LkS own idx y 3) (hd : decode cc pc = .ok (.invokestatic idx, 3)) (hk : k' + 1 ≤ k) (hrest : (st.map fun v => v.category).sum ≤ 8) (hrun : Runs E y k' 0 sz0 [a1, a2, a3] G (kc K (pc + 3) Ls st sz0)) : K pc Ls (a3 :: a2 :: a1 :: st) sz0 G := by
  rw [kc_eq] at hrun
  exact r_ist (As := [a1, a2, a3]) hK hl rfl hk (Nat.le_refl _) hrest hd hrun
theorem r_s4 (hK : Cl E own cc ret nL k 0 sz0 ini G0 Q K) {idx k' : Nat} {y : MethodName} {a1 a2 a3 a4 : Value} (hl : LkS own idx y 4) (hd : decode cc pc = .ok (.invokestatic idx, 3)) (hk : k' + 1 ≤ k) (hrest : (st.map fun v => v.category).sum ≤ 8) (hrun : Runs E y k' 0 sz0 [a1, a2, a3, a4] G (kc K (pc + 3) Ls st sz0)) : K pc Ls (a4 :: a3 :: a2 :: a1 :: st) sz0 G := by
  rw [kc_eq] at hrun
  exact r_ist (As := [a1, a2, a3, a4]) hK hl rfl hk (Nat.le_refl _) hrest hd hrun
theorem r_s5 (hK : Cl E own cc ret nL k 0 sz0 ini G0 Q K) {idx k' : Nat} {y : MethodName} {a1 a2 a3 a4 a5 : Value} (hl : LkS own idx y 5) (hd : decode cc pc = .ok (.invokestatic idx, 3)) (hk : k' + 1 ≤ k) (hrest : (st.map fun v => v.category).sum ≤ 8) (hrun : Runs E y k' 0 sz0 [a1, a2, a3, a4, a5] G (kc K (pc + 3) Ls st sz0)) : K pc Ls (a5 :: a4 :: a3 :: a2 :: a1 :: st) sz0 G := by
  rw [kc_eq] at hrun
  exact r_ist (As := [a1, a2, a3, a4, a5]) hK hl rfl hk (Nat.le_refl _) hrest hd hrun
theorem r_s6 (hK : Cl E own cc ret nL k 0 sz0 ini G0 Q K) {idx k' : Nat} {y : MethodName} {a1 a2 a3 a4 a5 a6 : Value} (hl : LkS own idx y 6) (hd : decode cc pc = .ok (.invokestatic idx, 3)) (hk : k' + 1 ≤ k) (hrest : (st.map fun v => v.category).sum ≤ 8) (hrun : Runs E y k' 0 sz0 [a1, a2, a3, a4, a5, a6] G (kc K (pc + 3) Ls st sz0)) : K pc Ls (a6 :: a5 :: a4 :: a3 :: a2 :: a1 :: st) sz0 G := by
  rw [kc_eq] at hrun
  exact r_ist (As := [a1, a2, a3, a4, a5, a6]) hK hl rfl hk (Nat.le_refl _) hrest hd hrun
end GH
def bI : Bool → Int32
  | true => 1
  | false => 0
theorem bI_0 {b : Bool} : bI b = 0 ↔ b = false := by cases b <;> decide
theorem bI_n0 {b : Bool} : ¬ bI b = 0 ↔ b = true := by cases b <;> decide
theorem bI_1 {b : Bool} : bI b = 1 ↔ b = true := by cases b <;> decide
theorem bI_nar (b : Bool) : narrow .boolean (.int (bI b)) = .int (bI b) := by cases b <;> rfl
theorem bI_fit (b : Bool) : fits .boolean (.int (bI b)) = true := by cases b <;> rfl
theorem rc {Q : Option Value → gG → Prop} {G : gG} {x y : Int32} (h : Q (some (.int x)) G) (e : x = y) : Q (some (.int y)) G := e ▸ h
theorem lpN {P : Nat → Prop} (N : Nat) (h : ∀ j, j ≤ N → (j < N → P (j + 1)) → P j) : ∀ j, j ≤ N → P j := by
  intro j hj
  obtain ⟨d, hd⟩ : ∃ d, d + j = N := ⟨N - j, by omega⟩
  induction d generalizing j with
  | zero => exact h j hj (fun q => absurd q (by omega))
  | succ d ih => exact h j hj (fun q => ih (j + 1) q (by omega))
def Frm (G G' : gG) (a n : Nat) : Prop := ∀ q, (q < a ∨ a + n ≤ q) → G' q = G q
theorem Frm.rf {G : gG} {a n : Nat} : Frm G G a n := fun _ _ => rfl
theorem Frm.tr {G G1 G2 : gG} {a n : Nat} (h : Frm G G1 a n) (h2 : Frm G1 G2 a n) : Frm G G2 a n := fun q hq => (h2 q hq).trans (h q hq)
theorem Frm.mono {G G' : gG} {a n b m : Nat} (h : Frm G G' a n) (h1 : b ≤ a) (h2 : a + n ≤ b + m) : Frm G G' b m := fun q hq => h q (by omega)
theorem Frm.up {G : gG} {a q n : Nat} {e : gE} (h1 : a ≤ q) (h2 : q < a + n) : Frm G (gup G q e) a n := fun z hz => gup_n (by omega)
def nN (x : Int32) : Nat := x.toNatClampNeg
theorem lt_nN {j : Nat} {n : Int32} (hj : j < 2 ^ 31) : nI j < n ↔ j < nN n := by
  rw [Int32.lt_iff_toInt_lt, nI_toInt hj]
  show _ ↔ j < n.toInt.toNat
  omega
theorem nN_lt (n : Int32) : nN n < 2 ^ 31 := by
  show n.toInt.toNat < 2 ^ 31
  have := n.toInt_lt
  omega
theorem ge_nN {j : Nat} {n : Int32} (hj : j < 2 ^ 31) : n ≤ nI j ↔ nN n ≤ j := by
  rw [Int32.le_iff_toInt_le, nI_toInt hj]
  show _ ↔ n.toInt.toNat ≤ j
  omega
theorem nN_nI {j : Nat} (hj : j < 2 ^ 31) : nN (nI j) = j := nI_clamp hj
