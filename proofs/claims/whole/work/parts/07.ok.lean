def zbts (μ : Nat) : List Nat := (zM μ).2.1.data.toList.map UInt8.toNat
def zlinM (μ : Nat) : Bool := zlin (zcode.getD μ []).flatten 0 (zbts μ)
theorem zok_0 : (List.range' 0 40).all zokM = true := by decide +kernel
theorem zli_0 : (List.range' 0 40).all zlinM = true := by decide +kernel
theorem zok_1 : (List.range' 40 40).all zokM = true := by decide +kernel
theorem zli_1 : (List.range' 40 40).all zlinM = true := by decide +kernel
theorem zok_2 : (List.range' 80 40).all zokM = true := by decide +kernel
theorem zli_2 : (List.range' 80 40).all zlinM = true := by decide +kernel
theorem zok_3 : (List.range' 120 40).all zokM = true := by decide +kernel
theorem zli_3 : (List.range' 120 40).all zlinM = true := by decide +kernel
theorem zok_4 : (List.range' 160 40).all zokM = true := by decide +kernel
theorem zli_4 : (List.range' 160 40).all zlinM = true := by decide +kernel
theorem zok_5 : (List.range' 200 40).all zokM = true := by decide +kernel
theorem zli_5 : (List.range' 200 40).all zlinM = true := by decide +kernel
theorem zok_6 : (List.range' 240 40).all zokM = true := by decide +kernel
theorem zli_6 : (List.range' 240 40).all zlinM = true := by decide +kernel
theorem zok_7 : (List.range' 280 40).all zokM = true := by decide +kernel
theorem zli_7 : (List.range' 280 40).all zlinM = true := by decide +kernel
theorem zok_8 : (List.range' 320 32).all zokM = true := by decide +kernel
theorem zli_8 : (List.range' 320 32).all zlinM = true := by decide +kernel
theorem zok_l : zokM 352 = true := by decide +kernel
theorem zli_l : zlinM 352 = true := by decide +kernel
def zsws : List (Nat × Nat) := [(102, 22), (115, 12), (118, 13), (120, 21), (122, 45), (123, 13), (200, 33), (222, 34), (227, 53), (230, 65), (352, 45)]
theorem zsw_all : (List.range 353).all (fun μ => (zcode.getD μ []).all fun ch => ch.all fun q => !zskip q.2.1 || zsws.contains (μ, q.1)) = true := by decide +kernel
theorem zsw_0 : decode (zM 102).2.1 22 = .ok (.lookupswitch 50 #[(0, 26), (2, 38)], 26) := by decide +kernel
theorem zsw_1 : decode (zM 115).2.1 12 = .ok (.tableswitch 146 0 15 #[80, 88, 96, 105, 114, 146, 146, 146, 146, 146, 146, 146, 146, 146, 123, 138], 80) := by decide +kernel
theorem zsw_2 : decode (zM 118).2.1 13 = .ok (.tableswitch 90 5 11 #[43, 52, 65, 90, 90, 90, 81], 43) := by decide +kernel
theorem zsw_3 : decode (zM 120).2.1 21 = .ok (.tableswitch 178 0 7 #[47, 61, 75, 89, 107, 125, 139, 153], 47) := by decide +kernel
theorem zsw_4 : decode (zM 122).2.1 45 = .ok (.tableswitch 97 0 4 #[35, 44, 57, 70, 83], 35) := by decide +kernel
theorem zsw_5 : decode (zM 123).2.1 13 = .ok (.lookupswitch 37 #[(0, 27), (1, 32)], 27) := by decide +kernel
theorem zsw_6 : decode (zM 200).2.1 33 = .ok (.tableswitch 114 0 15 #[79, 84, 89, 89, 89, 97, 114, 114, 114, 114, 114, 114, 114, 114, 104, 109], 79) := by decide +kernel
theorem zsw_7 : decode (zM 222).2.1 34 = .ok (.tableswitch 121 0 10 #[58, 65, 72, 79, 86, 121, 93, 121, 100, 107, 114], 58) := by decide +kernel
theorem zsw_8 : decode (zM 227).2.1 53 = .ok (.tableswitch 110 3 8 #[39, 49, 55, 63, 80, 90], 39) := by decide +kernel
theorem zsw_9 : decode (zM 230).2.1 65 = .ok (.tableswitch 103 0 4 #[35, 41, 63, 83, 89], 35) := by decide +kernel
theorem zsw_10 : decode (zM 352).2.1 45 = .ok (.tableswitch 3179 0 50 #[219, 292, 348, 361, 374, 387, 443, 499, 555, 623, 703, 771, 839, 917, 973, 1017, 1061, 1105, 1149, 1205, 1273, 1339, 1404, 1460, 1556, 1612, 1668, 1724, 1792, 1848, 1904, 1960, 2004, 2048, 2104, 2200, 2256, 2312, 2368, 2460, 2528, 2631, 2687, 2755, 2823, 2910, 2966, 3010, 3054, 3067, 3123], 219) := by decide +kernel
