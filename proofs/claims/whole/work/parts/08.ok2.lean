set_option maxRecDepth 100000 in
theorem am_g141 : am_good 141 am_m141 := ⟨5, by decide, rfl, rfl, by decide +kernel, rfl, by decide +kernel, am_gm (List.mem_of_getElem? (i := 1044) rfl) rfl, am_gm (List.mem_of_getElem? (i := 109) rfl) rfl, ⟨am_gm (List.mem_of_getElem? (i := 1043) rfl) rfl, am_gm (List.mem_of_getElem? (i := 40) rfl) rfl, by decide +kernel⟩⟩
set_option maxRecDepth 100000 in
theorem am_g142 : am_good 142 am_m142 := ⟨5, by decide, rfl, rfl, by decide +kernel, rfl, by decide +kernel, am_gm (List.mem_of_getElem? (i := 1048) rfl) rfl, am_gm (List.mem_of_getElem? (i := 109) rfl) rfl, ⟨am_gm (List.mem_of_getElem? (i := 1047) rfl) rfl, am_gm (List.mem_of_getElem? (i := 41) rfl) rfl, by decide +kernel⟩⟩
set_option maxRecDepth 100000 in
theorem am_g143 : am_good 143 am_m143 := ⟨9, by decide, rfl, rfl, by decide +kernel, rfl, by decide +kernel, am_gm (List.mem_of_getElem? (i := 1052) rfl) rfl, am_gm (List.mem_of_getElem? (i := 98) rfl) rfl, ⟨am_gm (List.mem_of_getElem? (i := 1050) rfl) rfl, am_gm (List.mem_of_getElem? (i := 1051) rfl) rfl, by decide +kernel⟩⟩
set_option maxRecDepth 100000 in
theorem am_g144 : am_good 144 am_m144 := ⟨5, by decide, rfl, rfl, by decide +kernel, rfl, by decide +kernel, am_gm (List.mem_of_getElem? (i := 1057) rfl) rfl, am_gm (List.mem_of_getElem? (i := 109) rfl) rfl, ⟨am_gm (List.mem_of_getElem? (i := 1055) rfl) rfl, am_gm (List.mem_of_getElem? (i := 1056) rfl) rfl, by decide +kernel⟩⟩
set_option maxRecDepth 100000 in
theorem am_g145 : am_good 145 am_m145 := ⟨9, by decide, rfl, rfl, by decide +kernel, rfl, by decide +kernel, am_gm (List.mem_of_getElem? (i := 1062) rfl) rfl, am_gm (List.mem_of_getElem? (i := 98) rfl) rfl, ⟨am_gm (List.mem_of_getElem? (i := 1060) rfl) rfl, am_gm (List.mem_of_getElem? (i := 1061) rfl) rfl, by decide +kernel⟩⟩
set_option maxRecDepth 100000 in
theorem am_g146 : am_good 146 am_m146 := ⟨5, by decide, rfl, rfl, by decide +kernel, rfl, by decide +kernel, am_gm (List.mem_of_getElem? (i := 1066) rfl) rfl, am_gm (List.mem_of_getElem? (i := 109) rfl) rfl, ⟨am_gm (List.mem_of_getElem? (i := 1064) rfl) rfl, am_gm (List.mem_of_getElem? (i := 1065) rfl) rfl, by decide +kernel⟩⟩
set_option maxRecDepth 100000 in
theorem am_g147 : am_good 147 am_m147 := ⟨5, by decide, rfl, rfl, by decide +kernel, rfl, by decide +kernel, am_gm (List.mem_of_getElem? (i := 1070) rfl) rfl, am_gm (List.mem_of_getElem? (i := 109) rfl) rfl, ⟨am_gm (List.mem_of_getElem? (i := 1069) rfl) rfl, am_gm (List.mem_of_getElem? (i := 42) rfl) rfl, by decide +kernel⟩⟩
set_option maxRecDepth 100000 in
theorem am_g148 : am_good 148 am_m148 := ⟨5, by decide, rfl, rfl, by decide +kernel, rfl, by decide +kernel, am_gm (List.mem_of_getElem? (i := 1074) rfl) rfl, am_gm (List.mem_of_getElem? (i := 109) rfl) rfl, ⟨am_gm (List.mem_of_getElem? (i := 1073) rfl) rfl, am_gm (List.mem_of_getElem? (i := 43) rfl) rfl, by decide +kernel⟩⟩
set_option maxRecDepth 100000 in
theorem am_g149 : am_good 149 am_m149 := ⟨5, by decide, rfl, rfl, by decide +kernel, rfl, by decide +kernel, am_gm (List.mem_of_getElem? (i := 1078) rfl) rfl, am_gm (List.mem_of_getElem? (i := 109) rfl) rfl, ⟨am_gm (List.mem_of_getElem? (i := 1077) rfl) rfl, am_gm (List.mem_of_getElem? (i := 44) rfl) rfl, by decide +kernel⟩⟩
set_option maxRecDepth 100000 in
theorem am_g150 : am_good 150 am_m150 := ⟨5, by decide, rfl, rfl, by decide +kernel, rfl, by decide +kernel, am_gm (List.mem_of_getElem? (i := 1083) rfl) rfl, am_gm (List.mem_of_getElem? (i := 109) rfl) rfl, ⟨am_gm (List.mem_of_getElem? (i := 1082) rfl) rfl, am_gm (List.mem_of_getElem? (i := 45) rfl) rfl, by decide +kernel⟩⟩
set_option maxRecDepth 100000 in
theorem am_g151 : am_good 151 am_m151 := ⟨5, by decide, rfl, rfl, by decide +kernel, rfl, by decide +kernel, am_gm (List.mem_of_getElem? (i := 1087) rfl) rfl, am_gm (List.mem_of_getElem? (i := 109) rfl) rfl, ⟨am_gm (List.mem_of_getElem? (i := 1086) rfl) rfl, am_gm (List.mem_of_getElem? (i := 46) rfl) rfl, by decide +kernel⟩⟩
set_option maxRecDepth 100000 in
theorem am_g152 : am_good 152 am_m152 := ⟨9, by decide, rfl, rfl, by decide +kernel, rfl, by decide +kernel, am_gm (List.mem_of_getElem? (i := 1095) rfl) rfl, am_gm (List.mem_of_getElem? (i := 98) rfl) rfl, ⟨am_gm (List.mem_of_getElem? (i := 1093) rfl) rfl, am_gm (List.mem_of_getElem? (i := 1094) rfl) rfl, by decide +kernel⟩⟩
set_option maxRecDepth 100000 in
theorem am_g153 : am_good 153 am_m153 := ⟨2, by decide, rfl, rfl, by decide +kernel, rfl, by decide +kernel, am_gm (List.mem_of_getElem? (i := 1099) rfl) rfl, am_gm (List.mem_of_getElem? (i := 106) rfl) rfl, ⟨am_gm (List.mem_of_getElem? (i := 1097) rfl) rfl, am_gm (List.mem_of_getElem? (i := 1098) rfl) rfl, by decide +kernel⟩⟩
set_option maxRecDepth 100000 in
theorem am_g154 : am_good 154 am_m154 := ⟨9, by decide, rfl, rfl, by decide +kernel, rfl, by decide +kernel, am_gm (List.mem_of_getElem? (i := 1103) rfl) rfl, am_gm (List.mem_of_getElem? (i := 98) rfl) rfl, ⟨am_gm (List.mem_of_getElem? (i := 1101) rfl) rfl, am_gm (List.mem_of_getElem? (i := 1102) rfl) rfl, by decide +kernel⟩⟩
set_option maxRecDepth 100000 in
theorem am_g155 : am_good 155 am_m155 := ⟨2, by decide, rfl, rfl, by decide +kernel, rfl, by decide +kernel, am_gm (List.mem_of_getElem? (i := 1107) rfl) rfl, am_gm (List.mem_of_getElem? (i := 106) rfl) rfl, ⟨am_gm (List.mem_of_getElem? (i := 1105) rfl) rfl, am_gm (List.mem_of_getElem? (i := 1106) rfl) rfl, by decide +kernel⟩⟩
set_option maxRecDepth 100000 in
theorem am_g156 : am_good 156 am_m156 := ⟨9, by decide, rfl, rfl, by decide +kernel, rfl, by decide +kernel, am_gm (List.mem_of_getElem? (i := 1112) rfl) rfl, am_gm (List.mem_of_getElem? (i := 98) rfl) rfl, ⟨am_gm (List.mem_of_getElem? (i := 1110) rfl) rfl, am_gm (List.mem_of_getElem? (i := 1111) rfl) rfl, by decide +kernel⟩⟩
set_option maxRecDepth 100000 in
theorem am_g157 : am_good 157 am_m157 := ⟨7, by decide, rfl, rfl, by decide +kernel, rfl, by decide +kernel, am_gm (List.mem_of_getElem? (i := 1116) rfl) rfl, am_gm (List.mem_of_getElem? (i := 108) rfl) rfl, ⟨am_gm (List.mem_of_getElem? (i := 1114) rfl) rfl, am_gm (List.mem_of_getElem? (i := 1115) rfl) rfl, by decide +kernel⟩⟩
set_option maxRecDepth 100000 in
theorem am_g158 : am_good 158 am_m158 := ⟨9, by decide, rfl, rfl, by decide +kernel, rfl, by decide +kernel, am_gm (List.mem_of_getElem? (i := 1121) rfl) rfl, am_gm (List.mem_of_getElem? (i := 98) rfl) rfl, ⟨am_gm (List.mem_of_getElem? (i := 1119) rfl) rfl, am_gm (List.mem_of_getElem? (i := 1120) rfl) rfl, by decide +kernel⟩⟩
set_option maxRecDepth 100000 in
theorem am_g159 : am_good 159 am_m159 := ⟨9, by decide, rfl, rfl, by decide +kernel, rfl, by decide +kernel, am_gm (List.mem_of_getElem? (i := 1125) rfl) rfl, am_gm (List.mem_of_getElem? (i := 98) rfl) rfl, ⟨am_gm (List.mem_of_getElem? (i := 1123) rfl) rfl, am_gm (List.mem_of_getElem? (i := 1124) rfl) rfl, by decide +kernel⟩⟩
set_option maxRecDepth 100000 in
theorem am_g160 : am_good 160 am_m160 := ⟨9, by decide, rfl, rfl, by decide +kernel, rfl, by decide +kernel, am_gm (List.mem_of_getElem? (i := 1129) rfl) rfl, am_gm (List.mem_of_getElem? (i := 98) rfl) rfl, ⟨am_gm (List.mem_of_getElem? (i := 1127) rfl) rfl, am_gm (List.mem_of_getElem? (i := 1128) rfl) rfl, by decide +kernel⟩⟩
set_option maxRecDepth 100000 in
theorem am_g161 : am_good 161 am_m161 := ⟨9, by decide, rfl, rfl, by decide +kernel, rfl, by decide +kernel, am_gm (List.mem_of_getElem? (i := 1133) rfl) rfl, am_gm (List.mem_of_getElem? (i := 98) rfl) rfl, ⟨am_gm (List.mem_of_getElem? (i := 1131) rfl) rfl, am_gm (List.mem_of_getElem? (i := 1132) rfl) rfl, by decide +kernel⟩⟩
set_option maxRecDepth 100000 in
theorem am_g162 : am_good 162 am_m162 := ⟨9, by decide, rfl, rfl, by decide +kernel, rfl, by decide +kernel, am_gm (List.mem_of_getElem? (i := 1137) rfl) rfl, am_gm (List.mem_of_getElem? (i := 98) rfl) rfl, ⟨am_gm (List.mem_of_getElem? (i := 1135) rfl) rfl, am_gm (List.mem_of_getElem? (i := 1136) rfl) rfl, by decide +kernel⟩⟩
set_option maxRecDepth 100000 in
theorem am_g163 : am_good 163 am_m163 := ⟨5, by decide, rfl, rfl, by decide +kernel, rfl, by decide +kernel, am_gm (List.mem_of_getElem? (i := 1141) rfl) rfl, am_gm (List.mem_of_getElem? (i := 109) rfl) rfl, ⟨am_gm (List.mem_of_getElem? (i := 1139) rfl) rfl, am_gm (List.mem_of_getElem? (i := 1140) rfl) rfl, by decide +kernel⟩⟩
set_option maxRecDepth 100000 in
theorem am_g164 : am_good 164 am_m164 := ⟨9, by decide, rfl, rfl, by decide +kernel, rfl, by decide +kernel, am_gm (List.mem_of_getElem? (i := 1145) rfl) rfl, am_gm (List.mem_of_getElem? (i := 98) rfl) rfl, ⟨am_gm (List.mem_of_getElem? (i := 1144) rfl) rfl, by decide +kernel⟩⟩
set_option maxRecDepth 100000 in
theorem am_g165 : am_good 165 am_m165 := ⟨9, by decide, rfl, rfl, by decide +kernel, rfl, by decide +kernel, am_gm (List.mem_of_getElem? (i := 1149) rfl) rfl, am_gm (List.mem_of_getElem? (i := 98) rfl) rfl, ⟨am_gm (List.mem_of_getElem? (i := 1147) rfl) rfl, am_gm (List.mem_of_getElem? (i := 1148) rfl) rfl, by decide +kernel⟩⟩
set_option maxRecDepth 100000 in
theorem am_g166 : am_good 166 am_m166 := ⟨9, by decide, rfl, rfl, by decide +kernel, rfl, by decide +kernel, am_gm (List.mem_of_getElem? (i := 1153) rfl) rfl, am_gm (List.mem_of_getElem? (i := 98) rfl) rfl, ⟨am_gm (List.mem_of_getElem? (i := 1151) rfl) rfl, am_gm (List.mem_of_getElem? (i := 1152) rfl) rfl, by decide +kernel⟩⟩
set_option maxRecDepth 100000 in
theorem am_g167 : am_good 167 am_m167 := ⟨9, by decide, rfl, rfl, by decide +kernel, rfl, by decide +kernel, am_gm (List.mem_of_getElem? (i := 1157) rfl) rfl, am_gm (List.mem_of_getElem? (i := 98) rfl) rfl, ⟨am_gm (List.mem_of_getElem? (i := 1155) rfl) rfl, am_gm (List.mem_of_getElem? (i := 1156) rfl) rfl, by decide +kernel⟩⟩
set_option maxRecDepth 100000 in
theorem am_g168 : am_good 168 am_m168 := ⟨8, by decide, rfl, rfl, by decide +kernel, rfl, by decide +kernel, am_gm (List.mem_of_getElem? (i := 1164) rfl) rfl, am_gm (List.mem_of_getElem? (i := 99) rfl) rfl, ⟨am_gm (List.mem_of_getElem? (i := 1162) rfl) rfl, am_gm (List.mem_of_getElem? (i := 1163) rfl) rfl, by decide +kernel⟩⟩
set_option maxRecDepth 100000 in
theorem am_g169 : am_good 169 am_m169 := ⟨1, by decide, rfl, rfl, by decide +kernel, rfl, by decide +kernel, am_gm (List.mem_of_getElem? (i := 1169) rfl) rfl, am_gm (List.mem_of_getElem? (i := 105) rfl) rfl, ⟨am_gm (List.mem_of_getElem? (i := 1167) rfl) rfl, am_gm (List.mem_of_getElem? (i := 1168) rfl) rfl, by decide +kernel⟩⟩
set_option maxRecDepth 100000 in
theorem am_g170 : am_good 170 am_m170 := ⟨5, by decide, rfl, rfl, by decide +kernel, rfl, by decide +kernel, am_gm (List.mem_of_getElem? (i := 1175) rfl) rfl, am_gm (List.mem_of_getElem? (i := 109) rfl) rfl, ⟨am_gm (List.mem_of_getElem? (i := 1173) rfl) rfl, am_gm (List.mem_of_getElem? (i := 1174) rfl) rfl, by decide +kernel⟩⟩
set_option maxRecDepth 100000 in
theorem am_g171 : am_good 171 am_m171 := ⟨6, by decide, rfl, rfl, by decide +kernel, rfl, by decide +kernel, am_gm (List.mem_of_getElem? (i := 1181) rfl) rfl, am_gm (List.mem_of_getElem? (i := 102) rfl) rfl, ⟨am_gm (List.mem_of_getElem? (i := 1179) rfl) rfl, am_gm (List.mem_of_getElem? (i := 1180) rfl) rfl, by decide +kernel⟩⟩
set_option maxRecDepth 100000 in
theorem am_g172 : am_good 172 am_m172 := ⟨10, by decide, rfl, rfl, by decide +kernel, rfl, by decide +kernel, am_gm (List.mem_of_getElem? (i := 1187) rfl) rfl, am_gm (List.mem_of_getElem? (i := 110) rfl) rfl, ⟨am_gm (List.mem_of_getElem? (i := 1186) rfl) rfl, rfl, by decide +kernel⟩⟩
set_option maxRecDepth 100000 in
theorem am_g173 : am_good 173 am_m173 := ⟨10, by decide, rfl, rfl, by decide +kernel, rfl, by decide +kernel, am_gm (List.mem_of_getElem? (i := 1193) rfl) rfl, am_gm (List.mem_of_getElem? (i := 110) rfl) rfl, ⟨am_gm (List.mem_of_getElem? (i := 1192) rfl) rfl, am_gm (List.mem_of_getElem? (i := 47) rfl) rfl, by decide +kernel⟩⟩
set_option maxRecDepth 100000 in
theorem am_g174 : am_good 174 am_m174 := ⟨10, by decide, rfl, rfl, by decide +kernel, rfl, by decide +kernel, am_gm (List.mem_of_getElem? (i := 1197) rfl) rfl, am_gm (List.mem_of_getElem? (i := 110) rfl) rfl, ⟨am_gm (List.mem_of_getElem? (i := 1196) rfl) rfl, am_gm (List.mem_of_getElem? (i := 48) rfl) rfl, by decide +kernel⟩⟩
set_option maxRecDepth 100000 in
theorem am_g175 : am_good 175 am_m175 := ⟨10, by decide, rfl, rfl, by decide +kernel, rfl, by decide +kernel, am_gm (List.mem_of_getElem? (i := 1200) rfl) rfl, am_gm (List.mem_of_getElem? (i := 110) rfl) rfl, ⟨am_gm (List.mem_of_getElem? (i := 1199) rfl) rfl, by decide +kernel⟩⟩
set_option maxRecDepth 100000 in
theorem am_g176 : am_good 176 am_m176 := ⟨10, by decide, rfl, rfl, by decide +kernel, rfl, by decide +kernel, am_gm (List.mem_of_getElem? (i := 1204) rfl) rfl, am_gm (List.mem_of_getElem? (i := 110) rfl) rfl, ⟨am_gm (List.mem_of_getElem? (i := 1203) rfl) rfl, am_gm (List.mem_of_getElem? (i := 49) rfl) rfl, by decide +kernel⟩⟩
set_option maxRecDepth 100000 in
theorem am_g177 : am_good 177 am_m177 := ⟨10, by decide, rfl, rfl, by decide +kernel, rfl, by decide +kernel, am_gm (List.mem_of_getElem? (i := 1353) rfl) rfl, am_gm (List.mem_of_getElem? (i := 110) rfl) rfl, ⟨am_gm (List.mem_of_getElem? (i := 1351) rfl) rfl, am_gm (List.mem_of_getElem? (i := 1352) rfl) rfl, by decide +kernel⟩⟩
set_option maxRecDepth 100000 in
theorem am_g178 : am_good 178 am_m178 := ⟨10, by decide, rfl, rfl, by decide +kernel, rfl, by decide +kernel, am_gm (List.mem_of_getElem? (i := 1356) rfl) rfl, am_gm (List.mem_of_getElem? (i := 110) rfl) rfl, ⟨am_gm (List.mem_of_getElem? (i := 1355) rfl) rfl, by decide +kernel⟩⟩
set_option maxRecDepth 100000 in
theorem am_g179 : am_good 179 am_m179 := ⟨10, by decide, rfl, rfl, by decide +kernel, rfl, by decide +kernel, am_gm (List.mem_of_getElem? (i := 1360) rfl) rfl, am_gm (List.mem_of_getElem? (i := 110) rfl) rfl, ⟨am_gm (List.mem_of_getElem? (i := 1359) rfl) rfl, am_gm (List.mem_of_getElem? (i := 50) rfl) rfl, by decide +kernel⟩⟩
set_option maxRecDepth 100000 in
theorem am_g180 : am_good 180 am_m180 := ⟨10, by decide, rfl, rfl, by decide +kernel, rfl, by decide +kernel, am_gm (List.mem_of_getElem? (i := 1364) rfl) rfl, am_gm (List.mem_of_getElem? (i := 110) rfl) rfl, ⟨am_gm (List.mem_of_getElem? (i := 1362) rfl) rfl, am_gm (List.mem_of_getElem? (i := 1363) rfl) rfl, by decide +kernel⟩⟩
set_option maxRecDepth 100000 in
theorem am_g181 : am_good 181 am_m181 := ⟨10, by decide, rfl, rfl, by decide +kernel, rfl, by decide +kernel, am_gm (List.mem_of_getElem? (i := 1368) rfl) rfl, am_gm (List.mem_of_getElem? (i := 110) rfl) rfl, ⟨am_gm (List.mem_of_getElem? (i := 1367) rfl) rfl, am_gm (List.mem_of_getElem? (i := 51) rfl) rfl, by decide +kernel⟩⟩
set_option maxRecDepth 100000 in
theorem am_g182 : am_good 182 am_m182 := ⟨10, by decide, rfl, rfl, by decide +kernel, rfl, by decide +kernel, am_gm (List.mem_of_getElem? (i := 1372) rfl) rfl, am_gm (List.mem_of_getElem? (i := 110) rfl) rfl, ⟨am_gm (List.mem_of_getElem? (i := 1371) rfl) rfl, am_gm (List.mem_of_getElem? (i := 52) rfl) rfl, by decide +kernel⟩⟩
set_option maxRecDepth 100000 in
theorem am_g183 : am_good 183 am_m183 := ⟨10, by decide, rfl, rfl, by decide +kernel, rfl, by decide +kernel, am_gm (List.mem_of_getElem? (i := 1376) rfl) rfl, am_gm (List.mem_of_getElem? (i := 110) rfl) rfl, ⟨am_gm (List.mem_of_getElem? (i := 1375) rfl) rfl, am_gm (List.mem_of_getElem? (i := 53) rfl) rfl, by decide +kernel⟩⟩
set_option maxRecDepth 100000 in
theorem am_g184 : am_good 184 am_m184 := ⟨10, by decide, rfl, rfl, by decide +kernel, rfl, by decide +kernel, am_gm (List.mem_of_getElem? (i := 1380) rfl) rfl, am_gm (List.mem_of_getElem? (i := 110) rfl) rfl, ⟨am_gm (List.mem_of_getElem? (i := 1378) rfl) rfl, am_gm (List.mem_of_getElem? (i := 1379) rfl) rfl, by decide +kernel⟩⟩
set_option maxRecDepth 100000 in
theorem am_g185 : am_good 185 am_m185 := ⟨10, by decide, rfl, rfl, by decide +kernel, rfl, by decide +kernel, am_gm (List.mem_of_getElem? (i := 1385) rfl) rfl, am_gm (List.mem_of_getElem? (i := 110) rfl) rfl, ⟨am_gm (List.mem_of_getElem? (i := 1383) rfl) rfl, am_gm (List.mem_of_getElem? (i := 1384) rfl) rfl, by decide +kernel⟩⟩
set_option maxRecDepth 100000 in
theorem am_g186 : am_good 186 am_m186 := ⟨10, by decide, rfl, rfl, by decide +kernel, rfl, by decide +kernel, am_gm (List.mem_of_getElem? (i := 1389) rfl) rfl, am_gm (List.mem_of_getElem? (i := 110) rfl) rfl, ⟨am_gm (List.mem_of_getElem? (i := 1387) rfl) rfl, am_gm (List.mem_of_getElem? (i := 1388) rfl) rfl, by decide +kernel⟩⟩
set_option maxRecDepth 100000 in
theorem am_g187 : am_good 187 am_m187 := ⟨10, by decide, rfl, rfl, by decide +kernel, rfl, by decide +kernel, am_gm (List.mem_of_getElem? (i := 1393) rfl) rfl, am_gm (List.mem_of_getElem? (i := 110) rfl) rfl, ⟨am_gm (List.mem_of_getElem? (i := 1391) rfl) rfl, am_gm (List.mem_of_getElem? (i := 1392) rfl) rfl, by decide +kernel⟩⟩
set_option maxRecDepth 100000 in
theorem am_g188 : am_good 188 am_m188 := ⟨10, by decide, rfl, rfl, by decide +kernel, rfl, by decide +kernel, am_gm (List.mem_of_getElem? (i := 1397) rfl) rfl, am_gm (List.mem_of_getElem? (i := 110) rfl) rfl, ⟨am_gm (List.mem_of_getElem? (i := 1395) rfl) rfl, am_gm (List.mem_of_getElem? (i := 1396) rfl) rfl, by decide +kernel⟩⟩
set_option maxRecDepth 100000 in
theorem am_g189 : am_good 189 am_m189 := ⟨10, by decide, rfl, rfl, by decide +kernel, rfl, by decide +kernel, am_gm (List.mem_of_getElem? (i := 1400) rfl) rfl, am_gm (List.mem_of_getElem? (i := 110) rfl) rfl, ⟨am_gm (List.mem_of_getElem? (i := 1399) rfl) rfl, by decide +kernel⟩⟩
set_option maxRecDepth 100000 in
theorem am_g190 : am_good 190 am_m190 := ⟨10, by decide, rfl, rfl, by decide +kernel, rfl, by decide +kernel, am_gm (List.mem_of_getElem? (i := 1404) rfl) rfl, am_gm (List.mem_of_getElem? (i := 110) rfl) rfl, ⟨am_gm (List.mem_of_getElem? (i := 1402) rfl) rfl, am_gm (List.mem_of_getElem? (i := 1403) rfl) rfl, by decide +kernel⟩⟩
set_option maxRecDepth 100000 in
theorem am_g191 : am_good 191 am_m191 := ⟨10, by decide, rfl, rfl, by decide +kernel, rfl, by decide +kernel, am_gm (List.mem_of_getElem? (i := 1408) rfl) rfl, am_gm (List.mem_of_getElem? (i := 110) rfl) rfl, ⟨am_gm (List.mem_of_getElem? (i := 1407) rfl) rfl, am_gm (List.mem_of_getElem? (i := 54) rfl) rfl, by decide +kernel⟩⟩
set_option maxRecDepth 100000 in
theorem am_g192 : am_good 192 am_m192 := ⟨10, by decide, rfl, rfl, by decide +kernel, rfl, by decide +kernel, am_gm (List.mem_of_getElem? (i := 1412) rfl) rfl, am_gm (List.mem_of_getElem? (i := 110) rfl) rfl, ⟨am_gm (List.mem_of_getElem? (i := 1410) rfl) rfl, am_gm (List.mem_of_getElem? (i := 1411) rfl) rfl, by decide +kernel⟩⟩
set_option maxRecDepth 100000 in
theorem am_g193 : am_good 193 am_m193 := ⟨10, by decide, rfl, rfl, by decide +kernel, rfl, by decide +kernel, am_gm (List.mem_of_getElem? (i := 1416) rfl) rfl, am_gm (List.mem_of_getElem? (i := 110) rfl) rfl, ⟨am_gm (List.mem_of_getElem? (i := 1415) rfl) rfl, am_gm (List.mem_of_getElem? (i := 55) rfl) rfl, by decide +kernel⟩⟩
set_option maxRecDepth 100000 in
theorem am_g194 : am_good 194 am_m194 := ⟨10, by decide, rfl, rfl, by decide +kernel, rfl, by decide +kernel, am_gm (List.mem_of_getElem? (i := 1420) rfl) rfl, am_gm (List.mem_of_getElem? (i := 110) rfl) rfl, ⟨am_gm (List.mem_of_getElem? (i := 1419) rfl) rfl, am_gm (List.mem_of_getElem? (i := 56) rfl) rfl, by decide +kernel⟩⟩
set_option maxRecDepth 100000 in
theorem am_g195 : am_good 195 am_m195 := ⟨10, by decide, rfl, rfl, by decide +kernel, rfl, by decide +kernel, am_gm (List.mem_of_getElem? (i := 1424) rfl) rfl, am_gm (List.mem_of_getElem? (i := 110) rfl) rfl, ⟨am_gm (List.mem_of_getElem? (i := 1423) rfl) rfl, am_gm (List.mem_of_getElem? (i := 57) rfl) rfl, by decide +kernel⟩⟩
set_option maxRecDepth 100000 in
theorem am_g196 : am_good 196 am_m196 := ⟨10, by decide, rfl, rfl, by decide +kernel, rfl, by decide +kernel, am_gm (List.mem_of_getElem? (i := 1428) rfl) rfl, am_gm (List.mem_of_getElem? (i := 110) rfl) rfl, ⟨am_gm (List.mem_of_getElem? (i := 1427) rfl) rfl, am_gm (List.mem_of_getElem? (i := 58) rfl) rfl, by decide +kernel⟩⟩
set_option maxRecDepth 100000 in
theorem am_g197 : am_good 197 am_m197 := ⟨10, by decide, rfl, rfl, by decide +kernel, rfl, by decide +kernel, am_gm (List.mem_of_getElem? (i := 1432) rfl) rfl, am_gm (List.mem_of_getElem? (i := 110) rfl) rfl, ⟨am_gm (List.mem_of_getElem? (i := 1431) rfl) rfl, am_gm (List.mem_of_getElem? (i := 59) rfl) rfl, by decide +kernel⟩⟩
set_option maxRecDepth 100000 in
theorem am_g198 : am_good 198 am_m198 := ⟨10, by decide, rfl, rfl, by decide +kernel, rfl, by decide +kernel, am_gm (List.mem_of_getElem? (i := 1436) rfl) rfl, am_gm (List.mem_of_getElem? (i := 110) rfl) rfl, ⟨am_gm (List.mem_of_getElem? (i := 1435) rfl) rfl, am_gm (List.mem_of_getElem? (i := 60) rfl) rfl, by decide +kernel⟩⟩
set_option maxRecDepth 100000 in
theorem am_g199 : am_good 199 am_m199 := ⟨10, by decide, rfl, rfl, by decide +kernel, rfl, by decide +kernel, am_gm (List.mem_of_getElem? (i := 1440) rfl) rfl, am_gm (List.mem_of_getElem? (i := 110) rfl) rfl, ⟨am_gm (List.mem_of_getElem? (i := 1439) rfl) rfl, am_gm (List.mem_of_getElem? (i := 61) rfl) rfl, by decide +kernel⟩⟩
set_option maxRecDepth 100000 in
theorem am_g200 : am_good 200 am_m200 := ⟨10, by decide, rfl, rfl, by decide +kernel, rfl, by decide +kernel, am_gm (List.mem_of_getElem? (i := 1444) rfl) rfl, am_gm (List.mem_of_getElem? (i := 110) rfl) rfl, ⟨am_gm (List.mem_of_getElem? (i := 1442) rfl) rfl, am_gm (List.mem_of_getElem? (i := 1443) rfl) rfl, by decide +kernel⟩⟩
set_option maxRecDepth 100000 in
theorem am_g201 : am_good 201 am_m201 := ⟨10, by decide, rfl, rfl, by decide +kernel, rfl, by decide +kernel, am_gm (List.mem_of_getElem? (i := 1448) rfl) rfl, am_gm (List.mem_of_getElem? (i := 110) rfl) rfl, ⟨am_gm (List.mem_of_getElem? (i := 1446) rfl) rfl, am_gm (List.mem_of_getElem? (i := 1447) rfl) rfl, by decide +kernel⟩⟩
set_option maxRecDepth 100000 in
theorem am_g202 : am_good 202 am_m202 := ⟨10, by decide, rfl, rfl, by decide +kernel, rfl, by decide +kernel, am_gm (List.mem_of_getElem? (i := 1452) rfl) rfl, am_gm (List.mem_of_getElem? (i := 110) rfl) rfl, ⟨am_gm (List.mem_of_getElem? (i := 1451) rfl) rfl, am_gm (List.mem_of_getElem? (i := 62) rfl) rfl, by decide +kernel⟩⟩
set_option maxRecDepth 100000 in
theorem am_g203 : am_good 203 am_m203 := ⟨10, by decide, rfl, rfl, by decide +kernel, rfl, by decide +kernel, am_gm (List.mem_of_getElem? (i := 1455) rfl) rfl, am_gm (List.mem_of_getElem? (i := 110) rfl) rfl, ⟨am_gm (List.mem_of_getElem? (i := 1454) rfl) rfl, by decide +kernel⟩⟩
set_option maxRecDepth 100000 in
theorem am_g204 : am_good 204 am_m204 := ⟨10, by decide, rfl, rfl, by decide +kernel, rfl, by decide +kernel, am_gm (List.mem_of_getElem? (i := 1459) rfl) rfl, am_gm (List.mem_of_getElem? (i := 110) rfl) rfl, ⟨am_gm (List.mem_of_getElem? (i := 1457) rfl) rfl, am_gm (List.mem_of_getElem? (i := 1458) rfl) rfl, by decide +kernel⟩⟩
set_option maxRecDepth 100000 in
theorem am_g205 : am_good 205 am_m205 := ⟨10, by decide, rfl, rfl, by decide +kernel, rfl, by decide +kernel, am_gm (List.mem_of_getElem? (i := 1463) rfl) rfl, am_gm (List.mem_of_getElem? (i := 110) rfl) rfl, ⟨am_gm (List.mem_of_getElem? (i := 1461) rfl) rfl, am_gm (List.mem_of_getElem? (i := 1462) rfl) rfl, by decide +kernel⟩⟩
set_option maxRecDepth 100000 in
theorem am_g206 : am_good 206 am_m206 := ⟨10, by decide, rfl, rfl, by decide +kernel, rfl, by decide +kernel, am_gm (List.mem_of_getElem? (i := 1467) rfl) rfl, am_gm (List.mem_of_getElem? (i := 110) rfl) rfl, ⟨am_gm (List.mem_of_getElem? (i := 1465) rfl) rfl, am_gm (List.mem_of_getElem? (i := 1466) rfl) rfl, by decide +kernel⟩⟩
set_option maxRecDepth 100000 in
theorem am_g207 : am_good 207 am_m207 := ⟨10, by decide, rfl, rfl, by decide +kernel, rfl, by decide +kernel, am_gm (List.mem_of_getElem? (i := 1471) rfl) rfl, am_gm (List.mem_of_getElem? (i := 110) rfl) rfl, ⟨am_gm (List.mem_of_getElem? (i := 1469) rfl) rfl, am_gm (List.mem_of_getElem? (i := 1470) rfl) rfl, by decide +kernel⟩⟩
set_option maxRecDepth 100000 in
theorem am_g208 : am_good 208 am_m208 := ⟨10, by decide, rfl, rfl, by decide +kernel, rfl, by decide +kernel, am_gm (List.mem_of_getElem? (i := 1475) rfl) rfl, am_gm (List.mem_of_getElem? (i := 110) rfl) rfl, ⟨am_gm (List.mem_of_getElem? (i := 1473) rfl) rfl, am_gm (List.mem_of_getElem? (i := 1474) rfl) rfl, by decide +kernel⟩⟩
set_option maxRecDepth 100000 in
theorem am_g209 : am_good 209 am_m209 := ⟨10, by decide, rfl, rfl, by decide +kernel, rfl, by decide +kernel, am_gm (List.mem_of_getElem? (i := 1479) rfl) rfl, am_gm (List.mem_of_getElem? (i := 110) rfl) rfl, ⟨am_gm (List.mem_of_getElem? (i := 1478) rfl) rfl, am_gm (List.mem_of_getElem? (i := 63) rfl) rfl, by decide +kernel⟩⟩
set_option maxRecDepth 100000 in
theorem am_g210 : am_good 210 am_m210 := ⟨10, by decide, rfl, rfl, by decide +kernel, rfl, by decide +kernel, am_gm (List.mem_of_getElem? (i := 1483) rfl) rfl, am_gm (List.mem_of_getElem? (i := 110) rfl) rfl, ⟨am_gm (List.mem_of_getElem? (i := 1482) rfl) rfl, am_gm (List.mem_of_getElem? (i := 64) rfl) rfl, by decide +kernel⟩⟩
set_option maxRecDepth 100000 in
theorem am_g211 : am_good 211 am_m211 := ⟨10, by decide, rfl, rfl, by decide +kernel, rfl, by decide +kernel, am_gm (List.mem_of_getElem? (i := 1487) rfl) rfl, am_gm (List.mem_of_getElem? (i := 110) rfl) rfl, ⟨am_gm (List.mem_of_getElem? (i := 1485) rfl) rfl, am_gm (List.mem_of_getElem? (i := 1486) rfl) rfl, by decide +kernel⟩⟩
set_option maxRecDepth 100000 in
theorem am_g212 : am_good 212 am_m212 := ⟨10, by decide, rfl, rfl, by decide +kernel, rfl, by decide +kernel, am_gm (List.mem_of_getElem? (i := 1491) rfl) rfl, am_gm (List.mem_of_getElem? (i := 110) rfl) rfl, ⟨am_gm (List.mem_of_getElem? (i := 1489) rfl) rfl, am_gm (List.mem_of_getElem? (i := 1490) rfl) rfl, by decide +kernel⟩⟩
set_option maxRecDepth 100000 in
theorem am_g213 : am_good 213 am_m213 := ⟨10, by decide, rfl, rfl, by decide +kernel, rfl, by decide +kernel, am_gm (List.mem_of_getElem? (i := 1495) rfl) rfl, am_gm (List.mem_of_getElem? (i := 110) rfl) rfl, ⟨am_gm (List.mem_of_getElem? (i := 1493) rfl) rfl, am_gm (List.mem_of_getElem? (i := 1494) rfl) rfl, by decide +kernel⟩⟩
set_option maxRecDepth 100000 in
theorem am_g214 : am_good 214 am_m214 := ⟨10, by decide, rfl, rfl, by decide +kernel, rfl, by decide +kernel, am_gm (List.mem_of_getElem? (i := 1499) rfl) rfl, am_gm (List.mem_of_getElem? (i := 110) rfl) rfl, ⟨am_gm (List.mem_of_getElem? (i := 1498) rfl) rfl, am_gm (List.mem_of_getElem? (i := 65) rfl) rfl, by decide +kernel⟩⟩
set_option maxRecDepth 100000 in
theorem am_g215 : am_good 215 am_m215 := ⟨10, by decide, rfl, rfl, by decide +kernel, rfl, by decide +kernel, am_gm (List.mem_of_getElem? (i := 1503) rfl) rfl, am_gm (List.mem_of_getElem? (i := 110) rfl) rfl, ⟨am_gm (List.mem_of_getElem? (i := 1502) rfl) rfl, am_gm (List.mem_of_getElem? (i := 66) rfl) rfl, by decide +kernel⟩⟩
set_option maxRecDepth 100000 in
theorem am_g216 : am_good 216 am_m216 := ⟨10, by decide, rfl, rfl, by decide +kernel, rfl, by decide +kernel, am_gm (List.mem_of_getElem? (i := 1507) rfl) rfl, am_gm (List.mem_of_getElem? (i := 110) rfl) rfl, ⟨am_gm (List.mem_of_getElem? (i := 1506) rfl) rfl, am_gm (List.mem_of_getElem? (i := 67) rfl) rfl, by decide +kernel⟩⟩
set_option maxRecDepth 100000 in
theorem am_g217 : am_good 217 am_m217 := ⟨10, by decide, rfl, rfl, by decide +kernel, rfl, by decide +kernel, am_gm (List.mem_of_getElem? (i := 1511) rfl) rfl, am_gm (List.mem_of_getElem? (i := 110) rfl) rfl, ⟨am_gm (List.mem_of_getElem? (i := 1510) rfl) rfl, am_gm (List.mem_of_getElem? (i := 68) rfl) rfl, by decide +kernel⟩⟩
set_option maxRecDepth 100000 in
theorem am_g218 : am_good 218 am_m218 := ⟨10, by decide, rfl, rfl, by decide +kernel, rfl, by decide +kernel, am_gm (List.mem_of_getElem? (i := 1515) rfl) rfl, am_gm (List.mem_of_getElem? (i := 110) rfl) rfl, ⟨am_gm (List.mem_of_getElem? (i := 1513) rfl) rfl, am_gm (List.mem_of_getElem? (i := 1514) rfl) rfl, by decide +kernel⟩⟩
set_option maxRecDepth 100000 in
theorem am_g219 : am_good 219 am_m219 := ⟨10, by decide, rfl, rfl, by decide +kernel, rfl, by decide +kernel, am_gm (List.mem_of_getElem? (i := 1519) rfl) rfl, am_gm (List.mem_of_getElem? (i := 110) rfl) rfl, ⟨am_gm (List.mem_of_getElem? (i := 1518) rfl) rfl, am_gm (List.mem_of_getElem? (i := 69) rfl) rfl, by decide +kernel⟩⟩
set_option maxRecDepth 100000 in
theorem am_g220 : am_good 220 am_m220 := ⟨10, by decide, rfl, rfl, by decide +kernel, rfl, by decide +kernel, am_gm (List.mem_of_getElem? (i := 1523) rfl) rfl, am_gm (List.mem_of_getElem? (i := 110) rfl) rfl, ⟨am_gm (List.mem_of_getElem? (i := 1522) rfl) rfl, am_gm (List.mem_of_getElem? (i := 70) rfl) rfl, by decide +kernel⟩⟩
set_option maxRecDepth 100000 in
theorem am_g221 : am_good 221 am_m221 := ⟨10, by decide, rfl, rfl, by decide +kernel, rfl, by decide +kernel, am_gm (List.mem_of_getElem? (i := 1527) rfl) rfl, am_gm (List.mem_of_getElem? (i := 110) rfl) rfl, ⟨am_gm (List.mem_of_getElem? (i := 1526) rfl) rfl, am_gm (List.mem_of_getElem? (i := 71) rfl) rfl, by decide +kernel⟩⟩
set_option maxRecDepth 100000 in
theorem am_g222 : am_good 222 am_m222 := ⟨10, by decide, rfl, rfl, by decide +kernel, rfl, by decide +kernel, am_gm (List.mem_of_getElem? (i := 1532) rfl) rfl, am_gm (List.mem_of_getElem? (i := 110) rfl) rfl, ⟨am_gm (List.mem_of_getElem? (i := 1530) rfl) rfl, am_gm (List.mem_of_getElem? (i := 1531) rfl) rfl, by decide +kernel⟩⟩
set_option maxRecDepth 100000 in
theorem am_g223 : am_good 223 am_m223 := ⟨10, by decide, rfl, rfl, by decide +kernel, rfl, by decide +kernel, am_gm (List.mem_of_getElem? (i := 1536) rfl) rfl, am_gm (List.mem_of_getElem? (i := 110) rfl) rfl, ⟨am_gm (List.mem_of_getElem? (i := 1534) rfl) rfl, am_gm (List.mem_of_getElem? (i := 1535) rfl) rfl, by decide +kernel⟩⟩
set_option maxRecDepth 100000 in
theorem am_g224 : am_good 224 am_m224 := ⟨10, by decide, rfl, rfl, by decide +kernel, rfl, by decide +kernel, am_gm (List.mem_of_getElem? (i := 1540) rfl) rfl, am_gm (List.mem_of_getElem? (i := 110) rfl) rfl, ⟨am_gm (List.mem_of_getElem? (i := 1539) rfl) rfl, am_gm (List.mem_of_getElem? (i := 72) rfl) rfl, by decide +kernel⟩⟩
set_option maxRecDepth 100000 in
theorem am_g225 : am_good 225 am_m225 := ⟨10, by decide, rfl, rfl, by decide +kernel, rfl, by decide +kernel, am_gm (List.mem_of_getElem? (i := 1544) rfl) rfl, am_gm (List.mem_of_getElem? (i := 110) rfl) rfl, ⟨am_gm (List.mem_of_getElem? (i := 1542) rfl) rfl, am_gm (List.mem_of_getElem? (i := 1543) rfl) rfl, by decide +kernel⟩⟩
set_option maxRecDepth 100000 in
theorem am_g226 : am_good 226 am_m226 := ⟨10, by decide, rfl, rfl, by decide +kernel, rfl, by decide +kernel, am_gm (List.mem_of_getElem? (i := 1547) rfl) rfl, am_gm (List.mem_of_getElem? (i := 110) rfl) rfl, ⟨am_gm (List.mem_of_getElem? (i := 1546) rfl) rfl, by decide +kernel⟩⟩
set_option maxRecDepth 100000 in
theorem am_g227 : am_good 227 am_m227 := ⟨10, by decide, rfl, rfl, by decide +kernel, rfl, by decide +kernel, am_gm (List.mem_of_getElem? (i := 1551) rfl) rfl, am_gm (List.mem_of_getElem? (i := 110) rfl) rfl, ⟨am_gm (List.mem_of_getElem? (i := 1549) rfl) rfl, am_gm (List.mem_of_getElem? (i := 1550) rfl) rfl, by decide +kernel⟩⟩
set_option maxRecDepth 100000 in
theorem am_g228 : am_good 228 am_m228 := ⟨10, by decide, rfl, rfl, by decide +kernel, rfl, by decide +kernel, am_gm (List.mem_of_getElem? (i := 1555) rfl) rfl, am_gm (List.mem_of_getElem? (i := 110) rfl) rfl, ⟨am_gm (List.mem_of_getElem? (i := 1553) rfl) rfl, am_gm (List.mem_of_getElem? (i := 1554) rfl) rfl, by decide +kernel⟩⟩
set_option maxRecDepth 100000 in
theorem am_g229 : am_good 229 am_m229 := ⟨10, by decide, rfl, rfl, by decide +kernel, rfl, by decide +kernel, am_gm (List.mem_of_getElem? (i := 1559) rfl) rfl, am_gm (List.mem_of_getElem? (i := 110) rfl) rfl, ⟨am_gm (List.mem_of_getElem? (i := 1558) rfl) rfl, am_gm (List.mem_of_getElem? (i := 73) rfl) rfl, by decide +kernel⟩⟩
set_option maxRecDepth 100000 in
theorem am_g230 : am_good 230 am_m230 := ⟨10, by decide, rfl, rfl, by decide +kernel, rfl, by decide +kernel, am_gm (List.mem_of_getElem? (i := 1563) rfl) rfl, am_gm (List.mem_of_getElem? (i := 110) rfl) rfl, ⟨am_gm (List.mem_of_getElem? (i := 1562) rfl) rfl, am_gm (List.mem_of_getElem? (i := 74) rfl) rfl, by decide +kernel⟩⟩
set_option maxRecDepth 100000 in
theorem am_g231 : am_good 231 am_m231 := ⟨10, by decide, rfl, rfl, by decide +kernel, rfl, by decide +kernel, am_gm (List.mem_of_getElem? (i := 1567) rfl) rfl, am_gm (List.mem_of_getElem? (i := 110) rfl) rfl, ⟨am_gm (List.mem_of_getElem? (i := 1566) rfl) rfl, am_gm (List.mem_of_getElem? (i := 75) rfl) rfl, by decide +kernel⟩⟩
set_option maxRecDepth 100000 in
theorem am_g232 : am_good 232 am_m232 := ⟨10, by decide, rfl, rfl, by decide +kernel, rfl, by decide +kernel, am_gm (List.mem_of_getElem? (i := 1571) rfl) rfl, am_gm (List.mem_of_getElem? (i := 110) rfl) rfl, ⟨am_gm (List.mem_of_getElem? (i := 1570) rfl) rfl, am_gm (List.mem_of_getElem? (i := 76) rfl) rfl, by decide +kernel⟩⟩
set_option maxRecDepth 100000 in
theorem am_g233 : am_good 233 am_m233 := ⟨10, by decide, rfl, rfl, by decide +kernel, rfl, by decide +kernel, am_gm (List.mem_of_getElem? (i := 1575) rfl) rfl, am_gm (List.mem_of_getElem? (i := 110) rfl) rfl, ⟨am_gm (List.mem_of_getElem? (i := 1574) rfl) rfl, am_gm (List.mem_of_getElem? (i := 77) rfl) rfl, by decide +kernel⟩⟩
set_option maxRecDepth 100000 in
theorem am_g234 : am_good 234 am_m234 := ⟨10, by decide, rfl, rfl, by decide +kernel, rfl, by decide +kernel, am_gm (List.mem_of_getElem? (i := 1579) rfl) rfl, am_gm (List.mem_of_getElem? (i := 110) rfl) rfl, ⟨am_gm (List.mem_of_getElem? (i := 1577) rfl) rfl, am_gm (List.mem_of_getElem? (i := 1578) rfl) rfl, by decide +kernel⟩⟩
set_option maxRecDepth 100000 in
theorem am_g235 : am_good 235 am_m235 := ⟨10, by decide, rfl, rfl, by decide +kernel, rfl, by decide +kernel, am_gm (List.mem_of_getElem? (i := 1583) rfl) rfl, am_gm (List.mem_of_getElem? (i := 110) rfl) rfl, ⟨am_gm (List.mem_of_getElem? (i := 1582) rfl) rfl, am_gm (List.mem_of_getElem? (i := 78) rfl) rfl, by decide +kernel⟩⟩
set_option maxRecDepth 100000 in
theorem am_g236 : am_good 236 am_m236 := ⟨10, by decide, rfl, rfl, by decide +kernel, rfl, by decide +kernel, am_gm (List.mem_of_getElem? (i := 1587) rfl) rfl, am_gm (List.mem_of_getElem? (i := 110) rfl) rfl, ⟨am_gm (List.mem_of_getElem? (i := 1586) rfl) rfl, am_gm (List.mem_of_getElem? (i := 79) rfl) rfl, by decide +kernel⟩⟩
set_option maxRecDepth 100000 in
theorem am_g237 : am_good 237 am_m237 := ⟨10, by decide, rfl, rfl, by decide +kernel, rfl, by decide +kernel, am_gm (List.mem_of_getElem? (i := 1591) rfl) rfl, am_gm (List.mem_of_getElem? (i := 110) rfl) rfl, ⟨am_gm (List.mem_of_getElem? (i := 1589) rfl) rfl, am_gm (List.mem_of_getElem? (i := 1590) rfl) rfl, by decide +kernel⟩⟩
set_option maxRecDepth 100000 in
theorem am_g238 : am_good 238 am_m238 := ⟨10, by decide, rfl, rfl, by decide +kernel, rfl, by decide +kernel, am_gm (List.mem_of_getElem? (i := 1595) rfl) rfl, am_gm (List.mem_of_getElem? (i := 110) rfl) rfl, ⟨am_gm (List.mem_of_getElem? (i := 1594) rfl) rfl, am_gm (List.mem_of_getElem? (i := 80) rfl) rfl, by decide +kernel⟩⟩
set_option maxRecDepth 100000 in
theorem am_g239 : am_good 239 am_m239 := ⟨10, by decide, rfl, rfl, by decide +kernel, rfl, by decide +kernel, am_gm (List.mem_of_getElem? (i := 1599) rfl) rfl, am_gm (List.mem_of_getElem? (i := 110) rfl) rfl, ⟨am_gm (List.mem_of_getElem? (i := 1598) rfl) rfl, am_gm (List.mem_of_getElem? (i := 81) rfl) rfl, by decide +kernel⟩⟩
set_option maxRecDepth 100000 in
theorem am_g240 : am_good 240 am_m240 := ⟨10, by decide, rfl, rfl, by decide +kernel, rfl, by decide +kernel, am_gm (List.mem_of_getElem? (i := 1604) rfl) rfl, am_gm (List.mem_of_getElem? (i := 110) rfl) rfl, ⟨am_gm (List.mem_of_getElem? (i := 1602) rfl) rfl, am_gm (List.mem_of_getElem? (i := 1603) rfl) rfl, by decide +kernel⟩⟩
set_option maxRecDepth 100000 in
theorem am_g241 : am_good 241 am_m241 := ⟨10, by decide, rfl, rfl, by decide +kernel, rfl, by decide +kernel, am_gm (List.mem_of_getElem? (i := 1608) rfl) rfl, am_gm (List.mem_of_getElem? (i := 110) rfl) rfl, ⟨am_gm (List.mem_of_getElem? (i := 1607) rfl) rfl, am_gm (List.mem_of_getElem? (i := 82) rfl) rfl, by decide +kernel⟩⟩
set_option maxRecDepth 100000 in
theorem am_g242 : am_good 242 am_m242 := ⟨10, by decide, rfl, rfl, by decide +kernel, rfl, by decide +kernel, am_gm (List.mem_of_getElem? (i := 1614) rfl) rfl, am_gm (List.mem_of_getElem? (i := 110) rfl) rfl, ⟨am_gm (List.mem_of_getElem? (i := 1612) rfl) rfl, am_gm (List.mem_of_getElem? (i := 1613) rfl) rfl, by decide +kernel⟩⟩
set_option maxRecDepth 100000 in
theorem am_g243 : am_good 243 am_m243 := ⟨10, by decide, rfl, rfl, by decide +kernel, rfl, by decide +kernel, am_gm (List.mem_of_getElem? (i := 1618) rfl) rfl, am_gm (List.mem_of_getElem? (i := 110) rfl) rfl, ⟨am_gm (List.mem_of_getElem? (i := 1616) rfl) rfl, am_gm (List.mem_of_getElem? (i := 1617) rfl) rfl, by decide +kernel⟩⟩
set_option maxRecDepth 100000 in
theorem am_g244 : am_good 244 am_m244 := ⟨10, by decide, rfl, rfl, by decide +kernel, rfl, by decide +kernel, am_gm (List.mem_of_getElem? (i := 1622) rfl) rfl, am_gm (List.mem_of_getElem? (i := 110) rfl) rfl, ⟨am_gm (List.mem_of_getElem? (i := 1620) rfl) rfl, am_gm (List.mem_of_getElem? (i := 1621) rfl) rfl, by decide +kernel⟩⟩
set_option maxRecDepth 100000 in
theorem am_g245 : am_good 245 am_m245 := ⟨10, by decide, rfl, rfl, by decide +kernel, rfl, by decide +kernel, am_gm (List.mem_of_getElem? (i := 1626) rfl) rfl, am_gm (List.mem_of_getElem? (i := 110) rfl) rfl, ⟨am_gm (List.mem_of_getElem? (i := 1625) rfl) rfl, am_gm (List.mem_of_getElem? (i := 83) rfl) rfl, by decide +kernel⟩⟩
set_option maxRecDepth 100000 in
theorem am_g246 : am_good 246 am_m246 := ⟨10, by decide, rfl, rfl, by decide +kernel, rfl, by decide +kernel, am_gm (List.mem_of_getElem? (i := 1630) rfl) rfl, am_gm (List.mem_of_getElem? (i := 110) rfl) rfl, ⟨am_gm (List.mem_of_getElem? (i := 1629) rfl) rfl, am_gm (List.mem_of_getElem? (i := 84) rfl) rfl, by decide +kernel⟩⟩
set_option maxRecDepth 100000 in
theorem am_g247 : am_good 247 am_m247 := ⟨10, by decide, rfl, rfl, by decide +kernel, rfl, by decide +kernel, am_gm (List.mem_of_getElem? (i := 1634) rfl) rfl, am_gm (List.mem_of_getElem? (i := 110) rfl) rfl, ⟨am_gm (List.mem_of_getElem? (i := 1632) rfl) rfl, am_gm (List.mem_of_getElem? (i := 1633) rfl) rfl, by decide +kernel⟩⟩
set_option maxRecDepth 100000 in
theorem am_g248 : am_good 248 am_m248 := ⟨10, by decide, rfl, rfl, by decide +kernel, rfl, by decide +kernel, am_gm (List.mem_of_getElem? (i := 1638) rfl) rfl, am_gm (List.mem_of_getElem? (i := 110) rfl) rfl, ⟨am_gm (List.mem_of_getElem? (i := 1636) rfl) rfl, am_gm (List.mem_of_getElem? (i := 1637) rfl) rfl, by decide +kernel⟩⟩
set_option maxRecDepth 100000 in
theorem am_g249 : am_good 249 am_m249 := ⟨10, by decide, rfl, rfl, by decide +kernel, rfl, by decide +kernel, am_gm (List.mem_of_getElem? (i := 1642) rfl) rfl, am_gm (List.mem_of_getElem? (i := 110) rfl) rfl, ⟨am_gm (List.mem_of_getElem? (i := 1640) rfl) rfl, am_gm (List.mem_of_getElem? (i := 1641) rfl) rfl, by decide +kernel⟩⟩
set_option maxRecDepth 100000 in
theorem am_g250 : am_good 250 am_m250 := ⟨10, by decide, rfl, rfl, by decide +kernel, rfl, by decide +kernel, am_gm (List.mem_of_getElem? (i := 1646) rfl) rfl, am_gm (List.mem_of_getElem? (i := 110) rfl) rfl, ⟨am_gm (List.mem_of_getElem? (i := 1644) rfl) rfl, am_gm (List.mem_of_getElem? (i := 1645) rfl) rfl, by decide +kernel⟩⟩
set_option maxRecDepth 100000 in
theorem am_g251 : am_good 251 am_m251 := ⟨10, by decide, rfl, rfl, by decide +kernel, rfl, by decide +kernel, am_gm (List.mem_of_getElem? (i := 1650) rfl) rfl, am_gm (List.mem_of_getElem? (i := 110) rfl) rfl, ⟨am_gm (List.mem_of_getElem? (i := 1649) rfl) rfl, am_gm (List.mem_of_getElem? (i := 85) rfl) rfl, by decide +kernel⟩⟩
set_option maxRecDepth 100000 in
theorem am_g252 : am_good 252 am_m252 := ⟨10, by decide, rfl, rfl, by decide +kernel, rfl, by decide +kernel, am_gm (List.mem_of_getElem? (i := 1654) rfl) rfl, am_gm (List.mem_of_getElem? (i := 110) rfl) rfl, ⟨am_gm (List.mem_of_getElem? (i := 1653) rfl) rfl, am_gm (List.mem_of_getElem? (i := 86) rfl) rfl, by decide +kernel⟩⟩
set_option maxRecDepth 100000 in
theorem am_g253 : am_good 253 am_m253 := ⟨10, by decide, rfl, rfl, by decide +kernel, rfl, by decide +kernel, am_gm (List.mem_of_getElem? (i := 1658) rfl) rfl, am_gm (List.mem_of_getElem? (i := 110) rfl) rfl, ⟨am_gm (List.mem_of_getElem? (i := 1656) rfl) rfl, am_gm (List.mem_of_getElem? (i := 1657) rfl) rfl, by decide +kernel⟩⟩
set_option maxRecDepth 100000 in
theorem am_g254 : am_good 254 am_m254 := ⟨10, by decide, rfl, rfl, by decide +kernel, rfl, by decide +kernel, am_gm (List.mem_of_getElem? (i := 1661) rfl) rfl, am_gm (List.mem_of_getElem? (i := 110) rfl) rfl, ⟨am_gm (List.mem_of_getElem? (i := 1660) rfl) rfl, by decide +kernel⟩⟩
set_option maxRecDepth 100000 in
theorem am_g255 : am_good 255 am_m255 := ⟨10, by decide, rfl, rfl, by decide +kernel, rfl, by decide +kernel, am_gm (List.mem_of_getElem? (i := 1665) rfl) rfl, am_gm (List.mem_of_getElem? (i := 110) rfl) rfl, ⟨am_gm (List.mem_of_getElem? (i := 1664) rfl) rfl, am_gm (List.mem_of_getElem? (i := 87) rfl) rfl, by decide +kernel⟩⟩
set_option maxRecDepth 100000 in
theorem am_g256 : am_good 256 am_m256 := ⟨10, by decide, rfl, rfl, by decide +kernel, rfl, by decide +kernel, am_gm (List.mem_of_getElem? (i := 1669) rfl) rfl, am_gm (List.mem_of_getElem? (i := 110) rfl) rfl, ⟨am_gm (List.mem_of_getElem? (i := 1667) rfl) rfl, am_gm (List.mem_of_getElem? (i := 1668) rfl) rfl, by decide +kernel⟩⟩
set_option maxRecDepth 100000 in
theorem am_g257 : am_good 257 am_m257 := ⟨10, by decide, rfl, rfl, by decide +kernel, rfl, by decide +kernel, am_gm (List.mem_of_getElem? (i := 1673) rfl) rfl, am_gm (List.mem_of_getElem? (i := 110) rfl) rfl, ⟨am_gm (List.mem_of_getElem? (i := 1671) rfl) rfl, am_gm (List.mem_of_getElem? (i := 1672) rfl) rfl, by decide +kernel⟩⟩
set_option maxRecDepth 100000 in
theorem am_g258 : am_good 258 am_m258 := ⟨10, by decide, rfl, rfl, by decide +kernel, rfl, by decide +kernel, am_gm (List.mem_of_getElem? (i := 1677) rfl) rfl, am_gm (List.mem_of_getElem? (i := 110) rfl) rfl, ⟨am_gm (List.mem_of_getElem? (i := 1676) rfl) rfl, am_gm (List.mem_of_getElem? (i := 88) rfl) rfl, by decide +kernel⟩⟩
set_option maxRecDepth 100000 in
theorem am_g259 : am_good 259 am_m259 := ⟨10, by decide, rfl, rfl, by decide +kernel, rfl, by decide +kernel, am_gm (List.mem_of_getElem? (i := 1681) rfl) rfl, am_gm (List.mem_of_getElem? (i := 110) rfl) rfl, ⟨am_gm (List.mem_of_getElem? (i := 1680) rfl) rfl, am_gm (List.mem_of_getElem? (i := 89) rfl) rfl, by decide +kernel⟩⟩
set_option maxRecDepth 100000 in
theorem am_g260 : am_good 260 am_m260 := ⟨10, by decide, rfl, rfl, by decide +kernel, rfl, by decide +kernel, am_gm (List.mem_of_getElem? (i := 1685) rfl) rfl, am_gm (List.mem_of_getElem? (i := 110) rfl) rfl, ⟨am_gm (List.mem_of_getElem? (i := 1684) rfl) rfl, am_gm (List.mem_of_getElem? (i := 90) rfl) rfl, by decide +kernel⟩⟩
set_option maxRecDepth 100000 in
theorem am_g261 : am_good 261 am_m261 := ⟨10, by decide, rfl, rfl, by decide +kernel, rfl, by decide +kernel, am_gm (List.mem_of_getElem? (i := 1689) rfl) rfl, am_gm (List.mem_of_getElem? (i := 110) rfl) rfl, ⟨am_gm (List.mem_of_getElem? (i := 1688) rfl) rfl, am_gm (List.mem_of_getElem? (i := 91) rfl) rfl, by decide +kernel⟩⟩
set_option maxRecDepth 100000 in
theorem am_g262 : am_good 262 am_m262 := ⟨10, by decide, rfl, rfl, by decide +kernel, rfl, by decide +kernel, am_gm (List.mem_of_getElem? (i := 1693) rfl) rfl, am_gm (List.mem_of_getElem? (i := 110) rfl) rfl, ⟨am_gm (List.mem_of_getElem? (i := 1691) rfl) rfl, am_gm (List.mem_of_getElem? (i := 1692) rfl) rfl, by decide +kernel⟩⟩
set_option maxRecDepth 100000 in
theorem am_g263 : am_good 263 am_m263 := ⟨10, by decide, rfl, rfl, by decide +kernel, rfl, by decide +kernel, am_gm (List.mem_of_getElem? (i := 1697) rfl) rfl, am_gm (List.mem_of_getElem? (i := 110) rfl) rfl, ⟨am_gm (List.mem_of_getElem? (i := 1696) rfl) rfl, am_gm (List.mem_of_getElem? (i := 92) rfl) rfl, by decide +kernel⟩⟩
set_option maxRecDepth 100000 in
theorem am_g264 : am_good 264 am_m264 := ⟨10, by decide, rfl, rfl, by decide +kernel, rfl, by decide +kernel, am_gm (List.mem_of_getElem? (i := 1701) rfl) rfl, am_gm (List.mem_of_getElem? (i := 110) rfl) rfl, ⟨am_gm (List.mem_of_getElem? (i := 1699) rfl) rfl, am_gm (List.mem_of_getElem? (i := 1700) rfl) rfl, by decide +kernel⟩⟩
set_option maxRecDepth 100000 in
theorem am_g265 : am_good 265 am_m265 := ⟨10, by decide, rfl, rfl, by decide +kernel, rfl, by decide +kernel, am_gm (List.mem_of_getElem? (i := 1705) rfl) rfl, am_gm (List.mem_of_getElem? (i := 110) rfl) rfl, ⟨am_gm (List.mem_of_getElem? (i := 1703) rfl) rfl, am_gm (List.mem_of_getElem? (i := 1704) rfl) rfl, by decide +kernel⟩⟩
set_option maxRecDepth 100000 in
theorem am_g266 : am_good 266 am_m266 := ⟨10, by decide, rfl, rfl, by decide +kernel, rfl, by decide +kernel, am_gm (List.mem_of_getElem? (i := 1709) rfl) rfl, am_gm (List.mem_of_getElem? (i := 110) rfl) rfl, ⟨am_gm (List.mem_of_getElem? (i := 1708) rfl) rfl, am_gm (List.mem_of_getElem? (i := 93) rfl) rfl, by decide +kernel⟩⟩
set_option maxRecDepth 100000 in
theorem am_g267 : am_good 267 am_m267 := ⟨10, by decide, rfl, rfl, by decide +kernel, rfl, by decide +kernel, am_gm (List.mem_of_getElem? (i := 1713) rfl) rfl, am_gm (List.mem_of_getElem? (i := 110) rfl) rfl, ⟨am_gm (List.mem_of_getElem? (i := 1711) rfl) rfl, am_gm (List.mem_of_getElem? (i := 1712) rfl) rfl, by decide +kernel⟩⟩
set_option maxRecDepth 100000 in
theorem am_g268 : am_good 268 am_m268 := ⟨10, by decide, rfl, rfl, by decide +kernel, rfl, by decide +kernel, am_gm (List.mem_of_getElem? (i := 1717) rfl) rfl, am_gm (List.mem_of_getElem? (i := 110) rfl) rfl, ⟨am_gm (List.mem_of_getElem? (i := 1715) rfl) rfl, am_gm (List.mem_of_getElem? (i := 1716) rfl) rfl, by decide +kernel⟩⟩
set_option maxRecDepth 100000 in
theorem am_g269 : am_good 269 am_m269 := ⟨10, by decide, rfl, rfl, by decide +kernel, rfl, by decide +kernel, am_gm (List.mem_of_getElem? (i := 1721) rfl) rfl, am_gm (List.mem_of_getElem? (i := 110) rfl) rfl, ⟨am_gm (List.mem_of_getElem? (i := 1719) rfl) rfl, am_gm (List.mem_of_getElem? (i := 1720) rfl) rfl, by decide +kernel⟩⟩
set_option maxRecDepth 100000 in
theorem am_g270 : am_good 270 am_m270 := ⟨10, by decide, rfl, rfl, by decide +kernel, rfl, by decide +kernel, am_gm (List.mem_of_getElem? (i := 1725) rfl) rfl, am_gm (List.mem_of_getElem? (i := 110) rfl) rfl, ⟨am_gm (List.mem_of_getElem? (i := 1723) rfl) rfl, am_gm (List.mem_of_getElem? (i := 1724) rfl) rfl, by decide +kernel⟩⟩
set_option maxRecDepth 100000 in
theorem am_g271 : am_good 271 am_m271 := ⟨10, by decide, rfl, rfl, by decide +kernel, rfl, by decide +kernel, am_gm (List.mem_of_getElem? (i := 1729) rfl) rfl, am_gm (List.mem_of_getElem? (i := 110) rfl) rfl, ⟨am_gm (List.mem_of_getElem? (i := 1728) rfl) rfl, am_gm (List.mem_of_getElem? (i := 94) rfl) rfl, by decide +kernel⟩⟩
set_option maxRecDepth 100000 in
theorem am_g272 : am_good 272 am_m272 := ⟨10, by decide, rfl, rfl, by decide +kernel, rfl, by decide +kernel, am_gm (List.mem_of_getElem? (i := 1733) rfl) rfl, am_gm (List.mem_of_getElem? (i := 110) rfl) rfl, ⟨am_gm (List.mem_of_getElem? (i := 1731) rfl) rfl, am_gm (List.mem_of_getElem? (i := 1732) rfl) rfl, by decide +kernel⟩⟩
set_option maxRecDepth 100000 in
theorem am_g273 : am_good 273 am_m273 := ⟨10, by decide, rfl, rfl, by decide +kernel, rfl, by decide +kernel, am_gm (List.mem_of_getElem? (i := 1737) rfl) rfl, am_gm (List.mem_of_getElem? (i := 110) rfl) rfl, ⟨am_gm (List.mem_of_getElem? (i := 1735) rfl) rfl, am_gm (List.mem_of_getElem? (i := 1736) rfl) rfl, by decide +kernel⟩⟩
set_option maxRecDepth 100000 in
theorem am_g274 : am_good 274 am_m274 := ⟨10, by decide, rfl, rfl, by decide +kernel, rfl, by decide +kernel, am_gm (List.mem_of_getElem? (i := 1741) rfl) rfl, am_gm (List.mem_of_getElem? (i := 110) rfl) rfl, ⟨am_gm (List.mem_of_getElem? (i := 1739) rfl) rfl, am_gm (List.mem_of_getElem? (i := 1740) rfl) rfl, by decide +kernel⟩⟩
set_option maxRecDepth 100000 in
theorem am_g275 : am_good 275 am_m275 := ⟨10, by decide, rfl, rfl, by decide +kernel, rfl, by decide +kernel, am_gm (List.mem_of_getElem? (i := 1746) rfl) rfl, am_gm (List.mem_of_getElem? (i := 110) rfl) rfl, ⟨am_gm (List.mem_of_getElem? (i := 1745) rfl) rfl, am_gm (List.mem_of_getElem? (i := 95) rfl) rfl, by decide +kernel⟩⟩
set_option maxRecDepth 100000 in
theorem am_g276 : am_good 276 am_m276 := ⟨10, by decide, rfl, rfl, by decide +kernel, rfl, by decide +kernel, am_gm (List.mem_of_getElem? (i := 1751) rfl) rfl, am_gm (List.mem_of_getElem? (i := 110) rfl) rfl, ⟨am_gm (List.mem_of_getElem? (i := 1750) rfl) rfl, am_gm (List.mem_of_getElem? (i := 96) rfl) rfl, by decide +kernel⟩⟩
set_option maxRecDepth 100000 in
theorem am_gall : ∀ (j : Nat) (m : am_M), am_meths[j]? = some m → j ≠ 0 → am_good j m := by
  intro j m h hj
  match j with
  | 0 => exact absurd rfl hj
  | 1 => cases h; exact am_g1
  | 2 => cases h; exact am_g2
  | 3 => cases h; exact am_g3
  | 4 => cases h; exact am_g4
  | 5 => cases h; exact am_g5
  | 6 => cases h; exact am_g6
  | 7 => cases h; exact am_g7
  | 8 => cases h; exact am_g8
  | 9 => cases h; exact am_g9
  | 10 => cases h; exact am_g10
  | 11 => cases h; exact am_g11
  | 12 => cases h; exact am_g12
  | 13 => cases h; exact am_g13
  | 14 => cases h; exact am_g14
  | 15 => cases h; exact am_g15
  | 16 => cases h; exact am_g16
  | 17 => cases h; exact am_g17
  | 18 => cases h; exact am_g18
  | 19 => cases h; exact am_g19
  | 20 => cases h; exact am_g20
  | 21 => cases h; exact am_g21
  | 22 => cases h; exact am_g22
  | 23 => cases h; exact am_g23
  | 24 => cases h; exact am_g24
  | 25 => cases h; exact am_g25
  | 26 => cases h; exact am_g26
  | 27 => cases h; exact am_g27
  | 28 => cases h; exact am_g28
  | 29 => cases h; exact am_g29
  | 30 => cases h; exact am_g30
  | 31 => cases h; exact am_g31
  | 32 => cases h; exact am_g32
  | 33 => cases h; exact am_g33
  | 34 => cases h; exact am_g34
  | 35 => cases h; exact am_g35
  | 36 => cases h; exact am_g36
  | 37 => cases h; exact am_g37
  | 38 => cases h; exact am_g38
  | 39 => cases h; exact am_g39
  | 40 => cases h; exact am_g40
  | 41 => cases h; exact am_g41
  | 42 => cases h; exact am_g42
  | 43 => cases h; exact am_g43
  | 44 => cases h; exact am_g44
  | 45 => cases h; exact am_g45
  | 46 => cases h; exact am_g46
  | 47 => cases h; exact am_g47
  | 48 => cases h; exact am_g48
  | 49 => cases h; exact am_g49
  | 50 => cases h; exact am_g50
  | 51 => cases h; exact am_g51
  | 52 => cases h; exact am_g52
  | 53 => cases h; exact am_g53
  | 54 => cases h; exact am_g54
  | 55 => cases h; exact am_g55
  | 56 => cases h; exact am_g56
  | 57 => cases h; exact am_g57
  | 58 => cases h; exact am_g58
  | 59 => cases h; exact am_g59
  | 60 => cases h; exact am_g60
  | 61 => cases h; exact am_g61
  | 62 => cases h; exact am_g62
  | 63 => cases h; exact am_g63
  | 64 => cases h; exact am_g64
  | 65 => cases h; exact am_g65
  | 66 => cases h; exact am_g66
  | 67 => cases h; exact am_g67
  | 68 => cases h; exact am_g68
  | 69 => cases h; exact am_g69
  | 70 => cases h; exact am_g70
  | 71 => cases h; exact am_g71
  | 72 => cases h; exact am_g72
  | 73 => cases h; exact am_g73
  | 74 => cases h; exact am_g74
  | 75 => cases h; exact am_g75
  | 76 => cases h; exact am_g76
  | 77 => cases h; exact am_g77
  | 78 => cases h; exact am_g78
  | 79 => cases h; exact am_g79
  | 80 => cases h; exact am_g80
  | 81 => cases h; exact am_g81
  | 82 => cases h; exact am_g82
  | 83 => cases h; exact am_g83
  | 84 => cases h; exact am_g84
  | 85 => cases h; exact am_g85
  | 86 => cases h; exact am_g86
  | 87 => cases h; exact am_g87
  | 88 => cases h; exact am_g88
  | 89 => cases h; exact am_g89
  | 90 => cases h; exact am_g90
  | 91 => cases h; exact am_g91
  | 92 => cases h; exact am_g92
  | 93 => cases h; exact am_g93
  | 94 => cases h; exact am_g94
  | 95 => cases h; exact am_g95
  | 96 => cases h; exact am_g96
  | 97 => cases h; exact am_g97
  | 98 => cases h; exact am_g98
  | 99 => cases h; exact am_g99
  | 100 => cases h; exact am_g100
  | 101 => cases h; exact am_g101
  | 102 => cases h; exact am_g102
  | 103 => cases h; exact am_g103
  | 104 => cases h; exact am_g104
  | 105 => cases h; exact am_g105
  | 106 => cases h; exact am_g106
  | 107 => cases h; exact am_g107
  | 108 => cases h; exact am_g108
  | 109 => cases h; exact am_g109
  | 110 => cases h; exact am_g110
  | 111 => cases h; exact am_g111
  | 112 => cases h; exact am_g112
  | 113 => cases h; exact am_g113
  | 114 => cases h; exact am_g114
  | 115 => cases h; exact am_g115
  | 116 => cases h; exact am_g116
  | 117 => cases h; exact am_g117
  | 118 => cases h; exact am_g118
  | 119 => cases h; exact am_g119
  | 120 => cases h; exact am_g120
  | 121 => cases h; exact am_g121
  | 122 => cases h; exact am_g122
  | 123 => cases h; exact am_g123
  | 124 => cases h; exact am_g124
  | 125 => cases h; exact am_g125
  | 126 => cases h; exact am_g126
  | 127 => cases h; exact am_g127
  | 128 => cases h; exact am_g128
  | 129 => cases h; exact am_g129
  | 130 => cases h; exact am_g130
  | 131 => cases h; exact am_g131
  | 132 => cases h; exact am_g132
  | 133 => cases h; exact am_g133
  | 134 => cases h; exact am_g134
  | 135 => cases h; exact am_g135
  | 136 => cases h; exact am_g136
  | 137 => cases h; exact am_g137
  | 138 => cases h; exact am_g138
  | 139 => cases h; exact am_g139
  | 140 => cases h; exact am_g140
  | 141 => cases h; exact am_g141
  | 142 => cases h; exact am_g142
  | 143 => cases h; exact am_g143
  | 144 => cases h; exact am_g144
  | 145 => cases h; exact am_g145
  | 146 => cases h; exact am_g146
  | 147 => cases h; exact am_g147
  | 148 => cases h; exact am_g148
  | 149 => cases h; exact am_g149
  | 150 => cases h; exact am_g150
  | 151 => cases h; exact am_g151
  | 152 => cases h; exact am_g152
  | 153 => cases h; exact am_g153
  | 154 => cases h; exact am_g154
  | 155 => cases h; exact am_g155
  | 156 => cases h; exact am_g156
  | 157 => cases h; exact am_g157
  | 158 => cases h; exact am_g158
  | 159 => cases h; exact am_g159
  | 160 => cases h; exact am_g160
  | 161 => cases h; exact am_g161
  | 162 => cases h; exact am_g162
  | 163 => cases h; exact am_g163
  | 164 => cases h; exact am_g164
  | 165 => cases h; exact am_g165
  | 166 => cases h; exact am_g166
  | 167 => cases h; exact am_g167
  | 168 => cases h; exact am_g168
  | 169 => cases h; exact am_g169
  | 170 => cases h; exact am_g170
  | 171 => cases h; exact am_g171
  | 172 => cases h; exact am_g172
  | 173 => cases h; exact am_g173
  | 174 => cases h; exact am_g174
  | 175 => cases h; exact am_g175
  | 176 => cases h; exact am_g176
  | 177 => cases h; exact am_g177
  | 178 => cases h; exact am_g178
  | 179 => cases h; exact am_g179
  | 180 => cases h; exact am_g180
  | 181 => cases h; exact am_g181
  | 182 => cases h; exact am_g182
  | 183 => cases h; exact am_g183
  | 184 => cases h; exact am_g184
  | 185 => cases h; exact am_g185
  | 186 => cases h; exact am_g186
  | 187 => cases h; exact am_g187
  | 188 => cases h; exact am_g188
  | 189 => cases h; exact am_g189
  | 190 => cases h; exact am_g190
  | 191 => cases h; exact am_g191
  | 192 => cases h; exact am_g192
  | 193 => cases h; exact am_g193
  | 194 => cases h; exact am_g194
  | 195 => cases h; exact am_g195
  | 196 => cases h; exact am_g196
  | 197 => cases h; exact am_g197
  | 198 => cases h; exact am_g198
  | 199 => cases h; exact am_g199
  | 200 => cases h; exact am_g200
  | 201 => cases h; exact am_g201
  | 202 => cases h; exact am_g202
  | 203 => cases h; exact am_g203
  | 204 => cases h; exact am_g204
  | 205 => cases h; exact am_g205
  | 206 => cases h; exact am_g206
  | 207 => cases h; exact am_g207
  | 208 => cases h; exact am_g208
  | 209 => cases h; exact am_g209
  | 210 => cases h; exact am_g210
  | 211 => cases h; exact am_g211
  | 212 => cases h; exact am_g212
  | 213 => cases h; exact am_g213
  | 214 => cases h; exact am_g214
  | 215 => cases h; exact am_g215
  | 216 => cases h; exact am_g216
  | 217 => cases h; exact am_g217
  | 218 => cases h; exact am_g218
  | 219 => cases h; exact am_g219
  | 220 => cases h; exact am_g220
  | 221 => cases h; exact am_g221
  | 222 => cases h; exact am_g222
  | 223 => cases h; exact am_g223
  | 224 => cases h; exact am_g224
  | 225 => cases h; exact am_g225
  | 226 => cases h; exact am_g226
  | 227 => cases h; exact am_g227
  | 228 => cases h; exact am_g228
  | 229 => cases h; exact am_g229
  | 230 => cases h; exact am_g230
  | 231 => cases h; exact am_g231
  | 232 => cases h; exact am_g232
  | 233 => cases h; exact am_g233
  | 234 => cases h; exact am_g234
  | 235 => cases h; exact am_g235
  | 236 => cases h; exact am_g236
  | 237 => cases h; exact am_g237
  | 238 => cases h; exact am_g238
  | 239 => cases h; exact am_g239
  | 240 => cases h; exact am_g240
  | 241 => cases h; exact am_g241
  | 242 => cases h; exact am_g242
  | 243 => cases h; exact am_g243
  | 244 => cases h; exact am_g244
  | 245 => cases h; exact am_g245
  | 246 => cases h; exact am_g246
  | 247 => cases h; exact am_g247
  | 248 => cases h; exact am_g248
  | 249 => cases h; exact am_g249
  | 250 => cases h; exact am_g250
  | 251 => cases h; exact am_g251
  | 252 => cases h; exact am_g252
  | 253 => cases h; exact am_g253
  | 254 => cases h; exact am_g254
  | 255 => cases h; exact am_g255
  | 256 => cases h; exact am_g256
  | 257 => cases h; exact am_g257
  | 258 => cases h; exact am_g258
  | 259 => cases h; exact am_g259
  | 260 => cases h; exact am_g260
  | 261 => cases h; exact am_g261
  | 262 => cases h; exact am_g262
  | 263 => cases h; exact am_g263
  | 264 => cases h; exact am_g264
  | 265 => cases h; exact am_g265
  | 266 => cases h; exact am_g266
  | 267 => cases h; exact am_g267
  | 268 => cases h; exact am_g268
  | 269 => cases h; exact am_g269
  | 270 => cases h; exact am_g270
  | 271 => cases h; exact am_g271
  | 272 => cases h; exact am_g272
  | 273 => cases h; exact am_g273
  | 274 => cases h; exact am_g274
  | 275 => cases h; exact am_g275
  | 276 => cases h; exact am_g276
  | j + 277 => simp [am_meths] at h
