theorem wF_X11_112 : Cond.fieldLink RX11 112 "RankedRingModel" "gotNow" "I" ∈ wsL_law := h_inT 1228 (by decide +kernel) rfl
theorem wF_X11_13 : Cond.fieldLink RX11 13 "RankedRingModel" "tape" "[B" ∈ wsL_law := h_inT 1232 (by decide +kernel) rfl
theorem wF_X11_143 : Cond.fieldLink RX11 143 "RankedRingModel" "offNow" "I" ∈ wsL_law := h_inT 1229 (by decide +kernel) rfl
theorem wF_X11_168 : Cond.fieldLink RX11 168 "RankedRingModel" "taped" "I" ∈ wsL_law := h_inT 1235 (by decide +kernel) rfl
theorem wF_X11_17 : Cond.fieldLink RX11 17 "RankedRingModel" "text" "[B" ∈ wsL_law := h_inT 1233 (by decide +kernel) rfl
theorem wF_X11_174 : Cond.fieldLink RX11 174 "RankedRingModel" "size" "I" ∈ wsL_law := h_inT 1236 (by decide +kernel) rfl
theorem wF_X11_177 : Cond.fieldLink RX11 177 "RankedRingModel" "end" "I" ∈ wsL_law := h_inT 1239 (by decide +kernel) rfl
theorem wF_X11_183 : Cond.fieldLink RX11 183 "RankedRingModel" "from" "I" ∈ wsL_law := h_inT 1238 (by decide +kernel) rfl
theorem wF_X11_186 : Cond.fieldLink RX11 186 "RankedRingModel" "token" "I" ∈ wsL_law := h_inT 1237 (by decide +kernel) rfl
theorem wF_X11_195 : Cond.fieldLink RX11 195 "RankedRingModel" "value" "I" ∈ wsL_law := h_inT 1240 (by decide +kernel) rfl
theorem wF_X11_20 : Cond.fieldLink RX11 20 "RankedRingModel" "names" "[J" ∈ wsL_law := h_inT 1234 (by decide +kernel) rfl
theorem wF_X11_213 : Cond.fieldLink RX11 213 "RankedRingModel" "faults" "I" ∈ wsL_law := h_inT 1241 (by decide +kernel) rfl
theorem wF_X11_24 : Cond.fieldLink RX11 24 "RankedRingModel" "faultPlace" "I" ∈ wsL_law := h_inT 1242 (by decide +kernel) rfl
theorem wF_X11_28 : Cond.fieldLink RX11 28 "RankedRingModel" "faultKind" "I" ∈ wsL_law := h_inT 1243 (by decide +kernel) rfl
theorem wF_X11_285 : Cond.fieldLink RX11 285 "RankedRingModel" "marks" "I" ∈ wsL_law := h_inT 1227 (by decide +kernel) rfl
theorem wF_X11_300 : Cond.fieldLink RX11 300 "RankedRingModel" "drawn" "I" ∈ wsL_law := h_inT 1244 (by decide +kernel) rfl
theorem wF_X11_31 : Cond.fieldLink RX11 31 "RankedRingModel" "asked" "[I" ∈ wsL_law := h_inT 1246 (by decide +kernel) rfl
theorem wF_X11_316 : Cond.fieldLink RX11 316 "RankedRingModel" "peakLevel" "I" ∈ wsL_law := h_inT 1245 (by decide +kernel) rfl
theorem wF_X11_34 : Cond.fieldLink RX11 34 "RankedRingModel" "askedAt" "[I" ∈ wsL_law := h_inT 1247 (by decide +kernel) rfl
theorem wF_X11_40 : Cond.fieldLink RX11 40 "RankedRingModel" "status" "I" ∈ wsL_law := h_inT 1226 (by decide +kernel) rfl
theorem wF_X11_7 : Cond.fieldLink RX11 7 "RankedRingModel" "all" "[I" ∈ wsL_law := h_inT 1225 (by decide +kernel) rfl
theorem wF_X11_82 : Cond.fieldLink RX11 82 "RankedRingModel" "purgedNow" "Z" ∈ wsL_law := h_inT 1230 (by decide +kernel) rfl
theorem wF_X11_94 : Cond.fieldLink RX11 94 "RankedRingModel" "plain" "Z" ∈ wsL_law := h_inT 1231 (by decide +kernel) rfl
theorem inX11 : ∀ w ∈ u_ws RX11 TX11 23, w ∈ wsL_law := h_places [1248, 1250, 1252, 1254, 1256, 1258, 1260, 1262, 1264, 1266, 1268, 1270, 1272, 1274, 1276, 1278, 1280, 1282, 1284, 1286, 1288, 1290, 1292] (by decide +kernel) (by decide +kernel)
theorem wL_X11_100 : Cond.methodLink RX11 100 yX11_topRaise ∈ wsL_law := h_inT 1626 (by decide +kernel) rfl
theorem wL_X11_103 : Cond.methodLink RX11 103 yX11_isLevel ∈ wsL_law := h_inT 1630 (by decide +kernel) rfl
theorem wL_X11_106 : Cond.methodLink RX11 106 yX11_wishes ∈ wsL_law := h_inT 1639 (by decide +kernel) rfl
theorem wL_X11_109 : Cond.methodLink RX11 109 yX11_takes ∈ wsL_law := h_inT 1530 (by decide +kernel) rfl
theorem wL_X11_115 : Cond.methodLink RX11 115 yX11_isGot ∈ wsL_law := h_inT 1651 (by decide +kernel) rfl
theorem wL_X11_118 : Cond.methodLink RX11 118 yX11_comesHome ∈ wsL_law := h_inT 1647 (by decide +kernel) rfl
theorem wL_X11_121 : Cond.methodLink RX11 121 yX11_nextOn ∈ wsL_law := h_inT 1602 (by decide +kernel) rfl
theorem wL_X11_124 : Cond.methodLink RX11 124 yX11_isBroken ∈ wsL_law := h_inT 1498 (by decide +kernel) rfl
theorem wL_X11_128 : Cond.methodLink RX11 128 yX11_isSilent ∈ wsL_law := h_inT 1518 (by decide +kernel) rfl
theorem wL_X11_131 : Cond.methodLink RX11 131 yX11_purges ∈ wsL_law := h_inT 1606 (by decide +kernel) rfl
theorem wL_X11_134 : Cond.methodLink RX11 134 yX11_tokenAt ∈ wsL_law := h_inT 1622 (by decide +kernel) rfl
theorem wL_X11_137 : Cond.methodLink RX11 137 yX11_frameAt ∈ wsL_law := h_inT 1643 (by decide +kernel) rfl
theorem wL_X11_140 : Cond.methodLink RX11 140 yX11_turnsOff ∈ wsL_law := h_inT 1546 (by decide +kernel) rfl
theorem wL_X11_146 : Cond.methodLink RX11 146 yX11_heirNow ∈ wsL_law := h_inT 1506 (by decide +kernel) rfl
theorem wL_X11_150 : Cond.methodLink RX11 150 yX11_onMany ∈ wsL_law := h_inT 1594 (by decide +kernel) rfl
theorem wL_X11_153 : Cond.methodLink RX11 153 yX11_beacons ∈ wsL_law := h_inT 1598 (by decide +kernel) rfl
theorem wL_X11_156 : Cond.methodLink RX11 156 yX11_claims ∈ wsL_law := h_inT 1610 (by decide +kernel) rfl
theorem wL_X11_159 : Cond.methodLink RX11 159 yX11_isBlamed ∈ wsL_law := h_inT 1614 (by decide +kernel) rfl
theorem wL_X11_162 : Cond.methodLink RX11 162 yX11_isStill ∈ wsL_law := h_inT 1590 (by decide +kernel) rfl
theorem wL_X11_165 : Cond.methodLink RX11 165 yX11_goesOn ∈ wsL_law := h_inT 1618 (by decide +kernel) rfl
theorem wL_X11_171 : Cond.methodLink RX11 171 yX11_four ∈ wsL_law := h_inT 1304 (by decide +kernel) rfl
theorem wL_X11_180 : Cond.methodLink RX11 180 yX11_byteAt ∈ wsL_law := h_inT 1327 (by decide +kernel) rfl
theorem wL_X11_189 : Cond.methodLink RX11 189 yX11_isSmall ∈ wsL_law := h_inT 1331 (by decide +kernel) rfl
theorem wL_X11_192 : Cond.methodLink RX11 192 yX11_isDigit ∈ wsL_law := h_inT 1334 (by decide +kernel) rfl
theorem wL_X11_199 : Cond.methodLink RX11 199 yJ9_min_7cf53 ∈ wsL_law := h_inT 1338 (by decide +kernel) rfl
theorem wL_X11_204 : Cond.methodLink RX11 204 yJ0_length_8abf5 ∈ wsL_law := h_inT 1350 (by decide +kernel) rfl
theorem wL_X11_209 : Cond.methodLink RX11 209 yJ0_charAt_5068e ∈ wsL_law := h_inT 1351 (by decide +kernel) rfl
theorem wL_X11_216 : Cond.methodLink RX11 216 yX11_key ∈ wsL_law := h_inT 1345 (by decide +kernel) rfl
theorem wL_X11_219 : Cond.methodLink RX11 219 yX11_isName ∈ wsL_law := h_inT 1364 (by decide +kernel) rfl
theorem wL_X11_222 : Cond.methodLink RX11 222 yX11_fails ∈ wsL_law := h_inT 1360 (by decide +kernel) rfl
theorem wL_X11_225 : Cond.methodLink RX11 225 yX11_namedHere ∈ wsL_law := h_inT 1368 (by decide +kernel) rfl
theorem wL_X11_228 : Cond.methodLink RX11 228 yX11_isFrom ∈ wsL_law := h_inT 1312 (by decide +kernel) rfl
theorem wL_X11_232 : Cond.methodLink RX11 232 yX11_ahead ∈ wsL_law := h_inT 1323 (by decide +kernel) rfl
theorem wL_X11_235 : Cond.methodLink RX11 235 yX11_isNumber ∈ wsL_law := h_inT 1372 (by decide +kernel) rfl
theorem wL_X11_238 : Cond.methodLink RX11 238 yX11_isTaken ∈ wsL_law := h_inT 1376 (by decide +kernel) rfl
theorem wL_X11_241 : Cond.methodLink RX11 241 yX11_comes ∈ wsL_law := h_inT 1380 (by decide +kernel) rfl
theorem wL_X11_244 : Cond.methodLink RX11 244 yX11_stationHere ∈ wsL_law := h_inT 1396 (by decide +kernel) rfl
theorem wL_X11_247 : Cond.methodLink RX11 247 yX11_sends ∈ wsL_law := h_inT 1412 (by decide +kernel) rfl
theorem wL_X11_251 : Cond.methodLink RX11 251 yX11_aStation ∈ wsL_law := h_inT 1352 (by decide +kernel) rfl
theorem wL_X11_254 : Cond.methodLink RX11 254 yX11_closes ∈ wsL_law := h_inT 1388 (by decide +kernel) rfl
theorem wL_X11_257 : Cond.methodLink RX11 257 yX11_aState ∈ wsL_law := h_inT 1392 (by decide +kernel) rfl
theorem wL_X11_261 : Cond.methodLink RX11 261 yX11_aSend ∈ wsL_law := h_inT 1408 (by decide +kernel) rfl
theorem wL_X11_264 : Cond.methodLink RX11 264 yX11_aBreak ∈ wsL_law := h_inT 1419 (by decide +kernel) rfl
theorem wL_X11_267 : Cond.methodLink RX11 267 yX11_refuse ∈ wsL_law := h_inT 1315 (by decide +kernel) rfl
theorem wL_X11_270 : Cond.methodLink RX11 270 yX11_copies ∈ wsL_law := h_inT 1319 (by decide +kernel) rfl
theorem wL_X11_273 : Cond.methodLink RX11 273 yX11_aLine ∈ wsL_law := h_inT 1341 (by decide +kernel) rfl
theorem wL_X11_276 : Cond.methodLink RX11 276 yX11_gives ∈ wsL_law := h_inT 1423 (by decide +kernel) rfl
theorem wL_X11_279 : Cond.methodLink RX11 279 yX11_onBits ∈ wsL_law := h_inT 1435 (by decide +kernel) rfl
theorem wL_X11_282 : Cond.methodLink RX11 282 yX11_waitAll ∈ wsL_law := h_inT 1439 (by decide +kernel) rfl
theorem wL_X11_288 : Cond.methodLink RX11 288 yX11_wrongStation ∈ wsL_law := h_inT 1451 (by decide +kernel) rfl
theorem wL_X11_291 : Cond.methodLink RX11 291 yX11_isAnew ∈ wsL_law := h_inT 1514 (by decide +kernel) rfl
theorem wL_X11_294 : Cond.methodLink RX11 294 yX11_isSo ∈ wsL_law := h_inT 1542 (by decide +kernel) rfl
theorem wL_X11_297 : Cond.methodLink RX11 297 yX11_ticks ∈ wsL_law := h_inT 1586 (by decide +kernel) rfl
theorem wL_X11_304 : Cond.methodLink RX11 304 yX11_drawBy ∈ wsL_law := h_inT 1663 (by decide +kernel) rfl
theorem wL_X11_307 : Cond.methodLink RX11 307 yX11_draws ∈ wsL_law := h_inT 1659 (by decide +kernel) rfl
theorem wL_X11_310 : Cond.methodLink RX11 310 yX11_isQuiet ∈ wsL_law := h_inT 1704 (by decide +kernel) rfl
theorem wL_X11_313 : Cond.methodLink RX11 313 yX11_isLowered ∈ wsL_law := h_inT 1708 (by decide +kernel) rfl
theorem wL_X11_319 : Cond.methodLink RX11 319 yX11_peaks ∈ wsL_law := h_inT 1696 (by decide +kernel) rfl
theorem wL_X11_322 : Cond.methodLink RX11 322 yX11_onPaper ∈ wsL_law := h_inT 1692 (by decide +kernel) rfl
theorem wL_X11_326 : Cond.methodLink RX11 326 yX11_isReached ∈ wsL_law := h_inT 1700 (by decide +kernel) rfl
theorem wL_X11_329 : Cond.methodLink RX11 329 yX11_offPaper ∈ wsL_law := h_inT 1712 (by decide +kernel) rfl
theorem wL_X11_332 : Cond.methodLink RX11 332 yX11_reaches ∈ wsL_law := h_inT 1688 (by decide +kernel) rfl
theorem wL_X11_336 : Cond.methodLink RX11 336 yX11_givesOr ∈ wsL_law := h_inT 1716 (by decide +kernel) rfl
theorem wL_X11_339 : Cond.methodLink RX11 339 yX11_waiting ∈ wsL_law := h_inT 1724 (by decide +kernel) rfl
theorem wL_X11_342 : Cond.methodLink RX11 342 yX11_lives ∈ wsL_law := h_inT 1728 (by decide +kernel) rfl
theorem wL_X11_37 : Cond.methodLink RX11 37 yX11_begins ∈ wsL_law := h_inT 1217 (by decide +kernel) rfl
theorem wL_X11_43 : Cond.methodLink RX11 43 yX11_puts ∈ wsL_law := h_inT 1221 (by decide +kernel) rfl
theorem wL_X11_47 : Cond.methodLink RX11 47 yX11_of ∈ wsL_law := h_inT 1356 (by decide +kernel) rfl
theorem wL_X11_51 : Cond.methodLink RX11 51 yX11_isStation ∈ wsL_law := h_inT 1404 (by decide +kernel) rfl
theorem wL_X11_55 : Cond.methodLink RX11 55 yX11_isOn ∈ wsL_law := h_inT 1400 (by decide +kernel) rfl
theorem wL_X11_58 : Cond.methodLink RX11 58 yX11_doesCount ∈ wsL_law := h_inT 1443 (by decide +kernel) rfl
theorem wL_X11_62 : Cond.methodLink RX11 62 yX11_waitAt ∈ wsL_law := h_inT 1416 (by decide +kernel) rfl
theorem wL_X11_66 : Cond.methodLink RX11 66 yX11_firstOf ∈ wsL_law := h_inT 1455 (by decide +kernel) rfl
theorem wL_X11_69 : Cond.methodLink RX11 69 yX11_adds ∈ wsL_law := h_inT 1384 (by decide +kernel) rfl
theorem wL_X11_72 : Cond.methodLink RX11 72 yX11_happens ∈ wsL_law := h_inT 1570 (by decide +kernel) rfl
theorem wL_X11_75 : Cond.methodLink RX11 75 yX11_dropsRaises ∈ wsL_law := h_inT 1550 (by decide +kernel) rfl
theorem wL_X11_79 : Cond.methodLink RX11 79 yX11_isLost ∈ wsL_law := h_inT 1566 (by decide +kernel) rfl
theorem wL_X11_86 : Cond.methodLink RX11 86 yJ9_max_7cf53 ∈ wsL_law := h_inT 1634 (by decide +kernel) rfl
theorem wL_X11_91 : Cond.methodLink RX11 91 yX11_raiseAt ∈ wsL_law := h_inT 1459 (by decide +kernel) rfl
theorem wL_X11_97 : Cond.methodLink RX11 97 yX11_firstRank ∈ wsL_law := h_inT 1635 (by decide +kernel) rfl
theorem wS_X11_isDigit : h_wS yX11_isDigit := h_inT 1335 (by decide +kernel) rfl
theorem wS_X11_isFrom : h_wS yX11_isFrom := h_inT 1313 (by decide +kernel) rfl
theorem wS_X11_isSmall : h_wS yX11_isSmall := h_inT 1332 (by decide +kernel) rfl
theorem wS_X11_raiseAt : h_wS yX11_raiseAt := h_inT 1460 (by decide +kernel) rfl
theorem wS_X11_waitAt : h_wS yX11_waitAt := h_inT 1417 (by decide +kernel) rfl
theorem wS_J9_min_7cf53 : h_wS yJ9_min_7cf53 := h_inT 1339 (by decide +kernel) rfl
theorem wC_X11_198 : Cond.constant RX11 198 99999 ∈ wsL_law := h_inT 1337 (by decide +kernel) rfl
theorem wC_X11_303 : Cond.constant RX11 303 139968 ∈ wsL_law := h_inT 1667 (by decide +kernel) rfl
theorem wV_X11_aBreak : h_wV yX11_aBreak := ⟨h_inT 1421 (by decide +kernel) rfl, h_inP 30 (by decide +kernel) rfl⟩
theorem wV_X11_aLine : h_wV yX11_aLine := ⟨h_inT 1343 (by decide +kernel) rfl, h_inP 12 (by decide +kernel) rfl⟩
theorem wV_X11_aSend : h_wV yX11_aSend := ⟨h_inT 1410 (by decide +kernel) rfl, h_inP 28 (by decide +kernel) rfl⟩
theorem wV_X11_aState : h_wV yX11_aState := ⟨h_inT 1394 (by decide +kernel) rfl, h_inP 24 (by decide +kernel) rfl⟩
theorem wV_X11_aStation : h_wV yX11_aStation := ⟨h_inT 1354 (by decide +kernel) rfl, h_inP 14 (by decide +kernel) rfl⟩
theorem wV_X11_adds : h_wV yX11_adds := ⟨h_inT 1386 (by decide +kernel) rfl, h_inP 22 (by decide +kernel) rfl⟩
theorem wV_X11_ahead : h_wV yX11_ahead := ⟨h_inT 1325 (by decide +kernel) rfl, h_inP 10 (by decide +kernel) rfl⟩
theorem wV_X11_beacons : h_wV yX11_beacons := ⟨h_inT 1600 (by decide +kernel) rfl, h_inP 50 (by decide +kernel) rfl⟩
theorem wV_X11_begins : h_wV yX11_begins := ⟨h_inT 1219 (by decide +kernel) rfl, h_inP 5 (by decide +kernel) rfl⟩
theorem wV_X11_byteAt : h_wV yX11_byteAt := ⟨h_inT 1329 (by decide +kernel) rfl, h_inP 11 (by decide +kernel) rfl⟩
theorem wV_X11_claims : h_wV yX11_claims := ⟨h_inT 1612 (by decide +kernel) rfl, h_inP 53 (by decide +kernel) rfl⟩
theorem wV_X11_closes : h_wV yX11_closes := ⟨h_inT 1390 (by decide +kernel) rfl, h_inP 23 (by decide +kernel) rfl⟩
theorem wV_X11_comes : h_wV yX11_comes := ⟨h_inT 1382 (by decide +kernel) rfl, h_inP 21 (by decide +kernel) rfl⟩
theorem wV_X11_comesHome : h_wV yX11_comesHome := ⟨h_inT 1649 (by decide +kernel) rfl, h_inP 62 (by decide +kernel) rfl⟩
theorem wV_X11_copies : h_wV yX11_copies := ⟨h_inT 1321 (by decide +kernel) rfl, h_inP 9 (by decide +kernel) rfl⟩
theorem wV_X11_doesCount : h_wV yX11_doesCount := ⟨h_inT 1445 (by decide +kernel) rfl, h_inP 34 (by decide +kernel) rfl⟩
theorem wV_X11_drawBy : h_wV yX11_drawBy := ⟨h_inT 1665 (by decide +kernel) rfl, h_inP 65 (by decide +kernel) rfl⟩
theorem wV_X11_draws : h_wV yX11_draws := ⟨h_inT 1661 (by decide +kernel) rfl, h_inP 64 (by decide +kernel) rfl⟩
theorem wV_X11_dropsRaises : h_wV yX11_dropsRaises := ⟨h_inT 1552 (by decide +kernel) rfl, h_inP 44 (by decide +kernel) rfl⟩
theorem wV_X11_fails : h_wV yX11_fails := ⟨h_inT 1362 (by decide +kernel) rfl, h_inP 16 (by decide +kernel) rfl⟩
theorem wV_X11_firstOf : h_wV yX11_firstOf := ⟨h_inT 1457 (by decide +kernel) rfl, h_inP 36 (by decide +kernel) rfl⟩
theorem wV_X11_firstRank : h_wV yX11_firstRank := ⟨h_inT 1637 (by decide +kernel) rfl, h_inP 59 (by decide +kernel) rfl⟩
theorem wV_X11_four : h_wV yX11_four := ⟨h_inT 1306 (by decide +kernel) rfl, h_inP 7 (by decide +kernel) rfl⟩
theorem wV_X11_frameAt : h_wV yX11_frameAt := ⟨h_inT 1645 (by decide +kernel) rfl, h_inP 61 (by decide +kernel) rfl⟩
theorem wV_X11_gives : h_wV yX11_gives := ⟨h_inT 1425 (by decide +kernel) rfl, h_inP 31 (by decide +kernel) rfl⟩
theorem wV_X11_givesOr : h_wV yX11_givesOr := ⟨h_inT 1718 (by decide +kernel) rfl, h_inP 73 (by decide +kernel) rfl⟩
theorem wV_X11_goesOn : h_wV yX11_goesOn := ⟨h_inT 1620 (by decide +kernel) rfl, h_inP 55 (by decide +kernel) rfl⟩
theorem wV_X11_happens : h_wV yX11_happens := ⟨h_inT 1572 (by decide +kernel) rfl, h_inP 46 (by decide +kernel) rfl⟩
theorem wV_X11_heirNow : h_wV yX11_heirNow := ⟨h_inT 1508 (by decide +kernel) rfl, h_inP 38 (by decide +kernel) rfl⟩
theorem wV_X11_isAnew : h_wV yX11_isAnew := ⟨h_inT 1516 (by decide +kernel) rfl, h_inP 39 (by decide +kernel) rfl⟩
theorem wV_X11_isBlamed : h_wV yX11_isBlamed := ⟨h_inT 1616 (by decide +kernel) rfl, h_inP 54 (by decide +kernel) rfl⟩
theorem wV_X11_isBroken : h_wV yX11_isBroken := ⟨h_inT 1500 (by decide +kernel) rfl, h_inP 37 (by decide +kernel) rfl⟩
theorem wV_X11_isGot : h_wV yX11_isGot := ⟨h_inT 1653 (by decide +kernel) rfl, h_inP 63 (by decide +kernel) rfl⟩
theorem wV_X11_isLevel : h_wV yX11_isLevel := ⟨h_inT 1632 (by decide +kernel) rfl, h_inP 58 (by decide +kernel) rfl⟩
theorem wV_X11_isLost : h_wV yX11_isLost := ⟨h_inT 1568 (by decide +kernel) rfl, h_inP 45 (by decide +kernel) rfl⟩
theorem wV_X11_isLowered : h_wV yX11_isLowered := ⟨h_inT 1710 (by decide +kernel) rfl, h_inP 71 (by decide +kernel) rfl⟩
theorem wV_X11_isName : h_wV yX11_isName := ⟨h_inT 1366 (by decide +kernel) rfl, h_inP 17 (by decide +kernel) rfl⟩
theorem wV_X11_isNumber : h_wV yX11_isNumber := ⟨h_inT 1374 (by decide +kernel) rfl, h_inP 19 (by decide +kernel) rfl⟩
theorem wV_X11_isOn : h_wV yX11_isOn := ⟨h_inT 1402 (by decide +kernel) rfl, h_inP 26 (by decide +kernel) rfl⟩
theorem wV_X11_isQuiet : h_wV yX11_isQuiet := ⟨h_inT 1706 (by decide +kernel) rfl, h_inP 70 (by decide +kernel) rfl⟩
theorem wV_X11_isReached : h_wV yX11_isReached := ⟨h_inT 1702 (by decide +kernel) rfl, h_inP 69 (by decide +kernel) rfl⟩
theorem wV_X11_isSilent : h_wV yX11_isSilent := ⟨h_inT 1520 (by decide +kernel) rfl, h_inP 40 (by decide +kernel) rfl⟩
theorem wV_X11_isSo : h_wV yX11_isSo := ⟨h_inT 1544 (by decide +kernel) rfl, h_inP 42 (by decide +kernel) rfl⟩
theorem wV_X11_isStation : h_wV yX11_isStation := ⟨h_inT 1406 (by decide +kernel) rfl, h_inP 27 (by decide +kernel) rfl⟩
theorem wV_X11_isStill : h_wV yX11_isStill := ⟨h_inT 1592 (by decide +kernel) rfl, h_inP 48 (by decide +kernel) rfl⟩
theorem wV_X11_isTaken : h_wV yX11_isTaken := ⟨h_inT 1378 (by decide +kernel) rfl, h_inP 20 (by decide +kernel) rfl⟩
theorem wV_X11_key : h_wV yX11_key := ⟨h_inT 1347 (by decide +kernel) rfl, h_inP 13 (by decide +kernel) rfl⟩
theorem wV_X11_lives : h_wV yX11_lives := ⟨h_inT 1730 (by decide +kernel) rfl, h_inP 75 (by decide +kernel) rfl⟩
theorem wV_X11_namedHere : h_wV yX11_namedHere := ⟨h_inT 1370 (by decide +kernel) rfl, h_inP 18 (by decide +kernel) rfl⟩
theorem wV_X11_nextOn : h_wV yX11_nextOn := ⟨h_inT 1604 (by decide +kernel) rfl, h_inP 51 (by decide +kernel) rfl⟩
theorem wV_X11_of : h_wV yX11_of := ⟨h_inT 1358 (by decide +kernel) rfl, h_inP 15 (by decide +kernel) rfl⟩
theorem wV_X11_offPaper : h_wV yX11_offPaper := ⟨h_inT 1714 (by decide +kernel) rfl, h_inP 72 (by decide +kernel) rfl⟩
theorem wV_X11_onBits : h_wV yX11_onBits := ⟨h_inT 1437 (by decide +kernel) rfl, h_inP 32 (by decide +kernel) rfl⟩
theorem wV_X11_onMany : h_wV yX11_onMany := ⟨h_inT 1596 (by decide +kernel) rfl, h_inP 49 (by decide +kernel) rfl⟩
theorem wV_X11_onPaper : h_wV yX11_onPaper := ⟨h_inT 1694 (by decide +kernel) rfl, h_inP 67 (by decide +kernel) rfl⟩
theorem wV_X11_peaks : h_wV yX11_peaks := ⟨h_inT 1698 (by decide +kernel) rfl, h_inP 68 (by decide +kernel) rfl⟩
theorem wV_X11_purges : h_wV yX11_purges := ⟨h_inT 1608 (by decide +kernel) rfl, h_inP 52 (by decide +kernel) rfl⟩
theorem wV_X11_puts : h_wV yX11_puts := ⟨h_inT 1223 (by decide +kernel) rfl, h_inP 6 (by decide +kernel) rfl⟩
theorem wV_X11_reaches : h_wV yX11_reaches := ⟨h_inT 1690 (by decide +kernel) rfl, h_inP 66 (by decide +kernel) rfl⟩
theorem wV_X11_refuse : h_wV yX11_refuse := ⟨h_inT 1317 (by decide +kernel) rfl, h_inP 8 (by decide +kernel) rfl⟩
theorem wV_X11_sends : h_wV yX11_sends := ⟨h_inT 1414 (by decide +kernel) rfl, h_inP 29 (by decide +kernel) rfl⟩
theorem wV_X11_stationHere : h_wV yX11_stationHere := ⟨h_inT 1398 (by decide +kernel) rfl, h_inP 25 (by decide +kernel) rfl⟩
theorem wV_X11_takes : h_wV yX11_takes := ⟨h_inT 1532 (by decide +kernel) rfl, h_inP 41 (by decide +kernel) rfl⟩
theorem wV_X11_ticks : h_wV yX11_ticks := ⟨h_inT 1588 (by decide +kernel) rfl, h_inP 47 (by decide +kernel) rfl⟩
theorem wV_X11_tokenAt : h_wV yX11_tokenAt := ⟨h_inT 1624 (by decide +kernel) rfl, h_inP 56 (by decide +kernel) rfl⟩
theorem wV_X11_topRaise : h_wV yX11_topRaise := ⟨h_inT 1628 (by decide +kernel) rfl, h_inP 57 (by decide +kernel) rfl⟩
theorem wV_X11_turnsOff : h_wV yX11_turnsOff := ⟨h_inT 1548 (by decide +kernel) rfl, h_inP 43 (by decide +kernel) rfl⟩
theorem wV_X11_waitAll : h_wV yX11_waitAll := ⟨h_inT 1441 (by decide +kernel) rfl, h_inP 33 (by decide +kernel) rfl⟩
theorem wV_X11_waiting : h_wV yX11_waiting := ⟨h_inT 1726 (by decide +kernel) rfl, h_inP 74 (by decide +kernel) rfl⟩
theorem wV_X11_wishes : h_wV yX11_wishes := ⟨h_inT 1641 (by decide +kernel) rfl, h_inP 60 (by decide +kernel) rfl⟩
theorem wV_X11_wrongStation : h_wV yX11_wrongStation := ⟨h_inT 1453 (by decide +kernel) rfl, h_inP 35 (by decide +kernel) rfl⟩
theorem wd_X11_aBreak : h_wd yX11_aBreak cX11_aBreak 2 (some .boolean) 0 := ⟨⟨h_inT 1422 (by decide +kernel) rfl, h_inT 12 (by decide +kernel) rfl⟩, by decide +kernel, by decide +kernel, by decide +kernel⟩
theorem wd_X11_aLine : h_wd yX11_aLine cX11_aLine 1 (some .boolean) 0 := ⟨⟨h_inT 1344 (by decide +kernel) rfl, h_inT 12 (by decide +kernel) rfl⟩, by decide +kernel, by decide +kernel, by decide +kernel⟩
theorem wd_X11_aSend : h_wd yX11_aSend cX11_aSend 3 (some .boolean) 0 := ⟨⟨h_inT 1411 (by decide +kernel) rfl, h_inT 12 (by decide +kernel) rfl⟩, by decide +kernel, by decide +kernel, by decide +kernel⟩
theorem wd_X11_aState : h_wd yX11_aState cX11_aState 3 (some .boolean) 1 := ⟨⟨h_inT 1395 (by decide +kernel) rfl, h_inT 12 (by decide +kernel) rfl⟩, by decide +kernel, by decide +kernel, by decide +kernel⟩
theorem wd_X11_aStation : h_wd yX11_aStation cX11_aStation 1 (some .boolean) 0 := ⟨⟨h_inT 1355 (by decide +kernel) rfl, h_inT 12 (by decide +kernel) rfl⟩, by decide +kernel, by decide +kernel, by decide +kernel⟩
theorem wd_X11_adds : h_wd yX11_adds cX11_adds 3 none 2 := ⟨⟨h_inT 1387 (by decide +kernel) rfl, h_inT 12 (by decide +kernel) rfl⟩, by decide +kernel, by decide +kernel, by decide +kernel⟩
theorem wd_X11_ahead : h_wd yX11_ahead cX11_ahead 2 none 0 := ⟨⟨h_inT 1326 (by decide +kernel) rfl, h_inT 12 (by decide +kernel) rfl⟩, by decide +kernel, by decide +kernel, by decide +kernel⟩
theorem wd_X11_beacons : h_wd yX11_beacons cX11_beacons 1 none 0 := ⟨⟨h_inT 1601 (by decide +kernel) rfl, h_inT 12 (by decide +kernel) rfl⟩, by decide +kernel, by decide +kernel, by decide +kernel⟩
theorem wd_X11_begins : h_wd yX11_begins cX11_begins 2 none 0 := ⟨⟨h_inT 1220 (by decide +kernel) rfl, h_inT 12 (by decide +kernel) rfl⟩, by decide +kernel, by decide +kernel, by decide +kernel⟩
theorem wd_X11_byteAt : h_wd yX11_byteAt cX11_byteAt 2 (some .int) 1 := ⟨⟨h_inT 1330 (by decide +kernel) rfl, h_inT 12 (by decide +kernel) rfl⟩, by decide +kernel, by decide +kernel, by decide +kernel⟩
theorem wd_X11_claims : h_wd yX11_claims cX11_claims 1 none 0 := ⟨⟨h_inT 1613 (by decide +kernel) rfl, h_inT 12 (by decide +kernel) rfl⟩, by decide +kernel, by decide +kernel, by decide +kernel⟩
theorem wd_X11_closes : h_wd yX11_closes cX11_closes 1 (some .boolean) 0 := ⟨⟨h_inT 1391 (by decide +kernel) rfl, h_inT 12 (by decide +kernel) rfl⟩, by decide +kernel, by decide +kernel, by decide +kernel⟩
theorem wd_X11_comes : h_wd yX11_comes cX11_comes 3 (some .int) 1 := ⟨⟨h_inT 1383 (by decide +kernel) rfl, h_inT 12 (by decide +kernel) rfl⟩, by decide +kernel, by decide +kernel, by decide +kernel⟩
theorem wd_X11_comesHome : h_wd yX11_comesHome cX11_comesHome 5 none 1 := ⟨⟨h_inT 1650 (by decide +kernel) rfl, h_inT 12 (by decide +kernel) rfl⟩, by decide +kernel, by decide +kernel, by decide +kernel⟩
theorem wd_X11_copies : h_wd yX11_copies cX11_copies 4 none 2 := ⟨⟨h_inT 1322 (by decide +kernel) rfl, h_inT 12 (by decide +kernel) rfl⟩, by decide +kernel, by decide +kernel, by decide +kernel⟩
theorem wd_X11_doesCount : h_wd yX11_doesCount cX11_doesCount 2 (some .boolean) 0 := ⟨⟨h_inT 1446 (by decide +kernel) rfl, h_inT 12 (by decide +kernel) rfl⟩, by decide +kernel, by decide +kernel, by decide +kernel⟩
theorem wd_X11_drawBy : h_wd yX11_drawBy cX11_drawBy 2 (some .int) 1 := ⟨⟨h_inT 1666 (by decide +kernel) rfl, h_inT 12 (by decide +kernel) rfl⟩, by decide +kernel, by decide +kernel, by decide +kernel⟩
theorem wd_X11_draws : h_wd yX11_draws cX11_draws 5 none 1 := ⟨⟨h_inT 1662 (by decide +kernel) rfl, h_inT 12 (by decide +kernel) rfl⟩, by decide +kernel, by decide +kernel, by decide +kernel⟩
theorem wd_X11_dropsRaises : h_wd yX11_dropsRaises cX11_dropsRaises 2 none 1 := ⟨⟨h_inT 1553 (by decide +kernel) rfl, h_inT 12 (by decide +kernel) rfl⟩, by decide +kernel, by decide +kernel, by decide +kernel⟩
theorem wd_X11_fails : h_wd yX11_fails cX11_fails 2 (some .boolean) 1 := ⟨⟨h_inT 1363 (by decide +kernel) rfl, h_inT 12 (by decide +kernel) rfl⟩, by decide +kernel, by decide +kernel, by decide +kernel⟩
theorem wd_X11_firstOf : h_wd yX11_firstOf cX11_firstOf 4 (some .int) 1 := ⟨⟨h_inT 1458 (by decide +kernel) rfl, h_inT 12 (by decide +kernel) rfl⟩, by decide +kernel, by decide +kernel, by decide +kernel⟩
theorem wd_X11_firstRank : h_wd yX11_firstRank cX11_firstRank 2 (some .int) 1 := ⟨⟨h_inT 1638 (by decide +kernel) rfl, h_inT 12 (by decide +kernel) rfl⟩, by decide +kernel, by decide +kernel, by decide +kernel⟩
theorem wd_X11_four : h_wd yX11_four cX11_four 3 none 1 := ⟨⟨h_inT 1307 (by decide +kernel) rfl, h_inT 12 (by decide +kernel) rfl⟩, by decide +kernel, by decide +kernel, by decide +kernel⟩
theorem wd_X11_frameAt : h_wd yX11_frameAt cX11_frameAt 2 none 1 := ⟨⟨h_inT 1646 (by decide +kernel) rfl, h_inT 12 (by decide +kernel) rfl⟩, by decide +kernel, by decide +kernel, by decide +kernel⟩
theorem wd_X11_gives : h_wd yX11_gives cX11_gives 2 (some .int) 1 := ⟨⟨h_inT 1426 (by decide +kernel) rfl, h_inT 12 (by decide +kernel) rfl⟩, by decide +kernel, by decide +kernel, by decide +kernel⟩
theorem wd_X11_givesOr : h_wd yX11_givesOr cX11_givesOr 2 (some .int) 1 := ⟨⟨h_inT 1719 (by decide +kernel) rfl, h_inT 12 (by decide +kernel) rfl⟩, by decide +kernel, by decide +kernel, by decide +kernel⟩
theorem wd_X11_goesOn : h_wd yX11_goesOn cX11_goesOn 2 none 0 := ⟨⟨h_inT 1621 (by decide +kernel) rfl, h_inT 12 (by decide +kernel) rfl⟩, by decide +kernel, by decide +kernel, by decide +kernel⟩
theorem wd_X11_happens : h_wd yX11_happens cX11_happens 4 none 2 := ⟨⟨h_inT 1573 (by decide +kernel) rfl, h_inT 12 (by decide +kernel) rfl⟩, by decide +kernel, by decide +kernel, by decide +kernel⟩
theorem wd_X11_heirNow : h_wd yX11_heirNow cX11_heirNow 3 (some .int) 0 := ⟨⟨h_inT 1509 (by decide +kernel) rfl, h_inT 12 (by decide +kernel) rfl⟩, by decide +kernel, by decide +kernel, by decide +kernel⟩
theorem wd_X11_isAnew : h_wd yX11_isAnew cX11_isAnew 1 none 0 := ⟨⟨h_inT 1517 (by decide +kernel) rfl, h_inT 12 (by decide +kernel) rfl⟩, by decide +kernel, by decide +kernel, by decide +kernel⟩
theorem wd_X11_isBlamed : h_wd yX11_isBlamed cX11_isBlamed 3 none 1 := ⟨⟨h_inT 1617 (by decide +kernel) rfl, h_inT 12 (by decide +kernel) rfl⟩, by decide +kernel, by decide +kernel, by decide +kernel⟩
theorem wd_X11_isBroken : h_wd yX11_isBroken cX11_isBroken 4 (some .boolean) 2 := ⟨⟨h_inT 1501 (by decide +kernel) rfl, h_inT 12 (by decide +kernel) rfl⟩, by decide +kernel, by decide +kernel, by decide +kernel⟩
theorem wd_X11_isDigit : h_wd yX11_isDigit cX11_isDigit 1 (some .boolean) 1 := ⟨⟨h_inT 1336 (by decide +kernel) rfl, h_inT 12 (by decide +kernel) rfl⟩, by decide +kernel, by decide +kernel, by decide +kernel⟩
theorem wd_X11_isFrom : h_wd yX11_isFrom cX11_isFrom 3 (some .boolean) 3 := ⟨⟨h_inT 1314 (by decide +kernel) rfl, h_inT 12 (by decide +kernel) rfl⟩, by decide +kernel, by decide +kernel, by decide +kernel⟩
theorem wd_X11_isGot : h_wd yX11_isGot cX11_isGot 4 none 1 := ⟨⟨h_inT 1654 (by decide +kernel) rfl, h_inT 12 (by decide +kernel) rfl⟩, by decide +kernel, by decide +kernel, by decide +kernel⟩
theorem wd_X11_isLevel : h_wd yX11_isLevel cX11_isLevel 2 none 1 := ⟨⟨h_inT 1633 (by decide +kernel) rfl, h_inT 12 (by decide +kernel) rfl⟩, by decide +kernel, by decide +kernel, by decide +kernel⟩
theorem wd_X11_isLost : h_wd yX11_isLost cX11_isLost 1 none 0 := ⟨⟨h_inT 1569 (by decide +kernel) rfl, h_inT 12 (by decide +kernel) rfl⟩, by decide +kernel, by decide +kernel, by decide +kernel⟩
theorem wd_X11_isLowered : h_wd yX11_isLowered cX11_isLowered 2 (some .boolean) 0 := ⟨⟨h_inT 1711 (by decide +kernel) rfl, h_inT 12 (by decide +kernel) rfl⟩, by decide +kernel, by decide +kernel, by decide +kernel⟩
theorem wd_X11_isName : h_wd yX11_isName cX11_isName 1 (some .boolean) 0 := ⟨⟨h_inT 1367 (by decide +kernel) rfl, h_inT 12 (by decide +kernel) rfl⟩, by decide +kernel, by decide +kernel, by decide +kernel⟩
theorem wd_X11_isNumber : h_wd yX11_isNumber cX11_isNumber 3 (some .boolean) 2 := ⟨⟨h_inT 1375 (by decide +kernel) rfl, h_inT 12 (by decide +kernel) rfl⟩, by decide +kernel, by decide +kernel, by decide +kernel⟩
theorem wd_X11_isOn : h_wd yX11_isOn cX11_isOn 2 (some .boolean) 1 := ⟨⟨h_inT 1403 (by decide +kernel) rfl, h_inT 12 (by decide +kernel) rfl⟩, by decide +kernel, by decide +kernel, by decide +kernel⟩
theorem wd_X11_isQuiet : h_wd yX11_isQuiet cX11_isQuiet 2 (some .boolean) 0 := ⟨⟨h_inT 1707 (by decide +kernel) rfl, h_inT 12 (by decide +kernel) rfl⟩, by decide +kernel, by decide +kernel, by decide +kernel⟩
theorem wd_X11_isReached : h_wd yX11_isReached cX11_isReached 2 (some .boolean) 1 := ⟨⟨h_inT 1703 (by decide +kernel) rfl, h_inT 12 (by decide +kernel) rfl⟩, by decide +kernel, by decide +kernel, by decide +kernel⟩
theorem wd_X11_isSilent : h_wd yX11_isSilent cX11_isSilent 1 none 0 := ⟨⟨h_inT 1521 (by decide +kernel) rfl, h_inT 12 (by decide +kernel) rfl⟩, by decide +kernel, by decide +kernel, by decide +kernel⟩
theorem wd_X11_isSmall : h_wd yX11_isSmall cX11_isSmall 1 (some .boolean) 1 := ⟨⟨h_inT 1333 (by decide +kernel) rfl, h_inT 12 (by decide +kernel) rfl⟩, by decide +kernel, by decide +kernel, by decide +kernel⟩
theorem wd_X11_isSo : h_wd yX11_isSo cX11_isSo 2 (some .boolean) 1 := ⟨⟨h_inT 1545 (by decide +kernel) rfl, h_inT 12 (by decide +kernel) rfl⟩, by decide +kernel, by decide +kernel, by decide +kernel⟩
theorem wd_X11_isStation : h_wd yX11_isStation cX11_isStation 2 (some .boolean) 1 := ⟨⟨h_inT 1407 (by decide +kernel) rfl, h_inT 12 (by decide +kernel) rfl⟩, by decide +kernel, by decide +kernel, by decide +kernel⟩
theorem wd_X11_isStill : h_wd yX11_isStill cX11_isStill 3 none 0 := ⟨⟨h_inT 1593 (by decide +kernel) rfl, h_inT 12 (by decide +kernel) rfl⟩, by decide +kernel, by decide +kernel, by decide +kernel⟩
theorem wd_X11_isTaken : h_wd yX11_isTaken cX11_isTaken 3 (some .boolean) 1 := ⟨⟨h_inT 1379 (by decide +kernel) rfl, h_inT 12 (by decide +kernel) rfl⟩, by decide +kernel, by decide +kernel, by decide +kernel⟩
theorem wd_X11_key : h_wd yX11_key cX11_key 6 (some .int) 0 := ⟨⟨h_inT 1348 (by decide +kernel) rfl, h_inT 12 (by decide +kernel) rfl⟩, by decide +kernel, by decide +kernel, by decide +kernel⟩
theorem wd_X11_lives : h_wd yX11_lives cX11_lives 6 none 3 := ⟨⟨h_inT 1731 (by decide +kernel) rfl, h_inT 12 (by decide +kernel) rfl⟩, by decide +kernel, by decide +kernel, by decide +kernel⟩
theorem wd_X11_namedHere : h_wd yX11_namedHere cX11_namedHere 4 (some .int) 0 := ⟨⟨h_inT 1371 (by decide +kernel) rfl, h_inT 12 (by decide +kernel) rfl⟩, by decide +kernel, by decide +kernel, by decide +kernel⟩
theorem wd_X11_nextOn : h_wd yX11_nextOn cX11_nextOn 5 (some .int) 2 := ⟨⟨h_inT 1605 (by decide +kernel) rfl, h_inT 12 (by decide +kernel) rfl⟩, by decide +kernel, by decide +kernel, by decide +kernel⟩
theorem wd_X11_of : h_wd yX11_of cX11_of 2 (some .int) 1 := ⟨⟨h_inT 1359 (by decide +kernel) rfl, h_inT 12 (by decide +kernel) rfl⟩, by decide +kernel, by decide +kernel, by decide +kernel⟩
theorem wd_X11_offPaper : h_wd yX11_offPaper cX11_offPaper 1 none 0 := ⟨⟨h_inT 1715 (by decide +kernel) rfl, h_inT 12 (by decide +kernel) rfl⟩, by decide +kernel, by decide +kernel, by decide +kernel⟩
theorem wd_X11_onBits : h_wd yX11_onBits cX11_onBits 3 (some .int) 0 := ⟨⟨h_inT 1438 (by decide +kernel) rfl, h_inT 12 (by decide +kernel) rfl⟩, by decide +kernel, by decide +kernel, by decide +kernel⟩
theorem wd_X11_onMany : h_wd yX11_onMany cX11_onMany 3 (some .int) 0 := ⟨⟨h_inT 1597 (by decide +kernel) rfl, h_inT 12 (by decide +kernel) rfl⟩, by decide +kernel, by decide +kernel, by decide +kernel⟩
theorem wd_X11_onPaper : h_wd yX11_onPaper cX11_onPaper 2 none 1 := ⟨⟨h_inT 1695 (by decide +kernel) rfl, h_inT 12 (by decide +kernel) rfl⟩, by decide +kernel, by decide +kernel, by decide +kernel⟩
theorem wd_X11_peaks : h_wd yX11_peaks cX11_peaks 1 none 0 := ⟨⟨h_inT 1699 (by decide +kernel) rfl, h_inT 12 (by decide +kernel) rfl⟩, by decide +kernel, by decide +kernel, by decide +kernel⟩
theorem wd_X11_purges : h_wd yX11_purges cX11_purges 2 none 0 := ⟨⟨h_inT 1609 (by decide +kernel) rfl, h_inT 12 (by decide +kernel) rfl⟩, by decide +kernel, by decide +kernel, by decide +kernel⟩
theorem wd_X11_puts : h_wd yX11_puts cX11_puts 3 none 2 := ⟨⟨h_inT 1224 (by decide +kernel) rfl, h_inT 12 (by decide +kernel) rfl⟩, by decide +kernel, by decide +kernel, by decide +kernel⟩
theorem wd_X11_raiseAt : h_wd yX11_raiseAt cX11_raiseAt 2 (some .int) 2 := ⟨⟨h_inT 1461 (by decide +kernel) rfl, h_inT 12 (by decide +kernel) rfl⟩, by decide +kernel, by decide +kernel, by decide +kernel⟩
theorem wd_X11_reaches : h_wd yX11_reaches cX11_reaches 5 (some .int) 2 := ⟨⟨h_inT 1691 (by decide +kernel) rfl, h_inT 12 (by decide +kernel) rfl⟩, by decide +kernel, by decide +kernel, by decide +kernel⟩
theorem wd_X11_refuse : h_wd yX11_refuse cX11_refuse 2 (some .int) 1 := ⟨⟨h_inT 1318 (by decide +kernel) rfl, h_inT 12 (by decide +kernel) rfl⟩, by decide +kernel, by decide +kernel, by decide +kernel⟩
theorem wd_X11_sends : h_wd yX11_sends cX11_sends 5 (some .int) 3 := ⟨⟨h_inT 1415 (by decide +kernel) rfl, h_inT 12 (by decide +kernel) rfl⟩, by decide +kernel, by decide +kernel, by decide +kernel⟩
theorem wd_X11_stationHere : h_wd yX11_stationHere cX11_stationHere 2 (some .int) 0 := ⟨⟨h_inT 1399 (by decide +kernel) rfl, h_inT 12 (by decide +kernel) rfl⟩, by decide +kernel, by decide +kernel, by decide +kernel⟩
theorem wd_X11_takes : h_wd yX11_takes cX11_takes 4 none 2 := ⟨⟨h_inT 1533 (by decide +kernel) rfl, h_inT 12 (by decide +kernel) rfl⟩, by decide +kernel, by decide +kernel, by decide +kernel⟩
theorem wd_X11_ticks : h_wd yX11_ticks cX11_ticks 1 none 0 := ⟨⟨h_inT 1589 (by decide +kernel) rfl, h_inT 12 (by decide +kernel) rfl⟩, by decide +kernel, by decide +kernel, by decide +kernel⟩
theorem wd_X11_tokenAt : h_wd yX11_tokenAt cX11_tokenAt 5 none 1 := ⟨⟨h_inT 1625 (by decide +kernel) rfl, h_inT 12 (by decide +kernel) rfl⟩, by decide +kernel, by decide +kernel, by decide +kernel⟩
theorem wd_X11_topRaise : h_wd yX11_topRaise cX11_topRaise 3 (some .int) 1 := ⟨⟨h_inT 1629 (by decide +kernel) rfl, h_inT 12 (by decide +kernel) rfl⟩, by decide +kernel, by decide +kernel, by decide +kernel⟩
theorem wd_X11_turnsOff : h_wd yX11_turnsOff cX11_turnsOff 2 none 1 := ⟨⟨h_inT 1549 (by decide +kernel) rfl, h_inT 12 (by decide +kernel) rfl⟩, by decide +kernel, by decide +kernel, by decide +kernel⟩
theorem wd_X11_waitAll : h_wd yX11_waitAll cX11_waitAll 3 (some .int) 0 := ⟨⟨h_inT 1442 (by decide +kernel) rfl, h_inT 12 (by decide +kernel) rfl⟩, by decide +kernel, by decide +kernel, by decide +kernel⟩
theorem wd_X11_waitAt : h_wd yX11_waitAt cX11_waitAt 2 (some .int) 2 := ⟨⟨h_inT 1418 (by decide +kernel) rfl, h_inT 12 (by decide +kernel) rfl⟩, by decide +kernel, by decide +kernel, by decide +kernel⟩
theorem wd_X11_waiting : h_wd yX11_waiting cX11_waiting 4 (some .int) 0 := ⟨⟨h_inT 1727 (by decide +kernel) rfl, h_inT 12 (by decide +kernel) rfl⟩, by decide +kernel, by decide +kernel, by decide +kernel⟩
theorem wd_X11_wishes : h_wd yX11_wishes cX11_wishes 2 none 1 := ⟨⟨h_inT 1642 (by decide +kernel) rfl, h_inT 12 (by decide +kernel) rfl⟩, by decide +kernel, by decide +kernel, by decide +kernel⟩
theorem wd_X11_wrongStation : h_wd yX11_wrongStation cX11_wrongStation 2 (some .int) 1 := ⟨⟨h_inT 1454 (by decide +kernel) rfl, h_inT 12 (by decide +kernel) rfl⟩, by decide +kernel, by decide +kernel, by decide +kernel⟩
theorem wd_J9_min_7cf53 : h_wd yJ9_min_7cf53 cJ9_min_7cf53 2 (some .int) 2 := ⟨⟨h_inT 1340 (by decide +kernel) rfl, h_inT 19 (by decide +kernel) rfl⟩, by decide +kernel, by decide +kernel, by decide +kernel⟩
theorem dJ9_min_7cf53_0 : decode cJ9_min_7cf53 0 = .ok (.iload_n 0, 1) := by decide +kernel
theorem dJ9_min_7cf53_1 : decode cJ9_min_7cf53 1 = .ok (.iload_n 1, 1) := by decide +kernel
theorem dJ9_min_7cf53_2 : decode cJ9_min_7cf53 2 = .ok (.if_icmp .gt 7, 3) := by decide +kernel
theorem dJ9_min_7cf53_5 : decode cJ9_min_7cf53 5 = .ok (.iload_n 0, 1) := by decide +kernel
theorem dJ9_min_7cf53_6 : decode cJ9_min_7cf53 6 = .ok (.goto 4, 3) := by decide +kernel
theorem dJ9_min_7cf53_9 : decode cJ9_min_7cf53 9 = .ok (.iload_n 1, 1) := by decide +kernel
theorem dJ9_min_7cf53_10 : decode cJ9_min_7cf53 10 = .ok (.ireturn, 1) := by decide +kernel
theorem dX11_aBreak_0 : decode cX11_aBreak 0 = .ok (.aload_n 0, 1) := by decide +kernel
theorem dX11_aBreak_1 : decode cX11_aBreak 1 = .ok (.bipush 16, 2) := by decide +kernel
theorem dX11_aBreak_3 : decode cX11_aBreak 3 = .ok (.invokevirtual 47, 3) := by decide +kernel
theorem dX11_aBreak_6 : decode cX11_aBreak 6 = .ok (.iconst (-1), 1) := by decide +kernel
theorem dX11_aBreak_7 : decode cX11_aBreak 7 = .ok (.if_icmp .eq 10, 3) := by decide +kernel
theorem dX11_aBreak_10 : decode cX11_aBreak 10 = .ok (.aload_n 0, 1) := by decide +kernel
theorem dX11_aBreak_11 : decode cX11_aBreak 11 = .ok (.bipush 6, 2) := by decide +kernel
theorem dX11_aBreak_13 : decode cX11_aBreak 13 = .ok (.invokevirtual 222, 3) := by decide +kernel
theorem dX11_aBreak_16 : decode cX11_aBreak 16 = .ok (.ireturn, 1) := by decide +kernel
theorem dX11_aBreak_17 : decode cX11_aBreak 17 = .ok (.aload_n 0, 1) := by decide +kernel
theorem dX11_aBreak_18 : decode cX11_aBreak 18 = .ok (.invokevirtual 232, 3) := by decide +kernel
theorem dX11_aBreak_21 : decode cX11_aBreak 21 = .ok (.aload_n 0, 1) := by decide +kernel
theorem dX11_aBreak_22 : decode cX11_aBreak 22 = .ok (.invokevirtual 244, 3) := by decide +kernel
theorem dX11_aBreak_25 : decode cX11_aBreak 25 = .ok (.istore_n 1, 1) := by decide +kernel
theorem dX11_aBreak_26 : decode cX11_aBreak 26 = .ok (.iload_n 1, 1) := by decide +kernel
theorem dX11_aBreak_27 : decode cX11_aBreak 27 = .ok (.iconst (-1), 1) := by decide +kernel
theorem dX11_aBreak_28 : decode cX11_aBreak 28 = .ok (.if_icmp .ne 5, 3) := by decide +kernel
theorem dX11_aBreak_31 : decode cX11_aBreak 31 = .ok (.iconst 0, 1) := by decide +kernel
theorem dX11_aBreak_32 : decode cX11_aBreak 32 = .ok (.ireturn, 1) := by decide +kernel
theorem dX11_aBreak_33 : decode cX11_aBreak 33 = .ok (.aload_n 0, 1) := by decide +kernel
theorem dX11_aBreak_34 : decode cX11_aBreak 34 = .ok (.invokevirtual 232, 3) := by decide +kernel
theorem dX11_aBreak_37 : decode cX11_aBreak 37 = .ok (.aload_n 0, 1) := by decide +kernel
theorem dX11_aBreak_38 : decode cX11_aBreak 38 = .ok (.iconst 0, 1) := by decide +kernel
theorem dX11_aBreak_39 : decode cX11_aBreak 39 = .ok (.iconst 2, 1) := by decide +kernel
theorem dX11_aBreak_40 : decode cX11_aBreak 40 = .ok (.invokevirtual 235, 3) := by decide +kernel
theorem dX11_aBreak_43 : decode cX11_aBreak 43 = .ok (.ifCond .ne 5, 3) := by decide +kernel
theorem dX11_aBreak_46 : decode cX11_aBreak 46 = .ok (.iconst 0, 1) := by decide +kernel
theorem dX11_aBreak_47 : decode cX11_aBreak 47 = .ok (.ireturn, 1) := by decide +kernel
theorem dX11_aBreak_48 : decode cX11_aBreak 48 = .ok (.aload_n 0, 1) := by decide +kernel
theorem dX11_aBreak_49 : decode cX11_aBreak 49 = .ok (.bipush 16, 2) := by decide +kernel
theorem dX11_aBreak_51 : decode cX11_aBreak 51 = .ok (.iload_n 1, 1) := by decide +kernel
theorem dX11_aBreak_52 : decode cX11_aBreak 52 = .ok (.invokevirtual 43, 3) := by decide +kernel
theorem dX11_aBreak_55 : decode cX11_aBreak 55 = .ok (.aload_n 0, 1) := by decide +kernel
theorem dX11_aBreak_56 : decode cX11_aBreak 56 = .ok (.bipush 17, 2) := by decide +kernel
theorem dX11_aBreak_58 : decode cX11_aBreak 58 = .ok (.aload_n 0, 1) := by decide +kernel
theorem dX11_aBreak_59 : decode cX11_aBreak 59 = .ok (.getfield 195, 3) := by decide +kernel
theorem dX11_aBreak_62 : decode cX11_aBreak 62 = .ok (.invokevirtual 43, 3) := by decide +kernel
theorem dX11_aBreak_65 : decode cX11_aBreak 65 = .ok (.aload_n 0, 1) := by decide +kernel
theorem dX11_aBreak_66 : decode cX11_aBreak 66 = .ok (.invokevirtual 232, 3) := by decide +kernel
theorem dX11_aBreak_69 : decode cX11_aBreak 69 = .ok (.iconst 1, 1) := by decide +kernel
theorem dX11_aBreak_70 : decode cX11_aBreak 70 = .ok (.ireturn, 1) := by decide +kernel
theorem dX11_aLine_0 : decode cX11_aLine 0 = .ok (.aload_n 0, 1) := by decide +kernel
theorem dX11_aLine_1 : decode cX11_aLine 1 = .ok (.invokevirtual 216, 3) := by decide +kernel
theorem dX11_aLine_4 : decode cX11_aLine 4 = .ok (.tableswitch 138 0 4 #[36, 56, 77, 98, 118], 36) := by decide +kernel
theorem dX11_aLine_40 : decode cX11_aLine 40 = .ok (.aload_n 0, 1) := by decide +kernel
theorem dX11_aLine_41 : decode cX11_aLine 41 = .ok (.invokevirtual 251, 3) := by decide +kernel
theorem dX11_aLine_44 : decode cX11_aLine 44 = .ok (.ifCond .eq 14, 3) := by decide +kernel
theorem dX11_aLine_47 : decode cX11_aLine 47 = .ok (.aload_n 0, 1) := by decide +kernel
theorem dX11_aLine_48 : decode cX11_aLine 48 = .ok (.invokevirtual 254, 3) := by decide +kernel
theorem dX11_aLine_51 : decode cX11_aLine 51 = .ok (.ifCond .eq 7, 3) := by decide +kernel
theorem dX11_aLine_54 : decode cX11_aLine 54 = .ok (.iconst 1, 1) := by decide +kernel
theorem dX11_aLine_55 : decode cX11_aLine 55 = .ok (.goto 4, 3) := by decide +kernel
theorem dX11_aLine_58 : decode cX11_aLine 58 = .ok (.iconst 0, 1) := by decide +kernel
theorem dX11_aLine_59 : decode cX11_aLine 59 = .ok (.ireturn, 1) := by decide +kernel
theorem dX11_aLine_60 : decode cX11_aLine 60 = .ok (.aload_n 0, 1) := by decide +kernel
theorem dX11_aLine_61 : decode cX11_aLine 61 = .ok (.iconst 1, 1) := by decide +kernel
theorem dX11_aLine_62 : decode cX11_aLine 62 = .ok (.invokevirtual 257, 3) := by decide +kernel
theorem dX11_aLine_65 : decode cX11_aLine 65 = .ok (.ifCond .eq 14, 3) := by decide +kernel
theorem dX11_aLine_68 : decode cX11_aLine 68 = .ok (.aload_n 0, 1) := by decide +kernel
theorem dX11_aLine_69 : decode cX11_aLine 69 = .ok (.invokevirtual 254, 3) := by decide +kernel
theorem dX11_aLine_72 : decode cX11_aLine 72 = .ok (.ifCond .eq 7, 3) := by decide +kernel
theorem dX11_aLine_75 : decode cX11_aLine 75 = .ok (.iconst 1, 1) := by decide +kernel
theorem dX11_aLine_76 : decode cX11_aLine 76 = .ok (.goto 4, 3) := by decide +kernel
theorem dX11_aLine_79 : decode cX11_aLine 79 = .ok (.iconst 0, 1) := by decide +kernel
theorem dX11_aLine_80 : decode cX11_aLine 80 = .ok (.ireturn, 1) := by decide +kernel
theorem dX11_aLine_81 : decode cX11_aLine 81 = .ok (.aload_n 0, 1) := by decide +kernel
theorem dX11_aLine_82 : decode cX11_aLine 82 = .ok (.iconst 0, 1) := by decide +kernel
theorem dX11_aLine_83 : decode cX11_aLine 83 = .ok (.invokevirtual 257, 3) := by decide +kernel
theorem dX11_aLine_86 : decode cX11_aLine 86 = .ok (.ifCond .eq 14, 3) := by decide +kernel
theorem dX11_aLine_89 : decode cX11_aLine 89 = .ok (.aload_n 0, 1) := by decide +kernel
theorem dX11_aLine_90 : decode cX11_aLine 90 = .ok (.invokevirtual 254, 3) := by decide +kernel
theorem dX11_aLine_93 : decode cX11_aLine 93 = .ok (.ifCond .eq 7, 3) := by decide +kernel
theorem dX11_aLine_96 : decode cX11_aLine 96 = .ok (.iconst 1, 1) := by decide +kernel
theorem dX11_aLine_97 : decode cX11_aLine 97 = .ok (.goto 4, 3) := by decide +kernel
theorem dX11_aLine_100 : decode cX11_aLine 100 = .ok (.iconst 0, 1) := by decide +kernel
theorem dX11_aLine_101 : decode cX11_aLine 101 = .ok (.ireturn, 1) := by decide +kernel
theorem dX11_aLine_102 : decode cX11_aLine 102 = .ok (.aload_n 0, 1) := by decide +kernel
theorem dX11_aLine_103 : decode cX11_aLine 103 = .ok (.invokevirtual 261, 3) := by decide +kernel
theorem dX11_aLine_106 : decode cX11_aLine 106 = .ok (.ifCond .eq 14, 3) := by decide +kernel
theorem dX11_aLine_109 : decode cX11_aLine 109 = .ok (.aload_n 0, 1) := by decide +kernel
theorem dX11_aLine_110 : decode cX11_aLine 110 = .ok (.invokevirtual 254, 3) := by decide +kernel
theorem dX11_aLine_113 : decode cX11_aLine 113 = .ok (.ifCond .eq 7, 3) := by decide +kernel
theorem dX11_aLine_116 : decode cX11_aLine 116 = .ok (.iconst 1, 1) := by decide +kernel
theorem dX11_aLine_117 : decode cX11_aLine 117 = .ok (.goto 4, 3) := by decide +kernel
theorem dX11_aLine_120 : decode cX11_aLine 120 = .ok (.iconst 0, 1) := by decide +kernel
theorem dX11_aLine_121 : decode cX11_aLine 121 = .ok (.ireturn, 1) := by decide +kernel
theorem dX11_aLine_122 : decode cX11_aLine 122 = .ok (.aload_n 0, 1) := by decide +kernel
theorem dX11_aLine_123 : decode cX11_aLine 123 = .ok (.invokevirtual 264, 3) := by decide +kernel
theorem dX11_aLine_126 : decode cX11_aLine 126 = .ok (.ifCond .eq 14, 3) := by decide +kernel
theorem dX11_aLine_129 : decode cX11_aLine 129 = .ok (.aload_n 0, 1) := by decide +kernel
theorem dX11_aLine_130 : decode cX11_aLine 130 = .ok (.invokevirtual 254, 3) := by decide +kernel
theorem dX11_aLine_133 : decode cX11_aLine 133 = .ok (.ifCond .eq 7, 3) := by decide +kernel
theorem dX11_aLine_136 : decode cX11_aLine 136 = .ok (.iconst 1, 1) := by decide +kernel
theorem dX11_aLine_137 : decode cX11_aLine 137 = .ok (.goto 4, 3) := by decide +kernel
theorem dX11_aLine_140 : decode cX11_aLine 140 = .ok (.iconst 0, 1) := by decide +kernel
theorem dX11_aLine_141 : decode cX11_aLine 141 = .ok (.ireturn, 1) := by decide +kernel
theorem dX11_aLine_142 : decode cX11_aLine 142 = .ok (.aload_n 0, 1) := by decide +kernel
theorem dX11_aLine_143 : decode cX11_aLine 143 = .ok (.iconst 2, 1) := by decide +kernel
theorem dX11_aLine_144 : decode cX11_aLine 144 = .ok (.invokevirtual 222, 3) := by decide +kernel
theorem dX11_aLine_147 : decode cX11_aLine 147 = .ok (.ireturn, 1) := by decide +kernel
theorem dX11_aSend_0 : decode cX11_aSend 0 = .ok (.aload_n 0, 1) := by decide +kernel
theorem dX11_aSend_1 : decode cX11_aSend 1 = .ok (.invokevirtual 232, 3) := by decide +kernel
theorem dX11_aSend_4 : decode cX11_aSend 4 = .ok (.aload_n 0, 1) := by decide +kernel
theorem dX11_aSend_5 : decode cX11_aSend 5 = .ok (.invokevirtual 244, 3) := by decide +kernel
theorem dX11_aSend_8 : decode cX11_aSend 8 = .ok (.istore_n 1, 1) := by decide +kernel
theorem dX11_aSend_9 : decode cX11_aSend 9 = .ok (.iload_n 1, 1) := by decide +kernel
theorem dX11_aSend_10 : decode cX11_aSend 10 = .ok (.iconst (-1), 1) := by decide +kernel
theorem dX11_aSend_11 : decode cX11_aSend 11 = .ok (.if_icmp .ne 5, 3) := by decide +kernel
theorem dX11_aSend_14 : decode cX11_aSend 14 = .ok (.iconst 0, 1) := by decide +kernel
theorem dX11_aSend_15 : decode cX11_aSend 15 = .ok (.ireturn, 1) := by decide +kernel
theorem dX11_aSend_16 : decode cX11_aSend 16 = .ok (.aload_n 0, 1) := by decide +kernel
theorem dX11_aSend_17 : decode cX11_aSend 17 = .ok (.bipush 80, 2) := by decide +kernel
theorem dX11_aSend_19 : decode cX11_aSend 19 = .ok (.iload_n 1, 1) := by decide +kernel
theorem dX11_aSend_20 : decode cX11_aSend 20 = .ok (.iadd, 1) := by decide +kernel
theorem dX11_aSend_21 : decode cX11_aSend 21 = .ok (.invokevirtual 47, 3) := by decide +kernel
theorem dX11_aSend_24 : decode cX11_aSend 24 = .ok (.bipush 6, 2) := by decide +kernel
theorem dX11_aSend_26 : decode cX11_aSend 26 = .ok (.if_icmp .ne 10, 3) := by decide +kernel
theorem dX11_aSend_29 : decode cX11_aSend 29 = .ok (.aload_n 0, 1) := by decide +kernel
theorem dX11_aSend_30 : decode cX11_aSend 30 = .ok (.bipush 6, 2) := by decide +kernel
theorem dX11_aSend_32 : decode cX11_aSend 32 = .ok (.invokevirtual 222, 3) := by decide +kernel
theorem dX11_aSend_35 : decode cX11_aSend 35 = .ok (.ireturn, 1) := by decide +kernel
theorem dX11_aSend_36 : decode cX11_aSend 36 = .ok (.aload_n 0, 1) := by decide +kernel
theorem dX11_aSend_37 : decode cX11_aSend 37 = .ok (.invokevirtual 232, 3) := by decide +kernel
theorem dX11_aSend_40 : decode cX11_aSend 40 = .ok (.aload_n 0, 1) := by decide +kernel
theorem dX11_aSend_41 : decode cX11_aSend 41 = .ok (.invokevirtual 244, 3) := by decide +kernel
theorem dX11_aSend_44 : decode cX11_aSend 44 = .ok (.istore_n 2, 1) := by decide +kernel
theorem dX11_aSend_45 : decode cX11_aSend 45 = .ok (.iload_n 2, 1) := by decide +kernel
theorem dX11_aSend_46 : decode cX11_aSend 46 = .ok (.iconst (-1), 1) := by decide +kernel
theorem dX11_aSend_47 : decode cX11_aSend 47 = .ok (.if_icmp .ne 5, 3) := by decide +kernel
theorem dX11_aSend_50 : decode cX11_aSend 50 = .ok (.iconst 0, 1) := by decide +kernel
theorem dX11_aSend_51 : decode cX11_aSend 51 = .ok (.ireturn, 1) := by decide +kernel
theorem dX11_aSend_52 : decode cX11_aSend 52 = .ok (.iload_n 2, 1) := by decide +kernel
theorem dX11_aSend_53 : decode cX11_aSend 53 = .ok (.iload_n 1, 1) := by decide +kernel
theorem dX11_aSend_54 : decode cX11_aSend 54 = .ok (.if_icmp .ne 9, 3) := by decide +kernel
theorem dX11_aSend_57 : decode cX11_aSend 57 = .ok (.aload_n 0, 1) := by decide +kernel
theorem dX11_aSend_58 : decode cX11_aSend 58 = .ok (.iconst 5, 1) := by decide +kernel
theorem dX11_aSend_59 : decode cX11_aSend 59 = .ok (.invokevirtual 222, 3) := by decide +kernel
theorem dX11_aSend_62 : decode cX11_aSend 62 = .ok (.ireturn, 1) := by decide +kernel
theorem dX11_aSend_63 : decode cX11_aSend 63 = .ok (.aload_n 0, 1) := by decide +kernel
theorem dX11_aSend_64 : decode cX11_aSend 64 = .ok (.invokevirtual 232, 3) := by decide +kernel
theorem dX11_aSend_67 : decode cX11_aSend 67 = .ok (.aload_n 0, 1) := by decide +kernel
theorem dX11_aSend_68 : decode cX11_aSend 68 = .ok (.iconst 0, 1) := by decide +kernel
theorem dX11_aSend_69 : decode cX11_aSend 69 = .ok (.bipush 7, 2) := by decide +kernel
theorem dX11_aSend_71 : decode cX11_aSend 71 = .ok (.invokevirtual 235, 3) := by decide +kernel
theorem dX11_aSend_74 : decode cX11_aSend 74 = .ok (.ifCond .ne 5, 3) := by decide +kernel
theorem dX11_aSend_77 : decode cX11_aSend 77 = .ok (.iconst 0, 1) := by decide +kernel
theorem dX11_aSend_78 : decode cX11_aSend 78 = .ok (.ireturn, 1) := by decide +kernel
theorem dX11_aSend_79 : decode cX11_aSend 79 = .ok (.aload_n 0, 1) := by decide +kernel
theorem dX11_aSend_80 : decode cX11_aSend 80 = .ok (.iload_n 1, 1) := by decide +kernel
theorem dX11_aSend_81 : decode cX11_aSend 81 = .ok (.iload_n 2, 1) := by decide +kernel
theorem dX11_aSend_82 : decode cX11_aSend 82 = .ok (.aload_n 0, 1) := by decide +kernel
theorem dX11_aSend_83 : decode cX11_aSend 83 = .ok (.getfield 195, 3) := by decide +kernel
theorem dX11_aSend_86 : decode cX11_aSend 86 = .ok (.invokevirtual 247, 3) := by decide +kernel
theorem dX11_aSend_89 : decode cX11_aSend 89 = .ok (.pop, 1) := by decide +kernel
theorem dX11_aSend_90 : decode cX11_aSend 90 = .ok (.aload_n 0, 1) := by decide +kernel
theorem dX11_aSend_91 : decode cX11_aSend 91 = .ok (.invokevirtual 232, 3) := by decide +kernel
theorem dX11_aSend_94 : decode cX11_aSend 94 = .ok (.iconst 1, 1) := by decide +kernel
theorem dX11_aSend_95 : decode cX11_aSend 95 = .ok (.ireturn, 1) := by decide +kernel
theorem dX11_aState_0 : decode cX11_aState 0 = .ok (.aload_n 0, 1) := by decide +kernel
theorem dX11_aState_1 : decode cX11_aState 1 = .ok (.invokevirtual 232, 3) := by decide +kernel
theorem dX11_aState_4 : decode cX11_aState 4 = .ok (.aload_n 0, 1) := by decide +kernel
theorem dX11_aState_5 : decode cX11_aState 5 = .ok (.invokevirtual 244, 3) := by decide +kernel
theorem dX11_aState_8 : decode cX11_aState 8 = .ok (.istore_n 2, 1) := by decide +kernel
theorem dX11_aState_9 : decode cX11_aState 9 = .ok (.iload_n 2, 1) := by decide +kernel
theorem dX11_aState_10 : decode cX11_aState 10 = .ok (.iconst (-1), 1) := by decide +kernel
theorem dX11_aState_11 : decode cX11_aState 11 = .ok (.if_icmp .ne 5, 3) := by decide +kernel
theorem dX11_aState_14 : decode cX11_aState 14 = .ok (.iconst 0, 1) := by decide +kernel
theorem dX11_aState_15 : decode cX11_aState 15 = .ok (.ireturn, 1) := by decide +kernel
theorem dX11_aState_16 : decode cX11_aState 16 = .ok (.iload_n 1, 1) := by decide +kernel
theorem dX11_aState_17 : decode cX11_aState 17 = .ok (.ifCond .eq 17, 3) := by decide +kernel
theorem dX11_aState_20 : decode cX11_aState 20 = .ok (.aload_n 0, 1) := by decide +kernel
theorem dX11_aState_21 : decode cX11_aState 21 = .ok (.iload_n 2, 1) := by decide +kernel
theorem dX11_aState_22 : decode cX11_aState 22 = .ok (.invokevirtual 55, 3) := by decide +kernel
theorem dX11_aState_25 : decode cX11_aState 25 = .ok (.ifCond .ne 9, 3) := by decide +kernel
theorem dX11_aState_28 : decode cX11_aState 28 = .ok (.aload_n 0, 1) := by decide +kernel
theorem dX11_aState_29 : decode cX11_aState 29 = .ok (.iconst 5, 1) := by decide +kernel
theorem dX11_aState_30 : decode cX11_aState 30 = .ok (.invokevirtual 222, 3) := by decide +kernel
theorem dX11_aState_33 : decode cX11_aState 33 = .ok (.ireturn, 1) := by decide +kernel
theorem dX11_aState_34 : decode cX11_aState 34 = .ok (.iload_n 1, 1) := by decide +kernel
theorem dX11_aState_35 : decode cX11_aState 35 = .ok (.ifCond .eq 15, 3) := by decide +kernel
theorem dX11_aState_38 : decode cX11_aState 38 = .ok (.aload_n 0, 1) := by decide +kernel
theorem dX11_aState_39 : decode cX11_aState 39 = .ok (.bipush 48, 2) := by decide +kernel
theorem dX11_aState_41 : decode cX11_aState 41 = .ok (.iload_n 2, 1) := by decide +kernel
theorem dX11_aState_42 : decode cX11_aState 42 = .ok (.iadd, 1) := by decide +kernel
theorem dX11_aState_43 : decode cX11_aState 43 = .ok (.iconst 0, 1) := by decide +kernel
theorem dX11_aState_44 : decode cX11_aState 44 = .ok (.invokevirtual 43, 3) := by decide +kernel
theorem dX11_aState_47 : decode cX11_aState 47 = .ok (.goto 9, 3) := by decide +kernel
theorem dX11_aState_50 : decode cX11_aState 50 = .ok (.aload_n 0, 1) := by decide +kernel
theorem dX11_aState_51 : decode cX11_aState 51 = .ok (.iconst 1, 1) := by decide +kernel
theorem dX11_aState_52 : decode cX11_aState 52 = .ok (.iload_n 2, 1) := by decide +kernel
theorem dX11_aState_53 : decode cX11_aState 53 = .ok (.invokevirtual 43, 3) := by decide +kernel
theorem dX11_aState_56 : decode cX11_aState 56 = .ok (.aload_n 0, 1) := by decide +kernel
theorem dX11_aState_57 : decode cX11_aState 57 = .ok (.invokevirtual 232, 3) := by decide +kernel
theorem dX11_aState_60 : decode cX11_aState 60 = .ok (.iconst 1, 1) := by decide +kernel
theorem dX11_aState_61 : decode cX11_aState 61 = .ok (.ireturn, 1) := by decide +kernel
theorem dX11_aStation_0 : decode cX11_aStation 0 = .ok (.aload_n 0, 1) := by decide +kernel
theorem dX11_aStation_1 : decode cX11_aStation 1 = .ok (.iconst 0, 1) := by decide +kernel
theorem dX11_aStation_2 : decode cX11_aStation 2 = .ok (.invokevirtual 47, 3) := by decide +kernel
theorem dX11_aStation_5 : decode cX11_aStation 5 = .ok (.bipush 8, 2) := by decide +kernel
theorem dX11_aStation_7 : decode cX11_aStation 7 = .ok (.if_icmp .ne 10, 3) := by decide +kernel
theorem dX11_aStation_10 : decode cX11_aStation 10 = .ok (.aload_n 0, 1) := by decide +kernel
theorem dX11_aStation_11 : decode cX11_aStation 11 = .ok (.bipush 6, 2) := by decide +kernel
theorem dX11_aStation_13 : decode cX11_aStation 13 = .ok (.invokevirtual 222, 3) := by decide +kernel
theorem dX11_aStation_16 : decode cX11_aStation 16 = .ok (.ireturn, 1) := by decide +kernel
theorem dX11_aStation_17 : decode cX11_aStation 17 = .ok (.aload_n 0, 1) := by decide +kernel
theorem dX11_aStation_18 : decode cX11_aStation 18 = .ok (.invokevirtual 232, 3) := by decide +kernel
theorem dX11_aStation_21 : decode cX11_aStation 21 = .ok (.aload_n 0, 1) := by decide +kernel
theorem dX11_aStation_22 : decode cX11_aStation 22 = .ok (.invokevirtual 219, 3) := by decide +kernel
theorem dX11_aStation_25 : decode cX11_aStation 25 = .ok (.ifCond .ne 9, 3) := by decide +kernel
theorem dX11_aStation_28 : decode cX11_aStation 28 = .ok (.aload_n 0, 1) := by decide +kernel
theorem dX11_aStation_29 : decode cX11_aStation 29 = .ok (.iconst 2, 1) := by decide +kernel
theorem dX11_aStation_30 : decode cX11_aStation 30 = .ok (.invokevirtual 222, 3) := by decide +kernel
theorem dX11_aStation_33 : decode cX11_aStation 33 = .ok (.ireturn, 1) := by decide +kernel
theorem dX11_aStation_34 : decode cX11_aStation 34 = .ok (.aload_n 0, 1) := by decide +kernel
theorem dX11_aStation_35 : decode cX11_aStation 35 = .ok (.invokevirtual 225, 3) := by decide +kernel
theorem dX11_aStation_38 : decode cX11_aStation 38 = .ok (.iconst (-1), 1) := by decide +kernel
theorem dX11_aStation_39 : decode cX11_aStation 39 = .ok (.if_icmp .eq 9, 3) := by decide +kernel
theorem dX11_aStation_42 : decode cX11_aStation 42 = .ok (.aload_n 0, 1) := by decide +kernel
theorem dX11_aStation_43 : decode cX11_aStation 43 = .ok (.iconst 3, 1) := by decide +kernel
theorem dX11_aStation_44 : decode cX11_aStation 44 = .ok (.invokevirtual 222, 3) := by decide +kernel
theorem dX11_aStation_47 : decode cX11_aStation 47 = .ok (.ireturn, 1) := by decide +kernel
theorem dX11_aStation_48 : decode cX11_aStation 48 = .ok (.aload_n 0, 1) := by decide +kernel
theorem dX11_aStation_49 : decode cX11_aStation 49 = .ok (.invokevirtual 232, 3) := by decide +kernel
theorem dX11_aStation_52 : decode cX11_aStation 52 = .ok (.aload_n 0, 1) := by decide +kernel
theorem dX11_aStation_53 : decode cX11_aStation 53 = .ok (.iconst 0, 1) := by decide +kernel
theorem dX11_aStation_54 : decode cX11_aStation 54 = .ok (.bipush 99, 2) := by decide +kernel
theorem dX11_aStation_56 : decode cX11_aStation 56 = .ok (.invokevirtual 235, 3) := by decide +kernel
theorem dX11_aStation_59 : decode cX11_aStation 59 = .ok (.ifCond .ne 5, 3) := by decide +kernel
theorem dX11_aStation_62 : decode cX11_aStation 62 = .ok (.iconst 0, 1) := by decide +kernel
theorem dX11_aStation_63 : decode cX11_aStation 63 = .ok (.ireturn, 1) := by decide +kernel
theorem dX11_aStation_64 : decode cX11_aStation 64 = .ok (.aload_n 0, 1) := by decide +kernel
theorem dX11_aStation_65 : decode cX11_aStation 65 = .ok (.aload_n 0, 1) := by decide +kernel
theorem dX11_aStation_66 : decode cX11_aStation 66 = .ok (.getfield 195, 3) := by decide +kernel
theorem dX11_aStation_69 : decode cX11_aStation 69 = .ok (.invokevirtual 238, 3) := by decide +kernel
theorem dX11_aStation_72 : decode cX11_aStation 72 = .ok (.ifCond .eq 9, 3) := by decide +kernel
theorem dX11_aStation_75 : decode cX11_aStation 75 = .ok (.aload_n 0, 1) := by decide +kernel
theorem dX11_aStation_76 : decode cX11_aStation 76 = .ok (.iconst 4, 1) := by decide +kernel
theorem dX11_aStation_77 : decode cX11_aStation 77 = .ok (.invokevirtual 222, 3) := by decide +kernel
theorem dX11_aStation_80 : decode cX11_aStation 80 = .ok (.ireturn, 1) := by decide +kernel
theorem dX11_aStation_81 : decode cX11_aStation 81 = .ok (.aload_n 0, 1) := by decide +kernel
theorem dX11_aStation_82 : decode cX11_aStation 82 = .ok (.aload_n 0, 1) := by decide +kernel
theorem dX11_aStation_83 : decode cX11_aStation 83 = .ok (.getfield 195, 3) := by decide +kernel
theorem dX11_aStation_86 : decode cX11_aStation 86 = .ok (.invokevirtual 241, 3) := by decide +kernel
theorem dX11_aStation_89 : decode cX11_aStation 89 = .ok (.pop, 1) := by decide +kernel
theorem dX11_aStation_90 : decode cX11_aStation 90 = .ok (.aload_n 0, 1) := by decide +kernel
theorem dX11_aStation_91 : decode cX11_aStation 91 = .ok (.invokevirtual 232, 3) := by decide +kernel
theorem dX11_aStation_94 : decode cX11_aStation 94 = .ok (.iconst 1, 1) := by decide +kernel
theorem dX11_aStation_95 : decode cX11_aStation 95 = .ok (.ireturn, 1) := by decide +kernel
theorem dX11_add_0 : decode cX11_add 0 = .ok (.iload_n 1, 1) := by decide +kernel
theorem dX11_add_1 : decode cX11_add 1 = .ok (.iconst 0, 1) := by decide +kernel
theorem dX11_add_2 : decode cX11_add 2 = .ok (.bipush 99, 2) := by decide +kernel
theorem dX11_add_4 : decode cX11_add 4 = .ok (.invokestatic 228, 3) := by decide +kernel
theorem dX11_add_7 : decode cX11_add 7 = .ok (.ifCond .ne 9, 3) := by decide +kernel
theorem dX11_add_10 : decode cX11_add 10 = .ok (.aload_n 0, 1) := by decide +kernel
theorem dX11_add_11 : decode cX11_add 11 = .ok (.iconst 1, 1) := by decide +kernel
theorem dX11_add_12 : decode cX11_add 12 = .ok (.invokevirtual 267, 3) := by decide +kernel
theorem dX11_add_15 : decode cX11_add 15 = .ok (.ireturn, 1) := by decide +kernel
theorem dX11_add_16 : decode cX11_add 16 = .ok (.aload_n 0, 1) := by decide +kernel
theorem dX11_add_17 : decode cX11_add 17 = .ok (.iconst 0, 1) := by decide +kernel
theorem dX11_add_18 : decode cX11_add 18 = .ok (.invokevirtual 47, 3) := by decide +kernel
theorem dX11_add_21 : decode cX11_add 21 = .ok (.bipush 8, 2) := by decide +kernel
theorem dX11_add_23 : decode cX11_add 23 = .ok (.if_icmp .ne 9, 3) := by decide +kernel
theorem dX11_add_26 : decode cX11_add 26 = .ok (.aload_n 0, 1) := by decide +kernel
theorem dX11_add_27 : decode cX11_add 27 = .ok (.iconst 3, 1) := by decide +kernel
theorem dX11_add_28 : decode cX11_add 28 = .ok (.invokevirtual 267, 3) := by decide +kernel
theorem dX11_add_31 : decode cX11_add 31 = .ok (.ireturn, 1) := by decide +kernel
theorem dX11_add_32 : decode cX11_add 32 = .ok (.aload_n 0, 1) := by decide +kernel
theorem dX11_add_33 : decode cX11_add 33 = .ok (.iload_n 1, 1) := by decide +kernel
theorem dX11_add_34 : decode cX11_add 34 = .ok (.invokevirtual 238, 3) := by decide +kernel
theorem dX11_add_37 : decode cX11_add 37 = .ok (.ifCond .eq 10, 3) := by decide +kernel
theorem dX11_add_40 : decode cX11_add 40 = .ok (.aload_n 0, 1) := by decide +kernel
theorem dX11_add_41 : decode cX11_add 41 = .ok (.bipush 8, 2) := by decide +kernel
theorem dX11_add_43 : decode cX11_add 43 = .ok (.invokevirtual 267, 3) := by decide +kernel
theorem dX11_add_46 : decode cX11_add 46 = .ok (.ireturn, 1) := by decide +kernel
theorem dX11_add_47 : decode cX11_add 47 = .ok (.aload_n 0, 1) := by decide +kernel
theorem dX11_add_48 : decode cX11_add 48 = .ok (.invokevirtual 291, 3) := by decide +kernel
theorem dX11_add_51 : decode cX11_add 51 = .ok (.aload_n 0, 1) := by decide +kernel
theorem dX11_add_52 : decode cX11_add 52 = .ok (.aload_n 0, 1) := by decide +kernel
theorem dX11_add_53 : decode cX11_add 53 = .ok (.iload_n 1, 1) := by decide +kernel
theorem dX11_add_54 : decode cX11_add 54 = .ok (.invokevirtual 241, 3) := by decide +kernel
theorem dX11_add_57 : decode cX11_add 57 = .ok (.invokevirtual 276, 3) := by decide +kernel
theorem dX11_add_60 : decode cX11_add 60 = .ok (.ireturn, 1) := by decide +kernel
theorem dX11_adds_0 : decode cX11_adds 0 = .ok (.aload_n 0, 1) := by decide +kernel
theorem dX11_adds_1 : decode cX11_adds 1 = .ok (.getfield 7, 3) := by decide +kernel
theorem dX11_adds_4 : decode cX11_adds 4 = .ok (.iload_n 1, 1) := by decide +kernel
theorem dX11_adds_5 : decode cX11_adds 5 = .ok (.dup2, 1) := by decide +kernel
theorem dX11_adds_6 : decode cX11_adds 6 = .ok (.iaload, 1) := by decide +kernel
theorem dX11_adds_7 : decode cX11_adds 7 = .ok (.iload_n 2, 1) := by decide +kernel
theorem dX11_adds_8 : decode cX11_adds 8 = .ok (.iadd, 1) := by decide +kernel
theorem dX11_adds_9 : decode cX11_adds 9 = .ok (.iastore, 1) := by decide +kernel
theorem dX11_adds_10 : decode cX11_adds 10 = .ok (.return_, 1) := by decide +kernel
theorem dX11_ahead_0 : decode cX11_ahead 0 = .ok (.aload_n 0, 1) := by decide +kernel
theorem dX11_ahead_1 : decode cX11_ahead 1 = .ok (.aload_n 0, 1) := by decide +kernel
theorem dX11_ahead_2 : decode cX11_ahead 2 = .ok (.getfield 177, 3) := by decide +kernel
theorem dX11_ahead_5 : decode cX11_ahead 5 = .ok (.invokevirtual 180, 3) := by decide +kernel
theorem dX11_ahead_8 : decode cX11_ahead 8 = .ok (.bipush 32, 2) := by decide +kernel
theorem dX11_ahead_10 : decode cX11_ahead 10 = .ok (.if_icmp .eq 16, 3) := by decide +kernel
theorem dX11_ahead_13 : decode cX11_ahead 13 = .ok (.aload_n 0, 1) := by decide +kernel
theorem dX11_ahead_14 : decode cX11_ahead 14 = .ok (.aload_n 0, 1) := by decide +kernel
theorem dX11_ahead_15 : decode cX11_ahead 15 = .ok (.getfield 177, 3) := by decide +kernel
theorem dX11_ahead_18 : decode cX11_ahead 18 = .ok (.invokevirtual 180, 3) := by decide +kernel
theorem dX11_ahead_21 : decode cX11_ahead 21 = .ok (.bipush 10, 2) := by decide +kernel
theorem dX11_ahead_23 : decode cX11_ahead 23 = .ok (.if_icmp .ne 16, 3) := by decide +kernel
theorem dX11_ahead_26 : decode cX11_ahead 26 = .ok (.aload_n 0, 1) := by decide +kernel
theorem dX11_ahead_27 : decode cX11_ahead 27 = .ok (.dup, 1) := by decide +kernel
theorem dX11_ahead_28 : decode cX11_ahead 28 = .ok (.getfield 177, 3) := by decide +kernel
theorem dX11_ahead_31 : decode cX11_ahead 31 = .ok (.iconst 1, 1) := by decide +kernel
theorem dX11_ahead_32 : decode cX11_ahead 32 = .ok (.iadd, 1) := by decide +kernel
theorem dX11_ahead_33 : decode cX11_ahead 33 = .ok (.putfield 177, 3) := by decide +kernel
theorem dX11_ahead_36 : decode cX11_ahead 36 = .ok (.goto (-36), 3) := by decide +kernel
theorem dX11_ahead_39 : decode cX11_ahead 39 = .ok (.aload_n 0, 1) := by decide +kernel
theorem dX11_ahead_40 : decode cX11_ahead 40 = .ok (.aload_n 0, 1) := by decide +kernel
theorem dX11_ahead_41 : decode cX11_ahead 41 = .ok (.getfield 177, 3) := by decide +kernel
theorem dX11_ahead_44 : decode cX11_ahead 44 = .ok (.putfield 183, 3) := by decide +kernel
theorem dX11_ahead_47 : decode cX11_ahead 47 = .ok (.aload_n 0, 1) := by decide +kernel
theorem dX11_ahead_48 : decode cX11_ahead 48 = .ok (.aload_n 0, 1) := by decide +kernel
theorem dX11_ahead_49 : decode cX11_ahead 49 = .ok (.getfield 177, 3) := by decide +kernel
theorem dX11_ahead_52 : decode cX11_ahead 52 = .ok (.invokevirtual 180, 3) := by decide +kernel
theorem dX11_ahead_55 : decode cX11_ahead 55 = .ok (.istore_n 1, 1) := by decide +kernel
theorem dX11_ahead_56 : decode cX11_ahead 56 = .ok (.iload_n 1, 1) := by decide +kernel
theorem dX11_ahead_57 : decode cX11_ahead 57 = .ok (.iconst (-1), 1) := by decide +kernel
theorem dX11_ahead_58 : decode cX11_ahead 58 = .ok (.if_icmp .ne 11, 3) := by decide +kernel
theorem dX11_ahead_61 : decode cX11_ahead 61 = .ok (.aload_n 0, 1) := by decide +kernel
theorem dX11_ahead_62 : decode cX11_ahead 62 = .ok (.iconst 0, 1) := by decide +kernel
theorem dX11_ahead_63 : decode cX11_ahead 63 = .ok (.putfield 186, 3) := by decide +kernel
theorem dX11_ahead_66 : decode cX11_ahead 66 = .ok (.goto 162, 3) := by decide +kernel
theorem dX11_ahead_69 : decode cX11_ahead 69 = .ok (.iload_n 1, 1) := by decide +kernel
theorem dX11_ahead_70 : decode cX11_ahead 70 = .ok (.invokestatic 189, 3) := by decide +kernel
theorem dX11_ahead_73 : decode cX11_ahead 73 = .ok (.ifCond .eq 38, 3) := by decide +kernel
theorem dX11_ahead_76 : decode cX11_ahead 76 = .ok (.aload_n 0, 1) := by decide +kernel
theorem dX11_ahead_77 : decode cX11_ahead 77 = .ok (.aload_n 0, 1) := by decide +kernel
theorem dX11_ahead_78 : decode cX11_ahead 78 = .ok (.getfield 177, 3) := by decide +kernel
theorem dX11_ahead_81 : decode cX11_ahead 81 = .ok (.invokevirtual 180, 3) := by decide +kernel
theorem dX11_ahead_84 : decode cX11_ahead 84 = .ok (.invokestatic 189, 3) := by decide +kernel
theorem dX11_ahead_87 : decode cX11_ahead 87 = .ok (.ifCond .eq 16, 3) := by decide +kernel
theorem dX11_ahead_90 : decode cX11_ahead 90 = .ok (.aload_n 0, 1) := by decide +kernel
theorem dX11_ahead_91 : decode cX11_ahead 91 = .ok (.dup, 1) := by decide +kernel
theorem dX11_ahead_92 : decode cX11_ahead 92 = .ok (.getfield 177, 3) := by decide +kernel
theorem dX11_ahead_95 : decode cX11_ahead 95 = .ok (.iconst 1, 1) := by decide +kernel
theorem dX11_ahead_96 : decode cX11_ahead 96 = .ok (.iadd, 1) := by decide +kernel
theorem dX11_ahead_97 : decode cX11_ahead 97 = .ok (.putfield 177, 3) := by decide +kernel
theorem dX11_ahead_100 : decode cX11_ahead 100 = .ok (.goto (-24), 3) := by decide +kernel
theorem dX11_ahead_103 : decode cX11_ahead 103 = .ok (.aload_n 0, 1) := by decide +kernel
theorem dX11_ahead_104 : decode cX11_ahead 104 = .ok (.iconst 2, 1) := by decide +kernel
theorem dX11_ahead_105 : decode cX11_ahead 105 = .ok (.putfield 186, 3) := by decide +kernel
theorem dX11_ahead_108 : decode cX11_ahead 108 = .ok (.goto 120, 3) := by decide +kernel
theorem dX11_ahead_111 : decode cX11_ahead 111 = .ok (.iload_n 1, 1) := by decide +kernel
theorem dX11_ahead_112 : decode cX11_ahead 112 = .ok (.invokestatic 192, 3) := by decide +kernel
theorem dX11_ahead_115 : decode cX11_ahead 115 = .ok (.ifCond .eq 88, 3) := by decide +kernel
theorem dX11_ahead_118 : decode cX11_ahead 118 = .ok (.aload_n 0, 1) := by decide +kernel
theorem dX11_ahead_119 : decode cX11_ahead 119 = .ok (.iconst 0, 1) := by decide +kernel
theorem dX11_ahead_120 : decode cX11_ahead 120 = .ok (.putfield 195, 3) := by decide +kernel
theorem dX11_ahead_123 : decode cX11_ahead 123 = .ok (.aload_n 0, 1) := by decide +kernel
theorem dX11_ahead_124 : decode cX11_ahead 124 = .ok (.aload_n 0, 1) := by decide +kernel
theorem dX11_ahead_125 : decode cX11_ahead 125 = .ok (.getfield 177, 3) := by decide +kernel
theorem dX11_ahead_128 : decode cX11_ahead 128 = .ok (.invokevirtual 180, 3) := by decide +kernel
theorem dX11_ahead_131 : decode cX11_ahead 131 = .ok (.invokestatic 192, 3) := by decide +kernel
theorem dX11_ahead_134 : decode cX11_ahead 134 = .ok (.ifCond .eq 44, 3) := by decide +kernel
theorem dX11_ahead_137 : decode cX11_ahead 137 = .ok (.aload_n 0, 1) := by decide +kernel
theorem dX11_ahead_138 : decode cX11_ahead 138 = .ok (.ldc 198, 2) := by decide +kernel
theorem dX11_ahead_140 : decode cX11_ahead 140 = .ok (.bipush 10, 2) := by decide +kernel
theorem dX11_ahead_142 : decode cX11_ahead 142 = .ok (.aload_n 0, 1) := by decide +kernel
theorem dX11_ahead_143 : decode cX11_ahead 143 = .ok (.getfield 195, 3) := by decide +kernel
theorem dX11_ahead_146 : decode cX11_ahead 146 = .ok (.imul, 1) := by decide +kernel
theorem dX11_ahead_147 : decode cX11_ahead 147 = .ok (.aload_n 0, 1) := by decide +kernel
theorem dX11_ahead_148 : decode cX11_ahead 148 = .ok (.aload_n 0, 1) := by decide +kernel
theorem dX11_ahead_149 : decode cX11_ahead 149 = .ok (.getfield 177, 3) := by decide +kernel
theorem dX11_ahead_152 : decode cX11_ahead 152 = .ok (.invokevirtual 180, 3) := by decide +kernel
theorem dX11_ahead_155 : decode cX11_ahead 155 = .ok (.iadd, 1) := by decide +kernel
theorem dX11_ahead_156 : decode cX11_ahead 156 = .ok (.bipush 48, 2) := by decide +kernel
theorem dX11_ahead_158 : decode cX11_ahead 158 = .ok (.isub, 1) := by decide +kernel
theorem dX11_ahead_159 : decode cX11_ahead 159 = .ok (.invokestatic 199, 3) := by decide +kernel
theorem dX11_ahead_162 : decode cX11_ahead 162 = .ok (.putfield 195, 3) := by decide +kernel
theorem dX11_ahead_165 : decode cX11_ahead 165 = .ok (.aload_n 0, 1) := by decide +kernel
theorem dX11_ahead_166 : decode cX11_ahead 166 = .ok (.dup, 1) := by decide +kernel
theorem dX11_ahead_167 : decode cX11_ahead 167 = .ok (.getfield 177, 3) := by decide +kernel
theorem dX11_ahead_170 : decode cX11_ahead 170 = .ok (.iconst 1, 1) := by decide +kernel
theorem dX11_ahead_171 : decode cX11_ahead 171 = .ok (.iadd, 1) := by decide +kernel
theorem dX11_ahead_172 : decode cX11_ahead 172 = .ok (.putfield 177, 3) := by decide +kernel
theorem dX11_ahead_175 : decode cX11_ahead 175 = .ok (.goto (-52), 3) := by decide +kernel
theorem dX11_ahead_178 : decode cX11_ahead 178 = .ok (.aload_n 0, 1) := by decide +kernel
theorem dX11_ahead_179 : decode cX11_ahead 179 = .ok (.aload_n 0, 1) := by decide +kernel
theorem dX11_ahead_180 : decode cX11_ahead 180 = .ok (.getfield 177, 3) := by decide +kernel
theorem dX11_ahead_183 : decode cX11_ahead 183 = .ok (.aload_n 0, 1) := by decide +kernel
theorem dX11_ahead_184 : decode cX11_ahead 184 = .ok (.getfield 183, 3) := by decide +kernel
theorem dX11_ahead_187 : decode cX11_ahead 187 = .ok (.isub, 1) := by decide +kernel
theorem dX11_ahead_188 : decode cX11_ahead 188 = .ok (.iconst 4, 1) := by decide +kernel
theorem dX11_ahead_189 : decode cX11_ahead 189 = .ok (.if_icmp .le 7, 3) := by decide +kernel
theorem dX11_ahead_192 : decode cX11_ahead 192 = .ok (.iconst 1, 1) := by decide +kernel
theorem dX11_ahead_193 : decode cX11_ahead 193 = .ok (.goto 4, 3) := by decide +kernel
theorem dX11_ahead_196 : decode cX11_ahead 196 = .ok (.iconst 3, 1) := by decide +kernel
theorem dX11_ahead_197 : decode cX11_ahead 197 = .ok (.putfield 186, 3) := by decide +kernel
theorem dX11_ahead_200 : decode cX11_ahead 200 = .ok (.goto 28, 3) := by decide +kernel
theorem dX11_ahead_203 : decode cX11_ahead 203 = .ok (.aload_n 0, 1) := by decide +kernel
theorem dX11_ahead_204 : decode cX11_ahead 204 = .ok (.dup, 1) := by decide +kernel
theorem dX11_ahead_205 : decode cX11_ahead 205 = .ok (.getfield 177, 3) := by decide +kernel
theorem dX11_ahead_208 : decode cX11_ahead 208 = .ok (.iconst 1, 1) := by decide +kernel
theorem dX11_ahead_209 : decode cX11_ahead 209 = .ok (.iadd, 1) := by decide +kernel
theorem dX11_ahead_210 : decode cX11_ahead 210 = .ok (.putfield 177, 3) := by decide +kernel
theorem dX11_ahead_213 : decode cX11_ahead 213 = .ok (.aload_n 0, 1) := by decide +kernel
theorem dX11_ahead_214 : decode cX11_ahead 214 = .ok (.iload_n 1, 1) := by decide +kernel
theorem dX11_ahead_215 : decode cX11_ahead 215 = .ok (.bipush 59, 2) := by decide +kernel
theorem dX11_ahead_217 : decode cX11_ahead 217 = .ok (.if_icmp .ne 7, 3) := by decide +kernel
theorem dX11_ahead_220 : decode cX11_ahead 220 = .ok (.iconst 4, 1) := by decide +kernel
theorem dX11_ahead_221 : decode cX11_ahead 221 = .ok (.goto 4, 3) := by decide +kernel
theorem dX11_ahead_224 : decode cX11_ahead 224 = .ok (.iconst 1, 1) := by decide +kernel
theorem dX11_ahead_225 : decode cX11_ahead 225 = .ok (.putfield 186, 3) := by decide +kernel
theorem dX11_ahead_228 : decode cX11_ahead 228 = .ok (.return_, 1) := by decide +kernel
theorem dX11_back_0 : decode cX11_back 0 = .ok (.aload_n 0, 1) := by decide +kernel
theorem dX11_back_1 : decode cX11_back 1 = .ok (.getfield 285, 3) := by decide +kernel
theorem dX11_back_4 : decode cX11_back 4 = .ok (.ifCond .ne 9, 3) := by decide +kernel
theorem dX11_back_7 : decode cX11_back 7 = .ok (.aload_n 0, 1) := by decide +kernel
theorem dX11_back_8 : decode cX11_back 8 = .ok (.iconst 5, 1) := by decide +kernel
theorem dX11_back_9 : decode cX11_back 9 = .ok (.invokevirtual 267, 3) := by decide +kernel
theorem dX11_back_12 : decode cX11_back 12 = .ok (.ireturn, 1) := by decide +kernel
theorem dX11_back_13 : decode cX11_back 13 = .ok (.aload_n 0, 1) := by decide +kernel
theorem dX11_back_14 : decode cX11_back 14 = .ok (.dup, 1) := by decide +kernel
theorem dX11_back_15 : decode cX11_back 15 = .ok (.getfield 285, 3) := by decide +kernel
theorem dX11_back_18 : decode cX11_back 18 = .ok (.iconst 1, 1) := by decide +kernel
theorem dX11_back_19 : decode cX11_back 19 = .ok (.isub, 1) := by decide +kernel
theorem dX11_back_20 : decode cX11_back 20 = .ok (.putfield 285, 3) := by decide +kernel
theorem dX11_back_23 : decode cX11_back 23 = .ok (.aload_n 0, 1) := by decide +kernel
theorem dX11_back_24 : decode cX11_back 24 = .ok (.sipush 1200, 3) := by decide +kernel
theorem dX11_back_27 : decode cX11_back 27 = .ok (.sipush 600, 3) := by decide +kernel
theorem dX11_back_30 : decode cX11_back 30 = .ok (.aload_n 0, 1) := by decide +kernel
theorem dX11_back_31 : decode cX11_back 31 = .ok (.getfield 285, 3) := by decide +kernel
theorem dX11_back_34 : decode cX11_back 34 = .ok (.imul, 1) := by decide +kernel
theorem dX11_back_35 : decode cX11_back 35 = .ok (.iadd, 1) := by decide +kernel
theorem dX11_back_36 : decode cX11_back 36 = .ok (.iconst 0, 1) := by decide +kernel
theorem dX11_back_37 : decode cX11_back 37 = .ok (.invokevirtual 270, 3) := by decide +kernel
theorem dX11_back_40 : decode cX11_back 40 = .ok (.aload_n 0, 1) := by decide +kernel
theorem dX11_back_41 : decode cX11_back 41 = .ok (.aload_n 0, 1) := by decide +kernel
theorem dX11_back_42 : decode cX11_back 42 = .ok (.getfield 285, 3) := by decide +kernel
theorem dX11_back_45 : decode cX11_back 45 = .ok (.invokevirtual 276, 3) := by decide +kernel
theorem dX11_back_48 : decode cX11_back 48 = .ok (.ireturn, 1) := by decide +kernel
theorem dX11_beacon_0 : decode cX11_beacon 0 = .ok (.iload_n 1, 1) := by decide +kernel
theorem dX11_beacon_1 : decode cX11_beacon 1 = .ok (.iconst 0, 1) := by decide +kernel
theorem dX11_beacon_2 : decode cX11_beacon 2 = .ok (.iconst 2, 1) := by decide +kernel
theorem dX11_beacon_3 : decode cX11_beacon 3 = .ok (.invokestatic 228, 3) := by decide +kernel
theorem dX11_beacon_6 : decode cX11_beacon 6 = .ok (.ifCond .ne 9, 3) := by decide +kernel
theorem dX11_beacon_9 : decode cX11_beacon 9 = .ok (.aload_n 0, 1) := by decide +kernel
theorem dX11_beacon_10 : decode cX11_beacon 10 = .ok (.iconst 1, 1) := by decide +kernel
theorem dX11_beacon_11 : decode cX11_beacon 11 = .ok (.invokevirtual 267, 3) := by decide +kernel
theorem dX11_beacon_14 : decode cX11_beacon 14 = .ok (.ireturn, 1) := by decide +kernel
theorem dX11_beacon_15 : decode cX11_beacon 15 = .ok (.iload_n 1, 1) := by decide +kernel
theorem dX11_beacon_16 : decode cX11_beacon 16 = .ok (.ifCond .le 19, 3) := by decide +kernel
theorem dX11_beacon_19 : decode cX11_beacon 19 = .ok (.aload_n 0, 1) := by decide +kernel
theorem dX11_beacon_20 : decode cX11_beacon 20 = .ok (.bipush 18, 2) := by decide +kernel
theorem dX11_beacon_22 : decode cX11_beacon 22 = .ok (.invokevirtual 47, 3) := by decide +kernel
theorem dX11_beacon_25 : decode cX11_beacon 25 = .ok (.iconst 2, 1) := by decide +kernel
theorem dX11_beacon_26 : decode cX11_beacon 26 = .ok (.if_icmp .eq 9, 3) := by decide +kernel
theorem dX11_beacon_29 : decode cX11_beacon 29 = .ok (.aload_n 0, 1) := by decide +kernel
theorem dX11_beacon_30 : decode cX11_beacon 30 = .ok (.iconst 5, 1) := by decide +kernel
theorem dX11_beacon_31 : decode cX11_beacon 31 = .ok (.invokevirtual 267, 3) := by decide +kernel
theorem dX11_beacon_34 : decode cX11_beacon 34 = .ok (.ireturn, 1) := by decide +kernel
theorem dX11_beacon_35 : decode cX11_beacon 35 = .ok (.aload_n 0, 1) := by decide +kernel
theorem dX11_beacon_36 : decode cX11_beacon 36 = .ok (.aload_n 0, 1) := by decide +kernel
theorem dX11_beacon_37 : decode cX11_beacon 37 = .ok (.bipush 18, 2) := by decide +kernel
theorem dX11_beacon_39 : decode cX11_beacon 39 = .ok (.iload_n 1, 1) := by decide +kernel
theorem dX11_beacon_40 : decode cX11_beacon 40 = .ok (.iadd, 1) := by decide +kernel
theorem dX11_beacon_41 : decode cX11_beacon 41 = .ok (.invokevirtual 47, 3) := by decide +kernel
theorem dX11_beacon_44 : decode cX11_beacon 44 = .ok (.invokevirtual 276, 3) := by decide +kernel
theorem dX11_beacon_47 : decode cX11_beacon 47 = .ok (.ireturn, 1) := by decide +kernel
theorem dX11_beacons_0 : decode cX11_beacons 0 = .ok (.aload_n 0, 1) := by decide +kernel
theorem dX11_beacons_1 : decode cX11_beacons 1 = .ok (.bipush 18, 2) := by decide +kernel
theorem dX11_beacons_3 : decode cX11_beacons 3 = .ok (.iconst 2, 1) := by decide +kernel
theorem dX11_beacons_4 : decode cX11_beacons 4 = .ok (.invokevirtual 43, 3) := by decide +kernel
theorem dX11_beacons_7 : decode cX11_beacons 7 = .ok (.aload_n 0, 1) := by decide +kernel
theorem dX11_beacons_8 : decode cX11_beacons 8 = .ok (.bipush 19, 2) := by decide +kernel
theorem dX11_beacons_10 : decode cX11_beacons 10 = .ok (.aload_n 0, 1) := by decide +kernel
theorem dX11_beacons_11 : decode cX11_beacons 11 = .ok (.aload_n 0, 1) := by decide +kernel
theorem dX11_beacons_12 : decode cX11_beacons 12 = .ok (.bipush 16, 2) := by decide +kernel
theorem dX11_beacons_14 : decode cX11_beacons 14 = .ok (.invokevirtual 47, 3) := by decide +kernel
theorem dX11_beacons_17 : decode cX11_beacons 17 = .ok (.invokevirtual 55, 3) := by decide +kernel
theorem dX11_beacons_20 : decode cX11_beacons 20 = .ok (.ifCond .eq 12, 3) := by decide +kernel
theorem dX11_beacons_23 : decode cX11_beacons 23 = .ok (.aload_n 0, 1) := by decide +kernel
theorem dX11_beacons_24 : decode cX11_beacons 24 = .ok (.bipush 16, 2) := by decide +kernel
theorem dX11_beacons_26 : decode cX11_beacons 26 = .ok (.invokevirtual 47, 3) := by decide +kernel
theorem dX11_beacons_29 : decode cX11_beacons 29 = .ok (.goto 14, 3) := by decide +kernel
theorem dX11_beacons_32 : decode cX11_beacons 32 = .ok (.aload_n 0, 1) := by decide +kernel
theorem dX11_beacons_33 : decode cX11_beacons 33 = .ok (.aload_n 0, 1) := by decide +kernel
theorem dX11_beacons_34 : decode cX11_beacons 34 = .ok (.bipush 16, 2) := by decide +kernel
theorem dX11_beacons_36 : decode cX11_beacons 36 = .ok (.invokevirtual 47, 3) := by decide +kernel
theorem dX11_beacons_39 : decode cX11_beacons 39 = .ok (.iconst (-1), 1) := by decide +kernel
theorem dX11_beacons_40 : decode cX11_beacons 40 = .ok (.invokevirtual 121, 3) := by decide +kernel
theorem dX11_beacons_43 : decode cX11_beacons 43 = .ok (.invokevirtual 43, 3) := by decide +kernel
theorem dX11_beacons_46 : decode cX11_beacons 46 = .ok (.aload_n 0, 1) := by decide +kernel
theorem dX11_beacons_47 : decode cX11_beacons 47 = .ok (.bipush 20, 2) := by decide +kernel
theorem dX11_beacons_49 : decode cX11_beacons 49 = .ok (.aload_n 0, 1) := by decide +kernel
theorem dX11_beacons_50 : decode cX11_beacons 50 = .ok (.aload_n 0, 1) := by decide +kernel
theorem dX11_beacons_51 : decode cX11_beacons 51 = .ok (.bipush 16, 2) := by decide +kernel
theorem dX11_beacons_53 : decode cX11_beacons 53 = .ok (.invokevirtual 47, 3) := by decide +kernel
theorem dX11_beacons_56 : decode cX11_beacons 56 = .ok (.iconst 1, 1) := by decide +kernel
theorem dX11_beacons_57 : decode cX11_beacons 57 = .ok (.invokevirtual 121, 3) := by decide +kernel
theorem dX11_beacons_60 : decode cX11_beacons 60 = .ok (.invokevirtual 43, 3) := by decide +kernel
theorem dX11_beacons_63 : decode cX11_beacons 63 = .ok (.aload_n 0, 1) := by decide +kernel
theorem dX11_beacons_64 : decode cX11_beacons 64 = .ok (.bipush 26, 2) := by decide +kernel
theorem dX11_beacons_66 : decode cX11_beacons 66 = .ok (.iconst 1, 1) := by decide +kernel
theorem dX11_beacons_67 : decode cX11_beacons 67 = .ok (.invokevirtual 69, 3) := by decide +kernel
theorem dX11_beacons_70 : decode cX11_beacons 70 = .ok (.aload_n 0, 1) := by decide +kernel
theorem dX11_beacons_71 : decode cX11_beacons 71 = .ok (.iconst 5, 1) := by decide +kernel
theorem dX11_beacons_72 : decode cX11_beacons 72 = .ok (.aload_n 0, 1) := by decide +kernel
theorem dX11_beacons_73 : decode cX11_beacons 73 = .ok (.bipush 19, 2) := by decide +kernel
theorem dX11_beacons_75 : decode cX11_beacons 75 = .ok (.invokevirtual 47, 3) := by decide +kernel
theorem dX11_beacons_78 : decode cX11_beacons 78 = .ok (.invokevirtual 72, 3) := by decide +kernel
theorem dX11_beacons_81 : decode cX11_beacons 81 = .ok (.return_, 1) := by decide +kernel
theorem dX11_been_0 : decode cX11_been 0 = .ok (.iload_n 1, 1) := by decide +kernel
theorem dX11_been_1 : decode cX11_been 1 = .ok (.iconst 0, 1) := by decide +kernel
theorem dX11_been_2 : decode cX11_been 2 = .ok (.bipush 9, 2) := by decide +kernel
theorem dX11_been_4 : decode cX11_been 4 = .ok (.invokestatic 228, 3) := by decide +kernel
theorem dX11_been_7 : decode cX11_been 7 = .ok (.ifCond .eq 18, 3) := by decide +kernel
theorem dX11_been_10 : decode cX11_been 10 = .ok (.aload_n 0, 1) := by decide +kernel
theorem dX11_been_11 : decode cX11_been 11 = .ok (.aload_n 0, 1) := by decide +kernel
theorem dX11_been_12 : decode cX11_been 12 = .ok (.bipush 21, 2) := by decide +kernel
theorem dX11_been_14 : decode cX11_been 14 = .ok (.iload_n 1, 1) := by decide +kernel
theorem dX11_been_15 : decode cX11_been 15 = .ok (.iadd, 1) := by decide +kernel
theorem dX11_been_16 : decode cX11_been 16 = .ok (.invokevirtual 47, 3) := by decide +kernel
theorem dX11_been_19 : decode cX11_been 19 = .ok (.invokevirtual 276, 3) := by decide +kernel
theorem dX11_been_22 : decode cX11_been 22 = .ok (.goto 8, 3) := by decide +kernel
theorem dX11_been_25 : decode cX11_been 25 = .ok (.aload_n 0, 1) := by decide +kernel
theorem dX11_been_26 : decode cX11_been 26 = .ok (.iconst 1, 1) := by decide +kernel
theorem dX11_been_27 : decode cX11_been 27 = .ok (.invokevirtual 267, 3) := by decide +kernel
theorem dX11_been_30 : decode cX11_been 30 = .ok (.ireturn, 1) := by decide +kernel
theorem dX11_begins_0 : decode cX11_begins 0 = .ok (.iconst 0, 1) := by decide +kernel
theorem dX11_begins_1 : decode cX11_begins 1 = .ok (.istore_n 1, 1) := by decide +kernel
theorem dX11_begins_2 : decode cX11_begins 2 = .ok (.iload_n 1, 1) := by decide +kernel
theorem dX11_begins_3 : decode cX11_begins 3 = .ok (.sipush 600, 3) := by decide +kernel
theorem dX11_begins_6 : decode cX11_begins 6 = .ok (.if_icmp .ge 15, 3) := by decide +kernel
theorem dX11_begins_9 : decode cX11_begins 9 = .ok (.aload_n 0, 1) := by decide +kernel
theorem dX11_begins_10 : decode cX11_begins 10 = .ok (.iload_n 1, 1) := by decide +kernel
theorem dX11_begins_11 : decode cX11_begins 11 = .ok (.iconst 0, 1) := by decide +kernel
theorem dX11_begins_12 : decode cX11_begins 12 = .ok (.invokevirtual 43, 3) := by decide +kernel
theorem dX11_begins_15 : decode cX11_begins 15 = .ok (.iinc 1 1, 3) := by decide +kernel
theorem dX11_begins_18 : decode cX11_begins 18 = .ok (.goto (-16), 3) := by decide +kernel
theorem dX11_begins_21 : decode cX11_begins 21 = .ok (.aload_n 0, 1) := by decide +kernel
theorem dX11_begins_22 : decode cX11_begins 22 = .ok (.iconst 1, 1) := by decide +kernel
theorem dX11_begins_23 : decode cX11_begins 23 = .ok (.iconst (-1), 1) := by decide +kernel
theorem dX11_begins_24 : decode cX11_begins 24 = .ok (.invokevirtual 43, 3) := by decide +kernel
theorem dX11_begins_27 : decode cX11_begins 27 = .ok (.aload_n 0, 1) := by decide +kernel
theorem dX11_begins_28 : decode cX11_begins 28 = .ok (.bipush 16, 2) := by decide +kernel
theorem dX11_begins_30 : decode cX11_begins 30 = .ok (.iconst (-1), 1) := by decide +kernel
theorem dX11_begins_31 : decode cX11_begins 31 = .ok (.invokevirtual 43, 3) := by decide +kernel
theorem dX11_begins_34 : decode cX11_begins 34 = .ok (.return_, 1) := by decide +kernel
theorem dX11_blamed_0 : decode cX11_blamed 0 = .ok (.aload_n 0, 1) := by decide +kernel
theorem dX11_blamed_1 : decode cX11_blamed 1 = .ok (.iconst 0, 1) := by decide +kernel
theorem dX11_blamed_2 : decode cX11_blamed 2 = .ok (.invokevirtual 322, 3) := by decide +kernel
theorem dX11_blamed_5 : decode cX11_blamed 5 = .ok (.iconst (-1), 1) := by decide +kernel
theorem dX11_blamed_6 : decode cX11_blamed 6 = .ok (.istore_n 1, 1) := by decide +kernel
theorem dX11_blamed_7 : decode cX11_blamed 7 = .ok (.iconst 0, 1) := by decide +kernel
theorem dX11_blamed_8 : decode cX11_blamed 8 = .ok (.istore_n 2, 1) := by decide +kernel
theorem dX11_blamed_9 : decode cX11_blamed 9 = .ok (.iload_n 2, 1) := by decide +kernel
theorem dX11_blamed_10 : decode cX11_blamed 10 = .ok (.sipush 3000, 3) := by decide +kernel
theorem dX11_blamed_13 : decode cX11_blamed 13 = .ok (.if_icmp .ge 23, 3) := by decide +kernel
theorem dX11_blamed_16 : decode cX11_blamed 16 = .ok (.iload_n 1, 1) := by decide +kernel
theorem dX11_blamed_17 : decode cX11_blamed 17 = .ok (.iconst (-1), 1) := by decide +kernel
theorem dX11_blamed_18 : decode cX11_blamed 18 = .ok (.if_icmp .ne 18, 3) := by decide +kernel
theorem dX11_blamed_21 : decode cX11_blamed 21 = .ok (.aload_n 0, 1) := by decide +kernel
theorem dX11_blamed_22 : decode cX11_blamed 22 = .ok (.invokevirtual 297, 3) := by decide +kernel
theorem dX11_blamed_25 : decode cX11_blamed 25 = .ok (.aload_n 0, 1) := by decide +kernel
theorem dX11_blamed_26 : decode cX11_blamed 26 = .ok (.getfield 143, 3) := by decide +kernel
theorem dX11_blamed_29 : decode cX11_blamed 29 = .ok (.istore_n 1, 1) := by decide +kernel
theorem dX11_blamed_30 : decode cX11_blamed 30 = .ok (.iinc 2 1, 3) := by decide +kernel
theorem dX11_blamed_33 : decode cX11_blamed 33 = .ok (.goto (-24), 3) := by decide +kernel
theorem dX11_blamed_36 : decode cX11_blamed 36 = .ok (.aload_n 0, 1) := by decide +kernel
theorem dX11_blamed_37 : decode cX11_blamed 37 = .ok (.invokevirtual 329, 3) := by decide +kernel
theorem dX11_blamed_40 : decode cX11_blamed 40 = .ok (.aload_n 0, 1) := by decide +kernel
theorem dX11_blamed_41 : decode cX11_blamed 41 = .ok (.iload_n 1, 1) := by decide +kernel
theorem dX11_blamed_42 : decode cX11_blamed 42 = .ok (.invokevirtual 336, 3) := by decide +kernel
theorem dX11_blamed_45 : decode cX11_blamed 45 = .ok (.ireturn, 1) := by decide +kernel
theorem dX11_byteAt_0 : decode cX11_byteAt 0 = .ok (.iload_n 1, 1) := by decide +kernel
theorem dX11_byteAt_1 : decode cX11_byteAt 1 = .ok (.aload_n 0, 1) := by decide +kernel
theorem dX11_byteAt_2 : decode cX11_byteAt 2 = .ok (.getfield 174, 3) := by decide +kernel
theorem dX11_byteAt_5 : decode cX11_byteAt 5 = .ok (.if_icmp .ge 16, 3) := by decide +kernel
theorem dX11_byteAt_8 : decode cX11_byteAt 8 = .ok (.aload_n 0, 1) := by decide +kernel
theorem dX11_byteAt_9 : decode cX11_byteAt 9 = .ok (.getfield 17, 3) := by decide +kernel
theorem dX11_byteAt_12 : decode cX11_byteAt 12 = .ok (.iload_n 1, 1) := by decide +kernel
theorem dX11_byteAt_13 : decode cX11_byteAt 13 = .ok (.baload, 1) := by decide +kernel
theorem dX11_byteAt_14 : decode cX11_byteAt 14 = .ok (.sipush 255, 3) := by decide +kernel
theorem dX11_byteAt_17 : decode cX11_byteAt 17 = .ok (.iand, 1) := by decide +kernel
theorem dX11_byteAt_18 : decode cX11_byteAt 18 = .ok (.goto 4, 3) := by decide +kernel
theorem dX11_byteAt_21 : decode cX11_byteAt 21 = .ok (.iconst (-1), 1) := by decide +kernel
theorem dX11_byteAt_22 : decode cX11_byteAt 22 = .ok (.ireturn, 1) := by decide +kernel
theorem dX11_claims_0 : decode cX11_claims 0 = .ok (.aload_n 0, 1) := by decide +kernel
theorem dX11_claims_1 : decode cX11_claims 1 = .ok (.bipush 18, 2) := by decide +kernel
theorem dX11_claims_3 : decode cX11_claims 3 = .ok (.iconst 1, 1) := by decide +kernel
theorem dX11_claims_4 : decode cX11_claims 4 = .ok (.invokevirtual 43, 3) := by decide +kernel
theorem dX11_claims_7 : decode cX11_claims 7 = .ok (.aload_n 0, 1) := by decide +kernel
theorem dX11_claims_8 : decode cX11_claims 8 = .ok (.bipush 25, 2) := by decide +kernel
theorem dX11_claims_10 : decode cX11_claims 10 = .ok (.iconst 1, 1) := by decide +kernel
theorem dX11_claims_11 : decode cX11_claims 11 = .ok (.invokevirtual 69, 3) := by decide +kernel
theorem dX11_claims_14 : decode cX11_claims 14 = .ok (.aload_n 0, 1) := by decide +kernel
theorem dX11_claims_15 : decode cX11_claims 15 = .ok (.iconst 4, 1) := by decide +kernel
theorem dX11_claims_16 : decode cX11_claims 16 = .ok (.aload_n 0, 1) := by decide +kernel
theorem dX11_claims_17 : decode cX11_claims 17 = .ok (.invokevirtual 146, 3) := by decide +kernel
theorem dX11_claims_20 : decode cX11_claims 20 = .ok (.invokevirtual 72, 3) := by decide +kernel
theorem dX11_claims_23 : decode cX11_claims 23 = .ok (.return_, 1) := by decide +kernel
theorem dX11_closes_0 : decode cX11_closes 0 = .ok (.aload_n 0, 1) := by decide +kernel
theorem dX11_closes_1 : decode cX11_closes 1 = .ok (.getfield 186, 3) := by decide +kernel
theorem dX11_closes_4 : decode cX11_closes 4 = .ok (.iconst 4, 1) := by decide +kernel
theorem dX11_closes_5 : decode cX11_closes 5 = .ok (.if_icmp .eq 9, 3) := by decide +kernel
theorem dX11_closes_8 : decode cX11_closes 8 = .ok (.aload_n 0, 1) := by decide +kernel
theorem dX11_closes_9 : decode cX11_closes 9 = .ok (.iconst 2, 1) := by decide +kernel
theorem dX11_closes_10 : decode cX11_closes 10 = .ok (.invokevirtual 222, 3) := by decide +kernel
theorem dX11_closes_13 : decode cX11_closes 13 = .ok (.ireturn, 1) := by decide +kernel
theorem dX11_closes_14 : decode cX11_closes 14 = .ok (.aload_n 0, 1) := by decide +kernel
theorem dX11_closes_15 : decode cX11_closes 15 = .ok (.invokevirtual 232, 3) := by decide +kernel
theorem dX11_closes_18 : decode cX11_closes 18 = .ok (.iconst 1, 1) := by decide +kernel
theorem dX11_closes_19 : decode cX11_closes 19 = .ok (.ireturn, 1) := by decide +kernel
theorem dX11_comes_0 : decode cX11_comes 0 = .ok (.aload_n 0, 1) := by decide +kernel
theorem dX11_comes_1 : decode cX11_comes 1 = .ok (.iconst 0, 1) := by decide +kernel
theorem dX11_comes_2 : decode cX11_comes 2 = .ok (.invokevirtual 47, 3) := by decide +kernel
theorem dX11_comes_5 : decode cX11_comes 5 = .ok (.istore_n 2, 1) := by decide +kernel
theorem dX11_comes_6 : decode cX11_comes 6 = .ok (.aload_n 0, 1) := by decide +kernel
theorem dX11_comes_7 : decode cX11_comes 7 = .ok (.bipush 40, 2) := by decide +kernel
theorem dX11_comes_9 : decode cX11_comes 9 = .ok (.iload_n 2, 1) := by decide +kernel
theorem dX11_comes_10 : decode cX11_comes 10 = .ok (.iadd, 1) := by decide +kernel
theorem dX11_comes_11 : decode cX11_comes 11 = .ok (.iload_n 1, 1) := by decide +kernel
theorem dX11_comes_12 : decode cX11_comes 12 = .ok (.invokevirtual 43, 3) := by decide +kernel
theorem dX11_comes_15 : decode cX11_comes 15 = .ok (.aload_n 0, 1) := by decide +kernel
theorem dX11_comes_16 : decode cX11_comes 16 = .ok (.bipush 48, 2) := by decide +kernel
theorem dX11_comes_18 : decode cX11_comes 18 = .ok (.iload_n 2, 1) := by decide +kernel
theorem dX11_comes_19 : decode cX11_comes 19 = .ok (.iadd, 1) := by decide +kernel
theorem dX11_comes_20 : decode cX11_comes 20 = .ok (.iconst 1, 1) := by decide +kernel
theorem dX11_comes_21 : decode cX11_comes 21 = .ok (.invokevirtual 43, 3) := by decide +kernel
theorem dX11_comes_24 : decode cX11_comes 24 = .ok (.aload_n 0, 1) := by decide +kernel
theorem dX11_comes_25 : decode cX11_comes 25 = .ok (.bipush 56, 2) := by decide +kernel
theorem dX11_comes_27 : decode cX11_comes 27 = .ok (.iload_n 2, 1) := by decide +kernel
theorem dX11_comes_28 : decode cX11_comes 28 = .ok (.iadd, 1) := by decide +kernel
theorem dX11_comes_29 : decode cX11_comes 29 = .ok (.iconst (-1), 1) := by decide +kernel
theorem dX11_comes_30 : decode cX11_comes 30 = .ok (.invokevirtual 43, 3) := by decide +kernel
theorem dX11_comes_33 : decode cX11_comes 33 = .ok (.aload_n 0, 1) := by decide +kernel
theorem dX11_comes_34 : decode cX11_comes 34 = .ok (.iconst 0, 1) := by decide +kernel
theorem dX11_comes_35 : decode cX11_comes 35 = .ok (.iconst 1, 1) := by decide +kernel
theorem dX11_comes_36 : decode cX11_comes 36 = .ok (.invokevirtual 69, 3) := by decide +kernel
theorem dX11_comes_39 : decode cX11_comes 39 = .ok (.iload_n 2, 1) := by decide +kernel
theorem dX11_comes_40 : decode cX11_comes 40 = .ok (.ireturn, 1) := by decide +kernel
theorem dX11_comesHome_0 : decode cX11_comesHome 0 = .ok (.aload_n 0, 1) := by decide +kernel
theorem dX11_comesHome_1 : decode cX11_comesHome 1 = .ok (.bipush 13, 2) := by decide +kernel
theorem dX11_comesHome_3 : decode cX11_comesHome 3 = .ok (.invokevirtual 47, 3) := by decide +kernel
theorem dX11_comesHome_6 : decode cX11_comesHome 6 = .ok (.iconst 1, 1) := by decide +kernel
theorem dX11_comesHome_7 : decode cX11_comesHome 7 = .ok (.if_icmp .ne 7, 3) := by decide +kernel
theorem dX11_comesHome_10 : decode cX11_comesHome 10 = .ok (.iconst 1, 1) := by decide +kernel
theorem dX11_comesHome_11 : decode cX11_comesHome 11 = .ok (.goto 4, 3) := by decide +kernel
theorem dX11_comesHome_14 : decode cX11_comesHome 14 = .ok (.iconst 0, 1) := by decide +kernel
theorem dX11_comesHome_15 : decode cX11_comesHome 15 = .ok (.istore_n 2, 1) := by decide +kernel
theorem dX11_comesHome_16 : decode cX11_comesHome 16 = .ok (.iload_n 2, 1) := by decide +kernel
theorem dX11_comesHome_17 : decode cX11_comesHome 17 = .ok (.ifCond .eq 8, 3) := by decide +kernel
theorem dX11_comesHome_20 : decode cX11_comesHome 20 = .ok (.aload_n 0, 1) := by decide +kernel
theorem dX11_comesHome_21 : decode cX11_comesHome 21 = .ok (.iload_n 1, 1) := by decide +kernel
theorem dX11_comesHome_22 : decode cX11_comesHome 22 = .ok (.invokevirtual 115, 3) := by decide +kernel
theorem dX11_comesHome_25 : decode cX11_comesHome 25 = .ok (.aload_n 0, 1) := by decide +kernel
theorem dX11_comesHome_26 : decode cX11_comesHome 26 = .ok (.bipush 21, 2) := by decide +kernel
theorem dX11_comesHome_28 : decode cX11_comesHome 28 = .ok (.iload_n 2, 1) := by decide +kernel
theorem dX11_comesHome_29 : decode cX11_comesHome 29 = .ok (.ifCond .eq 7, 3) := by decide +kernel
theorem dX11_comesHome_32 : decode cX11_comesHome 32 = .ok (.iconst 0, 1) := by decide +kernel
theorem dX11_comesHome_33 : decode cX11_comesHome 33 = .ok (.goto 4, 3) := by decide +kernel
theorem dX11_comesHome_36 : decode cX11_comesHome 36 = .ok (.iconst 1, 1) := by decide +kernel
theorem dX11_comesHome_37 : decode cX11_comesHome 37 = .ok (.iadd, 1) := by decide +kernel
theorem dX11_comesHome_38 : decode cX11_comesHome 38 = .ok (.iconst 1, 1) := by decide +kernel
theorem dX11_comesHome_39 : decode cX11_comesHome 39 = .ok (.invokevirtual 69, 3) := by decide +kernel
theorem dX11_comesHome_42 : decode cX11_comesHome 42 = .ok (.aload_n 0, 1) := by decide +kernel
theorem dX11_comesHome_43 : decode cX11_comesHome 43 = .ok (.iload_n 2, 1) := by decide +kernel
theorem dX11_comesHome_44 : decode cX11_comesHome 44 = .ok (.ifCond .eq 7, 3) := by decide +kernel
theorem dX11_comesHome_47 : decode cX11_comesHome 47 = .ok (.iconst 0, 1) := by decide +kernel
theorem dX11_comesHome_48 : decode cX11_comesHome 48 = .ok (.goto 4, 3) := by decide +kernel
theorem dX11_comesHome_51 : decode cX11_comesHome 51 = .ok (.iconst 1, 1) := by decide +kernel
theorem dX11_comesHome_52 : decode cX11_comesHome 52 = .ok (.iload_n 1, 1) := by decide +kernel
theorem dX11_comesHome_53 : decode cX11_comesHome 53 = .ok (.invokevirtual 72, 3) := by decide +kernel
theorem dX11_comesHome_56 : decode cX11_comesHome 56 = .ok (.aload_n 0, 1) := by decide +kernel
theorem dX11_comesHome_57 : decode cX11_comesHome 57 = .ok (.iconst 5, 1) := by decide +kernel
theorem dX11_comesHome_58 : decode cX11_comesHome 58 = .ok (.iconst 1, 1) := by decide +kernel
theorem dX11_comesHome_59 : decode cX11_comesHome 59 = .ok (.invokevirtual 43, 3) := by decide +kernel
theorem dX11_comesHome_62 : decode cX11_comesHome 62 = .ok (.aload_n 0, 1) := by decide +kernel
theorem dX11_comesHome_63 : decode cX11_comesHome 63 = .ok (.bipush 9, 2) := by decide +kernel
theorem dX11_comesHome_65 : decode cX11_comesHome 65 = .ok (.iconst 0, 1) := by decide +kernel
theorem dX11_comesHome_66 : decode cX11_comesHome 66 = .ok (.invokevirtual 43, 3) := by decide +kernel
theorem dX11_comesHome_69 : decode cX11_comesHome 69 = .ok (.aload_n 0, 1) := by decide +kernel
theorem dX11_comesHome_70 : decode cX11_comesHome 70 = .ok (.getfield 94, 3) := by decide +kernel
theorem dX11_comesHome_73 : decode cX11_comesHome 73 = .ok (.ifCond .eq 12, 3) := by decide +kernel
theorem dX11_comesHome_76 : decode cX11_comesHome 76 = .ok (.aload_n 0, 1) := by decide +kernel
theorem dX11_comesHome_77 : decode cX11_comesHome 77 = .ok (.bipush 8, 2) := by decide +kernel
theorem dX11_comesHome_79 : decode cX11_comesHome 79 = .ok (.invokevirtual 47, 3) := by decide +kernel
theorem dX11_comesHome_82 : decode cX11_comesHome 82 = .ok (.goto 17, 3) := by decide +kernel
theorem dX11_comesHome_85 : decode cX11_comesHome 85 = .ok (.aload_n 0, 1) := by decide +kernel
theorem dX11_comesHome_86 : decode cX11_comesHome 86 = .ok (.bipush 8, 2) := by decide +kernel
theorem dX11_comesHome_88 : decode cX11_comesHome 88 = .ok (.invokevirtual 47, 3) := by decide +kernel
theorem dX11_comesHome_91 : decode cX11_comesHome 91 = .ok (.aload_n 0, 1) := by decide +kernel
theorem dX11_comesHome_92 : decode cX11_comesHome 92 = .ok (.iload_n 1, 1) := by decide +kernel
theorem dX11_comesHome_93 : decode cX11_comesHome 93 = .ok (.invokevirtual 97, 3) := by decide +kernel
theorem dX11_comesHome_96 : decode cX11_comesHome 96 = .ok (.invokestatic 86, 3) := by decide +kernel
theorem dX11_comesHome_99 : decode cX11_comesHome 99 = .ok (.istore_n 3, 1) := by decide +kernel
theorem dX11_comesHome_100 : decode cX11_comesHome 100 = .ok (.aload_n 0, 1) := by decide +kernel
theorem dX11_comesHome_101 : decode cX11_comesHome 101 = .ok (.bipush 8, 2) := by decide +kernel
theorem dX11_comesHome_103 : decode cX11_comesHome 103 = .ok (.iload_n 3, 1) := by decide +kernel
theorem dX11_comesHome_104 : decode cX11_comesHome 104 = .ok (.invokevirtual 43, 3) := by decide +kernel
theorem dX11_comesHome_107 : decode cX11_comesHome 107 = .ok (.iload_n 3, 1) := by decide +kernel
theorem dX11_comesHome_108 : decode cX11_comesHome 108 = .ok (.aload_n 0, 1) := by decide +kernel
theorem dX11_comesHome_109 : decode cX11_comesHome 109 = .ok (.bipush 7, 2) := by decide +kernel
theorem dX11_comesHome_111 : decode cX11_comesHome 111 = .ok (.invokevirtual 47, 3) := by decide +kernel
theorem dX11_comesHome_114 : decode cX11_comesHome 114 = .ok (.if_icmp .gt 4, 3) := by decide +kernel
theorem dX11_comesHome_117 : decode cX11_comesHome 117 = .ok (.return_, 1) := by decide +kernel
theorem dX11_comesHome_118 : decode cX11_comesHome 118 = .ok (.aload_n 0, 1) := by decide +kernel
theorem dX11_comesHome_119 : decode cX11_comesHome 119 = .ok (.bipush 8, 2) := by decide +kernel
theorem dX11_comesHome_121 : decode cX11_comesHome 121 = .ok (.iconst 0, 1) := by decide +kernel
theorem dX11_comesHome_122 : decode cX11_comesHome 122 = .ok (.invokevirtual 43, 3) := by decide +kernel
theorem dX11_comesHome_125 : decode cX11_comesHome 125 = .ok (.aload_n 0, 1) := by decide +kernel
theorem dX11_comesHome_126 : decode cX11_comesHome 126 = .ok (.iload_n 1, 1) := by decide +kernel
theorem dX11_comesHome_127 : decode cX11_comesHome 127 = .ok (.invokevirtual 100, 3) := by decide +kernel
theorem dX11_comesHome_130 : decode cX11_comesHome 130 = .ok (.istore 4, 2) := by decide +kernel
theorem dX11_comesHome_132 : decode cX11_comesHome 132 = .ok (.iload 4, 2) := by decide +kernel
theorem dX11_comesHome_134 : decode cX11_comesHome 134 = .ok (.iconst (-1), 1) := by decide +kernel
theorem dX11_comesHome_135 : decode cX11_comesHome 135 = .ok (.if_icmp .ne 38, 3) := by decide +kernel
theorem dX11_comesHome_138 : decode cX11_comesHome 138 = .ok (.iload_n 1, 1) := by decide +kernel
theorem dX11_comesHome_139 : decode cX11_comesHome 139 = .ok (.aload_n 0, 1) := by decide +kernel
theorem dX11_comesHome_140 : decode cX11_comesHome 140 = .ok (.bipush 88, 2) := by decide +kernel
theorem dX11_comesHome_142 : decode cX11_comesHome 142 = .ok (.iload_n 1, 1) := by decide +kernel
theorem dX11_comesHome_143 : decode cX11_comesHome 143 = .ok (.iadd, 1) := by decide +kernel
theorem dX11_comesHome_144 : decode cX11_comesHome 144 = .ok (.invokevirtual 47, 3) := by decide +kernel
theorem dX11_comesHome_147 : decode cX11_comesHome 147 = .ok (.invokestatic 91, 3) := by decide +kernel
theorem dX11_comesHome_150 : decode cX11_comesHome 150 = .ok (.istore 4, 2) := by decide +kernel
theorem dX11_comesHome_152 : decode cX11_comesHome 152 = .ok (.aload_n 0, 1) := by decide +kernel
theorem dX11_comesHome_153 : decode cX11_comesHome 153 = .ok (.iload 4, 2) := by decide +kernel
theorem dX11_comesHome_155 : decode cX11_comesHome 155 = .ok (.aload_n 0, 1) := by decide +kernel
theorem dX11_comesHome_156 : decode cX11_comesHome 156 = .ok (.bipush 7, 2) := by decide +kernel
theorem dX11_comesHome_158 : decode cX11_comesHome 158 = .ok (.invokevirtual 47, 3) := by decide +kernel
theorem dX11_comesHome_161 : decode cX11_comesHome 161 = .ok (.invokevirtual 43, 3) := by decide +kernel
theorem dX11_comesHome_164 : decode cX11_comesHome 164 = .ok (.aload_n 0, 1) := by decide +kernel
theorem dX11_comesHome_165 : decode cX11_comesHome 165 = .ok (.bipush 88, 2) := by decide +kernel
theorem dX11_comesHome_167 : decode cX11_comesHome 167 = .ok (.iload_n 1, 1) := by decide +kernel
theorem dX11_comesHome_168 : decode cX11_comesHome 168 = .ok (.iadd, 1) := by decide +kernel
theorem dX11_comesHome_169 : decode cX11_comesHome 169 = .ok (.iconst 1, 1) := by decide +kernel
theorem dX11_comesHome_170 : decode cX11_comesHome 170 = .ok (.invokevirtual 69, 3) := by decide +kernel
theorem dX11_comesHome_173 : decode cX11_comesHome 173 = .ok (.aload_n 0, 1) := by decide +kernel
theorem dX11_comesHome_174 : decode cX11_comesHome 174 = .ok (.iload 4, 2) := by decide +kernel
theorem dX11_comesHome_176 : decode cX11_comesHome 176 = .ok (.iconst 1, 1) := by decide +kernel
theorem dX11_comesHome_177 : decode cX11_comesHome 177 = .ok (.iadd, 1) := by decide +kernel
theorem dX11_comesHome_178 : decode cX11_comesHome 178 = .ok (.iload_n 3, 1) := by decide +kernel
theorem dX11_comesHome_179 : decode cX11_comesHome 179 = .ok (.invokevirtual 43, 3) := by decide +kernel
theorem dX11_comesHome_182 : decode cX11_comesHome 182 = .ok (.aload_n 0, 1) := by decide +kernel
theorem dX11_comesHome_183 : decode cX11_comesHome 183 = .ok (.iload_n 3, 1) := by decide +kernel
theorem dX11_comesHome_184 : decode cX11_comesHome 184 = .ok (.invokevirtual 103, 3) := by decide +kernel
theorem dX11_comesHome_187 : decode cX11_comesHome 187 = .ok (.return_, 1) := by decide +kernel
theorem dX11_copies_0 : decode cX11_copies 0 = .ok (.iconst 0, 1) := by decide +kernel
theorem dX11_copies_1 : decode cX11_copies 1 = .ok (.istore_n 3, 1) := by decide +kernel
theorem dX11_copies_2 : decode cX11_copies 2 = .ok (.iload_n 3, 1) := by decide +kernel
theorem dX11_copies_3 : decode cX11_copies 3 = .ok (.sipush 600, 3) := by decide +kernel
theorem dX11_copies_6 : decode cX11_copies 6 = .ok (.if_icmp .ge 25, 3) := by decide +kernel
theorem dX11_copies_9 : decode cX11_copies 9 = .ok (.aload_n 0, 1) := by decide +kernel
theorem dX11_copies_10 : decode cX11_copies 10 = .ok (.getfield 7, 3) := by decide +kernel
theorem dX11_copies_13 : decode cX11_copies 13 = .ok (.iload_n 2, 1) := by decide +kernel
theorem dX11_copies_14 : decode cX11_copies 14 = .ok (.iload_n 3, 1) := by decide +kernel
theorem dX11_copies_15 : decode cX11_copies 15 = .ok (.iadd, 1) := by decide +kernel
theorem dX11_copies_16 : decode cX11_copies 16 = .ok (.aload_n 0, 1) := by decide +kernel
theorem dX11_copies_17 : decode cX11_copies 17 = .ok (.getfield 7, 3) := by decide +kernel
theorem dX11_copies_20 : decode cX11_copies 20 = .ok (.iload_n 1, 1) := by decide +kernel
theorem dX11_copies_21 : decode cX11_copies 21 = .ok (.iload_n 3, 1) := by decide +kernel
theorem dX11_copies_22 : decode cX11_copies 22 = .ok (.iadd, 1) := by decide +kernel
theorem dX11_copies_23 : decode cX11_copies 23 = .ok (.iaload, 1) := by decide +kernel
theorem dX11_copies_24 : decode cX11_copies 24 = .ok (.iastore, 1) := by decide +kernel
theorem dX11_copies_25 : decode cX11_copies 25 = .ok (.iinc 3 1, 3) := by decide +kernel
theorem dX11_copies_28 : decode cX11_copies 28 = .ok (.goto (-26), 3) := by decide +kernel
theorem dX11_copies_31 : decode cX11_copies 31 = .ok (.return_, 1) := by decide +kernel
theorem dX11_doesCount_0 : decode cX11_doesCount 0 = .ok (.aload_n 0, 1) := by decide +kernel
theorem dX11_doesCount_1 : decode cX11_doesCount 1 = .ok (.bipush 16, 2) := by decide +kernel
theorem dX11_doesCount_3 : decode cX11_doesCount 3 = .ok (.invokevirtual 47, 3) := by decide +kernel
theorem dX11_doesCount_6 : decode cX11_doesCount 6 = .ok (.istore_n 1, 1) := by decide +kernel
theorem dX11_doesCount_7 : decode cX11_doesCount 7 = .ok (.iload_n 1, 1) := by decide +kernel
theorem dX11_doesCount_8 : decode cX11_doesCount 8 = .ok (.iconst (-1), 1) := by decide +kernel
theorem dX11_doesCount_9 : decode cX11_doesCount 9 = .ok (.if_icmp .ne 5, 3) := by decide +kernel
theorem dX11_doesCount_12 : decode cX11_doesCount 12 = .ok (.iconst 0, 1) := by decide +kernel
theorem dX11_doesCount_13 : decode cX11_doesCount 13 = .ok (.ireturn, 1) := by decide +kernel
theorem dX11_doesCount_14 : decode cX11_doesCount 14 = .ok (.aload_n 0, 1) := by decide +kernel
theorem dX11_doesCount_15 : decode cX11_doesCount 15 = .ok (.bipush 17, 2) := by decide +kernel
theorem dX11_doesCount_17 : decode cX11_doesCount 17 = .ok (.invokevirtual 47, 3) := by decide +kernel
theorem dX11_doesCount_20 : decode cX11_doesCount 20 = .ok (.ifCond .ne 11, 3) := by decide +kernel
theorem dX11_doesCount_23 : decode cX11_doesCount 23 = .ok (.aload_n 0, 1) := by decide +kernel
theorem dX11_doesCount_24 : decode cX11_doesCount 24 = .ok (.iload_n 1, 1) := by decide +kernel
theorem dX11_doesCount_25 : decode cX11_doesCount 25 = .ok (.invokevirtual 55, 3) := by decide +kernel
theorem dX11_doesCount_28 : decode cX11_doesCount 28 = .ok (.ifCond .eq 33, 3) := by decide +kernel
theorem dX11_doesCount_31 : decode cX11_doesCount 31 = .ok (.aload_n 0, 1) := by decide +kernel
theorem dX11_doesCount_32 : decode cX11_doesCount 32 = .ok (.bipush 17, 2) := by decide +kernel
theorem dX11_doesCount_34 : decode cX11_doesCount 34 = .ok (.invokevirtual 47, 3) := by decide +kernel
theorem dX11_doesCount_37 : decode cX11_doesCount 37 = .ok (.iconst 1, 1) := by decide +kernel
theorem dX11_doesCount_38 : decode cX11_doesCount 38 = .ok (.if_icmp .ne 19, 3) := by decide +kernel
theorem dX11_doesCount_41 : decode cX11_doesCount 41 = .ok (.aload_n 0, 1) := by decide +kernel
theorem dX11_doesCount_42 : decode cX11_doesCount 42 = .ok (.iload_n 1, 1) := by decide +kernel
theorem dX11_doesCount_43 : decode cX11_doesCount 43 = .ok (.iconst 1, 1) := by decide +kernel
theorem dX11_doesCount_44 : decode cX11_doesCount 44 = .ok (.iadd, 1) := by decide +kernel
theorem dX11_doesCount_45 : decode cX11_doesCount 45 = .ok (.aload_n 0, 1) := by decide +kernel
theorem dX11_doesCount_46 : decode cX11_doesCount 46 = .ok (.iconst 0, 1) := by decide +kernel
theorem dX11_doesCount_47 : decode cX11_doesCount 47 = .ok (.invokevirtual 47, 3) := by decide +kernel
theorem dX11_doesCount_50 : decode cX11_doesCount 50 = .ok (.irem, 1) := by decide +kernel
theorem dX11_doesCount_51 : decode cX11_doesCount 51 = .ok (.invokevirtual 55, 3) := by decide +kernel
theorem dX11_doesCount_54 : decode cX11_doesCount 54 = .ok (.ifCond .eq 7, 3) := by decide +kernel
theorem dX11_doesCount_57 : decode cX11_doesCount 57 = .ok (.iconst 1, 1) := by decide +kernel
theorem dX11_doesCount_58 : decode cX11_doesCount 58 = .ok (.goto 4, 3) := by decide +kernel
theorem dX11_doesCount_61 : decode cX11_doesCount 61 = .ok (.iconst 0, 1) := by decide +kernel
theorem dX11_doesCount_62 : decode cX11_doesCount 62 = .ok (.ireturn, 1) := by decide +kernel
theorem dX11_drawBy_0 : decode cX11_drawBy 0 = .ok (.aload_n 0, 1) := by decide +kernel
theorem dX11_drawBy_1 : decode cX11_drawBy 1 = .ok (.aload_n 0, 1) := by decide +kernel
theorem dX11_drawBy_2 : decode cX11_drawBy 2 = .ok (.getfield 300, 3) := by decide +kernel
theorem dX11_drawBy_5 : decode cX11_drawBy 5 = .ok (.sipush 3877, 3) := by decide +kernel
theorem dX11_drawBy_8 : decode cX11_drawBy 8 = .ok (.imul, 1) := by decide +kernel
theorem dX11_drawBy_9 : decode cX11_drawBy 9 = .ok (.sipush 29573, 3) := by decide +kernel
theorem dX11_drawBy_12 : decode cX11_drawBy 12 = .ok (.iadd, 1) := by decide +kernel
theorem dX11_drawBy_13 : decode cX11_drawBy 13 = .ok (.ldc_w 303, 3) := by decide +kernel
theorem dX11_drawBy_16 : decode cX11_drawBy 16 = .ok (.irem, 1) := by decide +kernel
theorem dX11_drawBy_17 : decode cX11_drawBy 17 = .ok (.putfield 300, 3) := by decide +kernel
theorem dX11_drawBy_20 : decode cX11_drawBy 20 = .ok (.aload_n 0, 1) := by decide +kernel
theorem dX11_drawBy_21 : decode cX11_drawBy 21 = .ok (.getfield 300, 3) := by decide +kernel
theorem dX11_drawBy_24 : decode cX11_drawBy 24 = .ok (.iload_n 1, 1) := by decide +kernel
theorem dX11_drawBy_25 : decode cX11_drawBy 25 = .ok (.imul, 1) := by decide +kernel
theorem dX11_drawBy_26 : decode cX11_drawBy 26 = .ok (.ldc_w 303, 3) := by decide +kernel
theorem dX11_drawBy_29 : decode cX11_drawBy 29 = .ok (.idiv, 1) := by decide +kernel
theorem dX11_drawBy_30 : decode cX11_drawBy 30 = .ok (.ireturn, 1) := by decide +kernel
theorem dX11_draws_0 : decode cX11_draws 0 = .ok (.aload_n 0, 1) := by decide +kernel
theorem dX11_draws_1 : decode cX11_draws 1 = .ok (.bipush 16, 2) := by decide +kernel
theorem dX11_draws_3 : decode cX11_draws 3 = .ok (.invokevirtual 304, 3) := by decide +kernel
theorem dX11_draws_6 : decode cX11_draws 6 = .ok (.iload_n 1, 1) := by decide +kernel
theorem dX11_draws_7 : decode cX11_draws 7 = .ok (.if_icmp .ge 11, 3) := by decide +kernel
theorem dX11_draws_10 : decode cX11_draws 10 = .ok (.aload_n 0, 1) := by decide +kernel
theorem dX11_draws_11 : decode cX11_draws 11 = .ok (.iconst 0, 1) := by decide +kernel
theorem dX11_draws_12 : decode cX11_draws 12 = .ok (.invokevirtual 47, 3) := by decide +kernel
theorem dX11_draws_15 : decode cX11_draws 15 = .ok (.ifCond .ne 4, 3) := by decide +kernel
theorem dX11_draws_18 : decode cX11_draws 18 = .ok (.return_, 1) := by decide +kernel
theorem dX11_draws_19 : decode cX11_draws 19 = .ok (.aload_n 0, 1) := by decide +kernel
theorem dX11_draws_20 : decode cX11_draws 20 = .ok (.aload_n 0, 1) := by decide +kernel
theorem dX11_draws_21 : decode cX11_draws 21 = .ok (.iconst 0, 1) := by decide +kernel
theorem dX11_draws_22 : decode cX11_draws 22 = .ok (.invokevirtual 47, 3) := by decide +kernel
theorem dX11_draws_25 : decode cX11_draws 25 = .ok (.invokevirtual 304, 3) := by decide +kernel
theorem dX11_draws_28 : decode cX11_draws 28 = .ok (.istore_n 2, 1) := by decide +kernel
theorem dX11_draws_29 : decode cX11_draws 29 = .ok (.aload_n 0, 1) := by decide +kernel
theorem dX11_draws_30 : decode cX11_draws 30 = .ok (.aload_n 0, 1) := by decide +kernel
theorem dX11_draws_31 : decode cX11_draws 31 = .ok (.iconst 0, 1) := by decide +kernel
theorem dX11_draws_32 : decode cX11_draws 32 = .ok (.invokevirtual 47, 3) := by decide +kernel
theorem dX11_draws_35 : decode cX11_draws 35 = .ok (.invokevirtual 304, 3) := by decide +kernel
theorem dX11_draws_38 : decode cX11_draws 38 = .ok (.istore_n 3, 1) := by decide +kernel
theorem dX11_draws_39 : decode cX11_draws 39 = .ok (.aload_n 0, 1) := by decide +kernel
theorem dX11_draws_40 : decode cX11_draws 40 = .ok (.bipush 8, 2) := by decide +kernel
theorem dX11_draws_42 : decode cX11_draws 42 = .ok (.invokevirtual 304, 3) := by decide +kernel
theorem dX11_draws_45 : decode cX11_draws 45 = .ok (.istore 4, 2) := by decide +kernel
theorem dX11_draws_47 : decode cX11_draws 47 = .ok (.aload_n 0, 1) := by decide +kernel
theorem dX11_draws_48 : decode cX11_draws 48 = .ok (.iload_n 2, 1) := by decide +kernel
theorem dX11_draws_49 : decode cX11_draws 49 = .ok (.invokevirtual 55, 3) := by decide +kernel
theorem dX11_draws_52 : decode cX11_draws 52 = .ok (.ifCond .eq 33, 3) := by decide +kernel
theorem dX11_draws_55 : decode cX11_draws 55 = .ok (.iload_n 2, 1) := by decide +kernel
theorem dX11_draws_56 : decode cX11_draws 56 = .ok (.iload_n 3, 1) := by decide +kernel
theorem dX11_draws_57 : decode cX11_draws 57 = .ok (.if_icmp .eq 28, 3) := by decide +kernel
theorem dX11_draws_60 : decode cX11_draws 60 = .ok (.aload_n 0, 1) := by decide +kernel
theorem dX11_draws_61 : decode cX11_draws 61 = .ok (.bipush 80, 2) := by decide +kernel
theorem dX11_draws_63 : decode cX11_draws 63 = .ok (.iload_n 2, 1) := by decide +kernel
theorem dX11_draws_64 : decode cX11_draws 64 = .ok (.iadd, 1) := by decide +kernel
theorem dX11_draws_65 : decode cX11_draws 65 = .ok (.invokevirtual 47, 3) := by decide +kernel
theorem dX11_draws_68 : decode cX11_draws 68 = .ok (.bipush 6, 2) := by decide +kernel
theorem dX11_draws_70 : decode cX11_draws 70 = .ok (.if_icmp .ge 15, 3) := by decide +kernel
theorem dX11_draws_73 : decode cX11_draws 73 = .ok (.aload_n 0, 1) := by decide +kernel
theorem dX11_draws_74 : decode cX11_draws 74 = .ok (.iload_n 2, 1) := by decide +kernel
theorem dX11_draws_75 : decode cX11_draws 75 = .ok (.iload_n 3, 1) := by decide +kernel
theorem dX11_draws_76 : decode cX11_draws 76 = .ok (.iload 4, 2) := by decide +kernel
theorem dX11_draws_78 : decode cX11_draws 78 = .ok (.invokevirtual 247, 3) := by decide +kernel
theorem dX11_draws_81 : decode cX11_draws 81 = .ok (.pop, 1) := by decide +kernel
theorem dX11_draws_82 : decode cX11_draws 82 = .ok (.goto 10, 3) := by decide +kernel
theorem dX11_draws_85 : decode cX11_draws 85 = .ok (.aload_n 0, 1) := by decide +kernel
theorem dX11_draws_86 : decode cX11_draws 86 = .ok (.bipush 28, 2) := by decide +kernel
theorem dX11_draws_88 : decode cX11_draws 88 = .ok (.iconst 1, 1) := by decide +kernel
theorem dX11_draws_89 : decode cX11_draws 89 = .ok (.invokevirtual 69, 3) := by decide +kernel
theorem dX11_draws_92 : decode cX11_draws 92 = .ok (.return_, 1) := by decide +kernel
theorem dX11_dropsRaises_0 : decode cX11_dropsRaises 0 = .ok (.aload_n 0, 1) := by decide +kernel
theorem dX11_dropsRaises_1 : decode cX11_dropsRaises 1 = .ok (.bipush 88, 2) := by decide +kernel
theorem dX11_dropsRaises_3 : decode cX11_dropsRaises 3 = .ok (.iload_n 1, 1) := by decide +kernel
theorem dX11_dropsRaises_4 : decode cX11_dropsRaises 4 = .ok (.iadd, 1) := by decide +kernel
theorem dX11_dropsRaises_5 : decode cX11_dropsRaises 5 = .ok (.iconst 0, 1) := by decide +kernel
theorem dX11_dropsRaises_6 : decode cX11_dropsRaises 6 = .ok (.invokevirtual 43, 3) := by decide +kernel
theorem dX11_dropsRaises_9 : decode cX11_dropsRaises 9 = .ok (.return_, 1) := by decide +kernel
theorem dX11_event_0 : decode cX11_event 0 = .ok (.iload_n 1, 1) := by decide +kernel
theorem dX11_event_1 : decode cX11_event 1 = .ok (.iconst 0, 1) := by decide +kernel
theorem dX11_event_2 : decode cX11_event 2 = .ok (.bipush 23, 2) := by decide +kernel
theorem dX11_event_4 : decode cX11_event 4 = .ok (.invokestatic 228, 3) := by decide +kernel
theorem dX11_event_7 : decode cX11_event 7 = .ok (.ifCond .eq 12, 3) := by decide +kernel
theorem dX11_event_10 : decode cX11_event 10 = .ok (.iload_n 2, 1) := by decide +kernel
theorem dX11_event_11 : decode cX11_event 11 = .ok (.iconst 0, 1) := by decide +kernel
theorem dX11_event_12 : decode cX11_event 12 = .ok (.iconst 2, 1) := by decide +kernel
theorem dX11_event_13 : decode cX11_event 13 = .ok (.invokestatic 228, 3) := by decide +kernel
theorem dX11_event_16 : decode cX11_event 16 = .ok (.ifCond .ne 9, 3) := by decide +kernel
theorem dX11_event_19 : decode cX11_event 19 = .ok (.aload_n 0, 1) := by decide +kernel
theorem dX11_event_20 : decode cX11_event 20 = .ok (.iconst 1, 1) := by decide +kernel
theorem dX11_event_21 : decode cX11_event 21 = .ok (.invokevirtual 267, 3) := by decide +kernel
theorem dX11_event_24 : decode cX11_event 24 = .ok (.ireturn, 1) := by decide +kernel
theorem dX11_event_25 : decode cX11_event 25 = .ok (.iload_n 1, 1) := by decide +kernel
theorem dX11_event_26 : decode cX11_event 26 = .ok (.aload_n 0, 1) := by decide +kernel
theorem dX11_event_27 : decode cX11_event 27 = .ok (.bipush 32, 2) := by decide +kernel
theorem dX11_event_29 : decode cX11_event 29 = .ok (.invokevirtual 47, 3) := by decide +kernel
theorem dX11_event_32 : decode cX11_event 32 = .ok (.if_icmp .ge 32, 3) := by decide +kernel
theorem dX11_event_35 : decode cX11_event 35 = .ok (.aload_n 0, 1) := by decide +kernel
theorem dX11_event_36 : decode cX11_event 36 = .ok (.aload_n 0, 1) := by decide +kernel
theorem dX11_event_37 : decode cX11_event 37 = .ok (.sipush 512, 3) := by decide +kernel
theorem dX11_event_40 : decode cX11_event 40 = .ok (.iconst 3, 1) := by decide +kernel
theorem dX11_event_41 : decode cX11_event 41 = .ok (.aload_n 0, 1) := by decide +kernel
theorem dX11_event_42 : decode cX11_event 42 = .ok (.bipush 32, 2) := by decide +kernel
theorem dX11_event_44 : decode cX11_event 44 = .ok (.invokevirtual 47, 3) := by decide +kernel
theorem dX11_event_47 : decode cX11_event 47 = .ok (.iconst 1, 1) := by decide +kernel
theorem dX11_event_48 : decode cX11_event 48 = .ok (.isub, 1) := by decide +kernel
theorem dX11_event_49 : decode cX11_event 49 = .ok (.iload_n 1, 1) := by decide +kernel
theorem dX11_event_50 : decode cX11_event 50 = .ok (.isub, 1) := by decide +kernel
theorem dX11_event_51 : decode cX11_event 51 = .ok (.imul, 1) := by decide +kernel
theorem dX11_event_52 : decode cX11_event 52 = .ok (.iadd, 1) := by decide +kernel
theorem dX11_event_53 : decode cX11_event 53 = .ok (.iload_n 2, 1) := by decide +kernel
theorem dX11_event_54 : decode cX11_event 54 = .ok (.iadd, 1) := by decide +kernel
theorem dX11_event_55 : decode cX11_event 55 = .ok (.invokevirtual 47, 3) := by decide +kernel
theorem dX11_event_58 : decode cX11_event 58 = .ok (.invokevirtual 276, 3) := by decide +kernel
theorem dX11_event_61 : decode cX11_event 61 = .ok (.goto 8, 3) := by decide +kernel
theorem dX11_event_64 : decode cX11_event 64 = .ok (.aload_n 0, 1) := by decide +kernel
theorem dX11_event_65 : decode cX11_event 65 = .ok (.iconst 5, 1) := by decide +kernel
theorem dX11_event_66 : decode cX11_event 66 = .ok (.invokevirtual 267, 3) := by decide +kernel
theorem dX11_event_69 : decode cX11_event 69 = .ok (.ireturn, 1) := by decide +kernel
theorem dX11_fails_0 : decode cX11_fails 0 = .ok (.aload_n 0, 1) := by decide +kernel
theorem dX11_fails_1 : decode cX11_fails 1 = .ok (.getfield 213, 3) := by decide +kernel
theorem dX11_fails_4 : decode cX11_fails 4 = .ok (.ifCond .ne 28, 3) := by decide +kernel
theorem dX11_fails_7 : decode cX11_fails 7 = .ok (.aload_n 0, 1) := by decide +kernel
theorem dX11_fails_8 : decode cX11_fails 8 = .ok (.aload_n 0, 1) := by decide +kernel
theorem dX11_fails_9 : decode cX11_fails 9 = .ok (.getfield 186, 3) := by decide +kernel
theorem dX11_fails_12 : decode cX11_fails 12 = .ok (.iconst 1, 1) := by decide +kernel
theorem dX11_fails_13 : decode cX11_fails 13 = .ok (.if_icmp .ne 7, 3) := by decide +kernel
theorem dX11_fails_16 : decode cX11_fails 16 = .ok (.iconst 1, 1) := by decide +kernel
theorem dX11_fails_17 : decode cX11_fails 17 = .ok (.goto 4, 3) := by decide +kernel
theorem dX11_fails_20 : decode cX11_fails 20 = .ok (.iload_n 1, 1) := by decide +kernel
theorem dX11_fails_21 : decode cX11_fails 21 = .ok (.putfield 213, 3) := by decide +kernel
theorem dX11_fails_24 : decode cX11_fails 24 = .ok (.aload_n 0, 1) := by decide +kernel
theorem dX11_fails_25 : decode cX11_fails 25 = .ok (.aload_n 0, 1) := by decide +kernel
theorem dX11_fails_26 : decode cX11_fails 26 = .ok (.getfield 183, 3) := by decide +kernel
theorem dX11_fails_29 : decode cX11_fails 29 = .ok (.putfield 24, 3) := by decide +kernel
theorem dX11_fails_32 : decode cX11_fails 32 = .ok (.iconst 0, 1) := by decide +kernel
theorem dX11_fails_33 : decode cX11_fails 33 = .ok (.ireturn, 1) := by decide +kernel
theorem dX11_fault_0 : decode cX11_fault 0 = .ok (.iload_n 1, 1) := by decide +kernel
theorem dX11_fault_1 : decode cX11_fault 1 = .ok (.ifCond .ne 10, 3) := by decide +kernel
theorem dX11_fault_4 : decode cX11_fault 4 = .ok (.aload_n 0, 1) := by decide +kernel
theorem dX11_fault_5 : decode cX11_fault 5 = .ok (.getfield 28, 3) := by decide +kernel
theorem dX11_fault_8 : decode cX11_fault 8 = .ok (.goto 16, 3) := by decide +kernel
theorem dX11_fault_11 : decode cX11_fault 11 = .ok (.iload_n 1, 1) := by decide +kernel
theorem dX11_fault_12 : decode cX11_fault 12 = .ok (.iconst 1, 1) := by decide +kernel
theorem dX11_fault_13 : decode cX11_fault 13 = .ok (.if_icmp .ne 10, 3) := by decide +kernel
theorem dX11_fault_16 : decode cX11_fault 16 = .ok (.aload_n 0, 1) := by decide +kernel
theorem dX11_fault_17 : decode cX11_fault 17 = .ok (.getfield 24, 3) := by decide +kernel
theorem dX11_fault_20 : decode cX11_fault 20 = .ok (.goto 4, 3) := by decide +kernel
theorem dX11_fault_23 : decode cX11_fault 23 = .ok (.iconst (-1), 1) := by decide +kernel
theorem dX11_fault_24 : decode cX11_fault 24 = .ok (.ireturn, 1) := by decide +kernel
theorem dX11_feed_0 : decode cX11_feed 0 = .ok (.aload_n 0, 1) := by decide +kernel
theorem dX11_feed_1 : decode cX11_feed 1 = .ok (.getfield 168, 3) := by decide +kernel
theorem dX11_feed_4 : decode cX11_feed 4 = .ok (.sipush 480, 3) := by decide +kernel
theorem dX11_feed_7 : decode cX11_feed 7 = .ok (.if_icmp .le 5, 3) := by decide +kernel
theorem dX11_feed_10 : decode cX11_feed 10 = .ok (.iconst (-1), 1) := by decide +kernel
theorem dX11_feed_11 : decode cX11_feed 11 = .ok (.ireturn, 1) := by decide +kernel
theorem dX11_feed_12 : decode cX11_feed 12 = .ok (.aload_n 0, 1) := by decide +kernel
theorem dX11_feed_13 : decode cX11_feed 13 = .ok (.iload_n 1, 1) := by decide +kernel
theorem dX11_feed_14 : decode cX11_feed 14 = .ok (.invokevirtual 171, 3) := by decide +kernel
theorem dX11_feed_17 : decode cX11_feed 17 = .ok (.aload_n 0, 1) := by decide +kernel
theorem dX11_feed_18 : decode cX11_feed 18 = .ok (.iload_n 2, 1) := by decide +kernel
theorem dX11_feed_19 : decode cX11_feed 19 = .ok (.invokevirtual 171, 3) := by decide +kernel
theorem dX11_feed_22 : decode cX11_feed 22 = .ok (.aload_n 0, 1) := by decide +kernel
theorem dX11_feed_23 : decode cX11_feed 23 = .ok (.iload_n 3, 1) := by decide +kernel
theorem dX11_feed_24 : decode cX11_feed 24 = .ok (.invokevirtual 171, 3) := by decide +kernel
theorem dX11_feed_27 : decode cX11_feed 27 = .ok (.aload_n 0, 1) := by decide +kernel
theorem dX11_feed_28 : decode cX11_feed 28 = .ok (.iload 4, 2) := by decide +kernel
theorem dX11_feed_30 : decode cX11_feed 30 = .ok (.invokevirtual 171, 3) := by decide +kernel
theorem dX11_feed_33 : decode cX11_feed 33 = .ok (.aload_n 0, 1) := by decide +kernel
theorem dX11_feed_34 : decode cX11_feed 34 = .ok (.iload 5, 2) := by decide +kernel
theorem dX11_feed_36 : decode cX11_feed 36 = .ok (.invokevirtual 171, 3) := by decide +kernel
theorem dX11_feed_39 : decode cX11_feed 39 = .ok (.aload_n 0, 1) := by decide +kernel
theorem dX11_feed_40 : decode cX11_feed 40 = .ok (.getfield 168, 3) := by decide +kernel
theorem dX11_feed_43 : decode cX11_feed 43 = .ok (.ireturn, 1) := by decide +kernel
theorem dX11_firstOf_0 : decode cX11_firstOf 0 = .ok (.iconst (-1), 1) := by decide +kernel
theorem dX11_firstOf_1 : decode cX11_firstOf 1 = .ok (.istore_n 2, 1) := by decide +kernel
theorem dX11_firstOf_2 : decode cX11_firstOf 2 = .ok (.iconst 0, 1) := by decide +kernel
theorem dX11_firstOf_3 : decode cX11_firstOf 3 = .ok (.istore_n 3, 1) := by decide +kernel
theorem dX11_firstOf_4 : decode cX11_firstOf 4 = .ok (.iload_n 3, 1) := by decide +kernel
theorem dX11_firstOf_5 : decode cX11_firstOf 5 = .ok (.aload_n 0, 1) := by decide +kernel
theorem dX11_firstOf_6 : decode cX11_firstOf 6 = .ok (.bipush 80, 2) := by decide +kernel
theorem dX11_firstOf_8 : decode cX11_firstOf 8 = .ok (.iload_n 1, 1) := by decide +kernel
theorem dX11_firstOf_9 : decode cX11_firstOf 9 = .ok (.iadd, 1) := by decide +kernel
theorem dX11_firstOf_10 : decode cX11_firstOf 10 = .ok (.invokevirtual 47, 3) := by decide +kernel
theorem dX11_firstOf_13 : decode cX11_firstOf 13 = .ok (.if_icmp .ge 41, 3) := by decide +kernel
theorem dX11_firstOf_16 : decode cX11_firstOf 16 = .ok (.iload_n 2, 1) := by decide +kernel
theorem dX11_firstOf_17 : decode cX11_firstOf 17 = .ok (.iconst (-1), 1) := by decide +kernel
theorem dX11_firstOf_18 : decode cX11_firstOf 18 = .ok (.if_icmp .eq 28, 3) := by decide +kernel
theorem dX11_firstOf_21 : decode cX11_firstOf 21 = .ok (.aload_n 0, 1) := by decide +kernel
theorem dX11_firstOf_22 : decode cX11_firstOf 22 = .ok (.iload_n 1, 1) := by decide +kernel
theorem dX11_firstOf_23 : decode cX11_firstOf 23 = .ok (.iload_n 3, 1) := by decide +kernel
theorem dX11_firstOf_24 : decode cX11_firstOf 24 = .ok (.invokestatic 62, 3) := by decide +kernel
theorem dX11_firstOf_27 : decode cX11_firstOf 27 = .ok (.iconst 2, 1) := by decide +kernel
theorem dX11_firstOf_28 : decode cX11_firstOf 28 = .ok (.iadd, 1) := by decide +kernel
theorem dX11_firstOf_29 : decode cX11_firstOf 29 = .ok (.invokevirtual 47, 3) := by decide +kernel
theorem dX11_firstOf_32 : decode cX11_firstOf 32 = .ok (.aload_n 0, 1) := by decide +kernel
theorem dX11_firstOf_33 : decode cX11_firstOf 33 = .ok (.iload_n 1, 1) := by decide +kernel
theorem dX11_firstOf_34 : decode cX11_firstOf 34 = .ok (.iload_n 2, 1) := by decide +kernel
theorem dX11_firstOf_35 : decode cX11_firstOf 35 = .ok (.invokestatic 62, 3) := by decide +kernel
theorem dX11_firstOf_38 : decode cX11_firstOf 38 = .ok (.iconst 2, 1) := by decide +kernel
theorem dX11_firstOf_39 : decode cX11_firstOf 39 = .ok (.iadd, 1) := by decide +kernel
theorem dX11_firstOf_40 : decode cX11_firstOf 40 = .ok (.invokevirtual 47, 3) := by decide +kernel
theorem dX11_firstOf_43 : decode cX11_firstOf 43 = .ok (.if_icmp .le 5, 3) := by decide +kernel
theorem dX11_firstOf_46 : decode cX11_firstOf 46 = .ok (.iload_n 3, 1) := by decide +kernel
theorem dX11_firstOf_47 : decode cX11_firstOf 47 = .ok (.istore_n 2, 1) := by decide +kernel
theorem dX11_firstOf_48 : decode cX11_firstOf 48 = .ok (.iinc 3 1, 3) := by decide +kernel
theorem dX11_firstOf_51 : decode cX11_firstOf 51 = .ok (.goto (-47), 3) := by decide +kernel
theorem dX11_firstOf_54 : decode cX11_firstOf 54 = .ok (.iload_n 2, 1) := by decide +kernel
theorem dX11_firstOf_55 : decode cX11_firstOf 55 = .ok (.ireturn, 1) := by decide +kernel
theorem dX11_firstRank_0 : decode cX11_firstRank 0 = .ok (.aload_n 0, 1) := by decide +kernel
theorem dX11_firstRank_1 : decode cX11_firstRank 1 = .ok (.iload_n 1, 1) := by decide +kernel
theorem dX11_firstRank_2 : decode cX11_firstRank 2 = .ok (.invokevirtual 66, 3) := by decide +kernel
theorem dX11_firstRank_5 : decode cX11_firstRank 5 = .ok (.iconst (-1), 1) := by decide +kernel
theorem dX11_firstRank_6 : decode cX11_firstRank 6 = .ok (.if_icmp .ne 7, 3) := by decide +kernel
theorem dX11_firstRank_9 : decode cX11_firstRank 9 = .ok (.iconst (-1), 1) := by decide +kernel
theorem dX11_firstRank_10 : decode cX11_firstRank 10 = .ok (.goto 18, 3) := by decide +kernel
theorem dX11_firstRank_13 : decode cX11_firstRank 13 = .ok (.aload_n 0, 1) := by decide +kernel
theorem dX11_firstRank_14 : decode cX11_firstRank 14 = .ok (.iload_n 1, 1) := by decide +kernel
theorem dX11_firstRank_15 : decode cX11_firstRank 15 = .ok (.aload_n 0, 1) := by decide +kernel
theorem dX11_firstRank_16 : decode cX11_firstRank 16 = .ok (.iload_n 1, 1) := by decide +kernel
theorem dX11_firstRank_17 : decode cX11_firstRank 17 = .ok (.invokevirtual 66, 3) := by decide +kernel
theorem dX11_firstRank_20 : decode cX11_firstRank 20 = .ok (.invokestatic 62, 3) := by decide +kernel
theorem dX11_firstRank_23 : decode cX11_firstRank 23 = .ok (.iconst 2, 1) := by decide +kernel
theorem dX11_firstRank_24 : decode cX11_firstRank 24 = .ok (.iadd, 1) := by decide +kernel
theorem dX11_firstRank_25 : decode cX11_firstRank 25 = .ok (.invokevirtual 47, 3) := by decide +kernel
theorem dX11_firstRank_28 : decode cX11_firstRank 28 = .ok (.ireturn, 1) := by decide +kernel
theorem dX11_four_0 : decode cX11_four 0 = .ok (.iconst 3, 1) := by decide +kernel
theorem dX11_four_1 : decode cX11_four 1 = .ok (.istore_n 2, 1) := by decide +kernel
theorem dX11_four_2 : decode cX11_four 2 = .ok (.iload_n 2, 1) := by decide +kernel
theorem dX11_four_3 : decode cX11_four 3 = .ok (.ifCond .lt 35, 3) := by decide +kernel
theorem dX11_four_6 : decode cX11_four 6 = .ok (.aload_n 0, 1) := by decide +kernel
theorem dX11_four_7 : decode cX11_four 7 = .ok (.getfield 13, 3) := by decide +kernel
theorem dX11_four_10 : decode cX11_four 10 = .ok (.aload_n 0, 1) := by decide +kernel
theorem dX11_four_11 : decode cX11_four 11 = .ok (.getfield 168, 3) := by decide +kernel
theorem dX11_four_14 : decode cX11_four 14 = .ok (.iload_n 1, 1) := by decide +kernel
theorem dX11_four_15 : decode cX11_four 15 = .ok (.bipush 8, 2) := by decide +kernel
theorem dX11_four_17 : decode cX11_four 17 = .ok (.iload_n 2, 1) := by decide +kernel
theorem dX11_four_18 : decode cX11_four 18 = .ok (.imul, 1) := by decide +kernel
theorem dX11_four_19 : decode cX11_four 19 = .ok (.ishr, 1) := by decide +kernel
theorem dX11_four_20 : decode cX11_four 20 = .ok (.i2b, 1) := by decide +kernel
theorem dX11_four_21 : decode cX11_four 21 = .ok (.bastore, 1) := by decide +kernel
theorem dX11_four_22 : decode cX11_four 22 = .ok (.aload_n 0, 1) := by decide +kernel
theorem dX11_four_23 : decode cX11_four 23 = .ok (.dup, 1) := by decide +kernel
theorem dX11_four_24 : decode cX11_four 24 = .ok (.getfield 168, 3) := by decide +kernel
theorem dX11_four_27 : decode cX11_four 27 = .ok (.iconst 1, 1) := by decide +kernel
theorem dX11_four_28 : decode cX11_four 28 = .ok (.iadd, 1) := by decide +kernel
theorem dX11_four_29 : decode cX11_four 29 = .ok (.putfield 168, 3) := by decide +kernel
theorem dX11_four_32 : decode cX11_four 32 = .ok (.iinc 2 (-1), 3) := by decide +kernel
theorem dX11_four_35 : decode cX11_four 35 = .ok (.goto (-33), 3) := by decide +kernel
theorem dX11_four_38 : decode cX11_four 38 = .ok (.return_, 1) := by decide +kernel
theorem dX11_frameAt_0 : decode cX11_frameAt 0 = .ok (.aload_n 0, 1) := by decide +kernel
theorem dX11_frameAt_1 : decode cX11_frameAt 1 = .ok (.bipush 10, 2) := by decide +kernel
theorem dX11_frameAt_3 : decode cX11_frameAt 3 = .ok (.invokevirtual 47, 3) := by decide +kernel
theorem dX11_frameAt_6 : decode cX11_frameAt 6 = .ok (.iload_n 1, 1) := by decide +kernel
theorem dX11_frameAt_7 : decode cX11_frameAt 7 = .ok (.if_icmp .ne 9, 3) := by decide +kernel
theorem dX11_frameAt_10 : decode cX11_frameAt 10 = .ok (.aload_n 0, 1) := by decide +kernel
theorem dX11_frameAt_11 : decode cX11_frameAt 11 = .ok (.iload_n 1, 1) := by decide +kernel
theorem dX11_frameAt_12 : decode cX11_frameAt 12 = .ok (.invokevirtual 118, 3) := by decide +kernel
theorem dX11_frameAt_15 : decode cX11_frameAt 15 = .ok (.return_, 1) := by decide +kernel
theorem dX11_frameAt_16 : decode cX11_frameAt 16 = .ok (.aload_n 0, 1) := by decide +kernel
theorem dX11_frameAt_17 : decode cX11_frameAt 17 = .ok (.bipush 11, 2) := by decide +kernel
theorem dX11_frameAt_19 : decode cX11_frameAt 19 = .ok (.invokevirtual 47, 3) := by decide +kernel
theorem dX11_frameAt_22 : decode cX11_frameAt 22 = .ok (.iload_n 1, 1) := by decide +kernel
theorem dX11_frameAt_23 : decode cX11_frameAt 23 = .ok (.if_icmp .ne 10, 3) := by decide +kernel
theorem dX11_frameAt_26 : decode cX11_frameAt 26 = .ok (.aload_n 0, 1) := by decide +kernel
theorem dX11_frameAt_27 : decode cX11_frameAt 27 = .ok (.bipush 13, 2) := by decide +kernel
theorem dX11_frameAt_29 : decode cX11_frameAt 29 = .ok (.iconst 1, 1) := by decide +kernel
theorem dX11_frameAt_30 : decode cX11_frameAt 30 = .ok (.invokevirtual 43, 3) := by decide +kernel
theorem dX11_frameAt_33 : decode cX11_frameAt 33 = .ok (.aload_n 0, 1) := by decide +kernel
theorem dX11_frameAt_34 : decode cX11_frameAt 34 = .ok (.iload_n 1, 1) := by decide +kernel
theorem dX11_frameAt_35 : decode cX11_frameAt 35 = .ok (.invokevirtual 106, 3) := by decide +kernel
theorem dX11_frameAt_38 : decode cX11_frameAt 38 = .ok (.return_, 1) := by decide +kernel
theorem dX11_gain_0 : decode cX11_gain 0 = .ok (.aload_n 0, 1) := by decide +kernel
theorem dX11_gain_1 : decode cX11_gain 1 = .ok (.invokevirtual 339, 3) := by decide +kernel
theorem dX11_gain_4 : decode cX11_gain 4 = .ok (.istore_n 1, 1) := by decide +kernel
theorem dX11_gain_5 : decode cX11_gain 5 = .ok (.aload_n 0, 1) := by decide +kernel
theorem dX11_gain_6 : decode cX11_gain 6 = .ok (.iload_n 1, 1) := by decide +kernel
theorem dX11_gain_7 : decode cX11_gain 7 = .ok (.iconst 0, 1) := by decide +kernel
theorem dX11_gain_8 : decode cX11_gain 8 = .ok (.iconst 0, 1) := by decide +kernel
theorem dX11_gain_9 : decode cX11_gain 9 = .ok (.invokevirtual 342, 3) := by decide +kernel
theorem dX11_gain_12 : decode cX11_gain 12 = .ok (.aload_n 0, 1) := by decide +kernel
theorem dX11_gain_13 : decode cX11_gain 13 = .ok (.iload_n 1, 1) := by decide +kernel
theorem dX11_gain_14 : decode cX11_gain 14 = .ok (.iconst 1, 1) := by decide +kernel
theorem dX11_gain_15 : decode cX11_gain 15 = .ok (.bipush 48, 2) := by decide +kernel
theorem dX11_gain_17 : decode cX11_gain 17 = .ok (.invokevirtual 342, 3) := by decide +kernel
theorem dX11_gain_20 : decode cX11_gain 20 = .ok (.iconst 0, 1) := by decide +kernel
theorem dX11_gain_21 : decode cX11_gain 21 = .ok (.istore_n 2, 1) := by decide +kernel
theorem dX11_gain_22 : decode cX11_gain 22 = .ok (.iconst 0, 1) := by decide +kernel
theorem dX11_gain_23 : decode cX11_gain 23 = .ok (.istore_n 3, 1) := by decide +kernel
theorem dX11_gain_24 : decode cX11_gain 24 = .ok (.iload_n 3, 1) := by decide +kernel
theorem dX11_gain_25 : decode cX11_gain 25 = .ok (.iload_n 1, 1) := by decide +kernel
theorem dX11_gain_26 : decode cX11_gain 26 = .ok (.if_icmp .ge 49, 3) := by decide +kernel
theorem dX11_gain_29 : decode cX11_gain 29 = .ok (.aload_n 0, 1) := by decide +kernel
theorem dX11_gain_30 : decode cX11_gain 30 = .ok (.getfield 34, 3) := by decide +kernel
theorem dX11_gain_33 : decode cX11_gain 33 = .ok (.iload_n 3, 1) := by decide +kernel
theorem dX11_gain_34 : decode cX11_gain 34 = .ok (.iaload, 1) := by decide +kernel
theorem dX11_gain_35 : decode cX11_gain 35 = .ok (.ifCond .le 34, 3) := by decide +kernel
theorem dX11_gain_38 : decode cX11_gain 38 = .ok (.aload_n 0, 1) := by decide +kernel
theorem dX11_gain_39 : decode cX11_gain 39 = .ok (.getfield 34, 3) := by decide +kernel
theorem dX11_gain_42 : decode cX11_gain 42 = .ok (.bipush 48, 2) := by decide +kernel
theorem dX11_gain_44 : decode cX11_gain 44 = .ok (.iload_n 3, 1) := by decide +kernel
theorem dX11_gain_45 : decode cX11_gain 45 = .ok (.iadd, 1) := by decide +kernel
theorem dX11_gain_46 : decode cX11_gain 46 = .ok (.iaload, 1) := by decide +kernel
theorem dX11_gain_47 : decode cX11_gain 47 = .ok (.ifCond .le 22, 3) := by decide +kernel
theorem dX11_gain_50 : decode cX11_gain 50 = .ok (.iload_n 2, 1) := by decide +kernel
theorem dX11_gain_51 : decode cX11_gain 51 = .ok (.aload_n 0, 1) := by decide +kernel
theorem dX11_gain_52 : decode cX11_gain 52 = .ok (.getfield 34, 3) := by decide +kernel
theorem dX11_gain_55 : decode cX11_gain 55 = .ok (.bipush 48, 2) := by decide +kernel
theorem dX11_gain_57 : decode cX11_gain 57 = .ok (.iload_n 3, 1) := by decide +kernel
theorem dX11_gain_58 : decode cX11_gain 58 = .ok (.iadd, 1) := by decide +kernel
theorem dX11_gain_59 : decode cX11_gain 59 = .ok (.iaload, 1) := by decide +kernel
theorem dX11_gain_60 : decode cX11_gain 60 = .ok (.aload_n 0, 1) := by decide +kernel
theorem dX11_gain_61 : decode cX11_gain 61 = .ok (.getfield 34, 3) := by decide +kernel
theorem dX11_gain_64 : decode cX11_gain 64 = .ok (.iload_n 3, 1) := by decide +kernel
theorem dX11_gain_65 : decode cX11_gain 65 = .ok (.iaload, 1) := by decide +kernel
theorem dX11_gain_66 : decode cX11_gain 66 = .ok (.isub, 1) := by decide +kernel
theorem dX11_gain_67 : decode cX11_gain 67 = .ok (.iadd, 1) := by decide +kernel
theorem dX11_gain_68 : decode cX11_gain 68 = .ok (.istore_n 2, 1) := by decide +kernel
theorem dX11_gain_69 : decode cX11_gain 69 = .ok (.iinc 3 1, 3) := by decide +kernel
theorem dX11_gain_72 : decode cX11_gain 72 = .ok (.goto (-48), 3) := by decide +kernel
theorem dX11_gain_75 : decode cX11_gain 75 = .ok (.aload_n 0, 1) := by decide +kernel
theorem dX11_gain_76 : decode cX11_gain 76 = .ok (.iload_n 2, 1) := by decide +kernel
theorem dX11_gain_77 : decode cX11_gain 77 = .ok (.invokevirtual 276, 3) := by decide +kernel
theorem dX11_gain_80 : decode cX11_gain 80 = .ok (.ireturn, 1) := by decide +kernel
theorem dX11_gives_0 : decode cX11_gives 0 = .ok (.aload_n 0, 1) := by decide +kernel
theorem dX11_gives_1 : decode cX11_gives 1 = .ok (.iconst 0, 1) := by decide +kernel
theorem dX11_gives_2 : decode cX11_gives 2 = .ok (.putfield 40, 3) := by decide +kernel
theorem dX11_gives_5 : decode cX11_gives 5 = .ok (.iload_n 1, 1) := by decide +kernel
theorem dX11_gives_6 : decode cX11_gives 6 = .ok (.ireturn, 1) := by decide +kernel
theorem dX11_givesOr_0 : decode cX11_givesOr 0 = .ok (.iload_n 1, 1) := by decide +kernel
theorem dX11_givesOr_1 : decode cX11_givesOr 1 = .ok (.iconst (-1), 1) := by decide +kernel
theorem dX11_givesOr_2 : decode cX11_givesOr 2 = .ok (.if_icmp .ne 12, 3) := by decide +kernel
theorem dX11_givesOr_5 : decode cX11_givesOr 5 = .ok (.aload_n 0, 1) := by decide +kernel
theorem dX11_givesOr_6 : decode cX11_givesOr 6 = .ok (.bipush 7, 2) := by decide +kernel
theorem dX11_givesOr_8 : decode cX11_givesOr 8 = .ok (.invokevirtual 267, 3) := by decide +kernel
theorem dX11_givesOr_11 : decode cX11_givesOr 11 = .ok (.goto 8, 3) := by decide +kernel
theorem dX11_givesOr_14 : decode cX11_givesOr 14 = .ok (.aload_n 0, 1) := by decide +kernel
theorem dX11_givesOr_15 : decode cX11_givesOr 15 = .ok (.iload_n 1, 1) := by decide +kernel
theorem dX11_givesOr_16 : decode cX11_givesOr 16 = .ok (.invokevirtual 276, 3) := by decide +kernel
theorem dX11_givesOr_19 : decode cX11_givesOr 19 = .ok (.ireturn, 1) := by decide +kernel
theorem dX11_goesOn_0 : decode cX11_goesOn 0 = .ok (.aload_n 0, 1) := by decide +kernel
theorem dX11_goesOn_1 : decode cX11_goesOn 1 = .ok (.aload_n 0, 1) := by decide +kernel
theorem dX11_goesOn_2 : decode cX11_goesOn 2 = .ok (.bipush 6, 2) := by decide +kernel
theorem dX11_goesOn_4 : decode cX11_goesOn 4 = .ok (.invokevirtual 47, 3) := by decide +kernel
theorem dX11_goesOn_7 : decode cX11_goesOn 7 = .ok (.iconst 1, 1) := by decide +kernel
theorem dX11_goesOn_8 : decode cX11_goesOn 8 = .ok (.invokevirtual 121, 3) := by decide +kernel
theorem dX11_goesOn_11 : decode cX11_goesOn 11 = .ok (.istore_n 1, 1) := by decide +kernel
theorem dX11_goesOn_12 : decode cX11_goesOn 12 = .ok (.iload_n 1, 1) := by decide +kernel
theorem dX11_goesOn_13 : decode cX11_goesOn 13 = .ok (.iconst (-1), 1) := by decide +kernel
theorem dX11_goesOn_14 : decode cX11_goesOn 14 = .ok (.if_icmp .eq 17, 3) := by decide +kernel
theorem dX11_goesOn_17 : decode cX11_goesOn 17 = .ok (.aload_n 0, 1) := by decide +kernel
theorem dX11_goesOn_18 : decode cX11_goesOn 18 = .ok (.aload_n 0, 1) := by decide +kernel
theorem dX11_goesOn_19 : decode cX11_goesOn 19 = .ok (.bipush 6, 2) := by decide +kernel
theorem dX11_goesOn_21 : decode cX11_goesOn 21 = .ok (.invokevirtual 47, 3) := by decide +kernel
theorem dX11_goesOn_24 : decode cX11_goesOn 24 = .ok (.iload_n 1, 1) := by decide +kernel
theorem dX11_goesOn_25 : decode cX11_goesOn 25 = .ok (.invokevirtual 124, 3) := by decide +kernel
theorem dX11_goesOn_28 : decode cX11_goesOn 28 = .ok (.ifCond .eq 12, 3) := by decide +kernel
theorem dX11_goesOn_31 : decode cX11_goesOn 31 = .ok (.aload_n 0, 1) := by decide +kernel
theorem dX11_goesOn_32 : decode cX11_goesOn 32 = .ok (.invokevirtual 79, 3) := by decide +kernel
theorem dX11_goesOn_35 : decode cX11_goesOn 35 = .ok (.aload_n 0, 1) := by decide +kernel
theorem dX11_goesOn_36 : decode cX11_goesOn 36 = .ok (.invokevirtual 128, 3) := by decide +kernel
theorem dX11_goesOn_39 : decode cX11_goesOn 39 = .ok (.return_, 1) := by decide +kernel
theorem dX11_goesOn_40 : decode cX11_goesOn 40 = .ok (.aload_n 0, 1) := by decide +kernel
theorem dX11_goesOn_41 : decode cX11_goesOn 41 = .ok (.bipush 6, 2) := by decide +kernel
theorem dX11_goesOn_43 : decode cX11_goesOn 43 = .ok (.iload_n 1, 1) := by decide +kernel
theorem dX11_goesOn_44 : decode cX11_goesOn 44 = .ok (.invokevirtual 43, 3) := by decide +kernel
theorem dX11_goesOn_47 : decode cX11_goesOn 47 = .ok (.iload_n 1, 1) := by decide +kernel
theorem dX11_goesOn_48 : decode cX11_goesOn 48 = .ok (.aload_n 0, 1) := by decide +kernel
theorem dX11_goesOn_49 : decode cX11_goesOn 49 = .ok (.iconst 1, 1) := by decide +kernel
theorem dX11_goesOn_50 : decode cX11_goesOn 50 = .ok (.invokevirtual 47, 3) := by decide +kernel
theorem dX11_goesOn_53 : decode cX11_goesOn 53 = .ok (.if_icmp .ne 43, 3) := by decide +kernel
theorem dX11_goesOn_56 : decode cX11_goesOn 56 = .ok (.aload_n 0, 1) := by decide +kernel
theorem dX11_goesOn_57 : decode cX11_goesOn 57 = .ok (.iconst 5, 1) := by decide +kernel
theorem dX11_goesOn_58 : decode cX11_goesOn 58 = .ok (.invokevirtual 47, 3) := by decide +kernel
theorem dX11_goesOn_61 : decode cX11_goesOn 61 = .ok (.iconst 2, 1) := by decide +kernel
theorem dX11_goesOn_62 : decode cX11_goesOn 62 = .ok (.if_icmp .eq 12, 3) := by decide +kernel
theorem dX11_goesOn_65 : decode cX11_goesOn 65 = .ok (.aload_n 0, 1) := by decide +kernel
theorem dX11_goesOn_66 : decode cX11_goesOn 66 = .ok (.bipush 7, 2) := by decide +kernel
theorem dX11_goesOn_68 : decode cX11_goesOn 68 = .ok (.invokevirtual 47, 3) := by decide +kernel
theorem dX11_goesOn_71 : decode cX11_goesOn 71 = .ok (.ifCond .le 25, 3) := by decide +kernel
theorem dX11_goesOn_74 : decode cX11_goesOn 74 = .ok (.aload_n 0, 1) := by decide +kernel
theorem dX11_goesOn_75 : decode cX11_goesOn 75 = .ok (.bipush 9, 2) := by decide +kernel
theorem dX11_goesOn_77 : decode cX11_goesOn 77 = .ok (.invokevirtual 47, 3) := by decide +kernel
theorem dX11_goesOn_80 : decode cX11_goesOn 80 = .ok (.iconst 1, 1) := by decide +kernel
theorem dX11_goesOn_81 : decode cX11_goesOn 81 = .ok (.if_icmp .ne 8, 3) := by decide +kernel
theorem dX11_goesOn_84 : decode cX11_goesOn 84 = .ok (.aload_n 0, 1) := by decide +kernel
theorem dX11_goesOn_85 : decode cX11_goesOn 85 = .ok (.invokevirtual 131, 3) := by decide +kernel
theorem dX11_goesOn_88 : decode cX11_goesOn 88 = .ok (.return_, 1) := by decide +kernel
theorem dX11_goesOn_89 : decode cX11_goesOn 89 = .ok (.aload_n 0, 1) := by decide +kernel
theorem dX11_goesOn_90 : decode cX11_goesOn 90 = .ok (.bipush 9, 2) := by decide +kernel
theorem dX11_goesOn_92 : decode cX11_goesOn 92 = .ok (.iconst 1, 1) := by decide +kernel
theorem dX11_goesOn_93 : decode cX11_goesOn 93 = .ok (.invokevirtual 43, 3) := by decide +kernel
theorem dX11_goesOn_96 : decode cX11_goesOn 96 = .ok (.aload_n 0, 1) := by decide +kernel
theorem dX11_goesOn_97 : decode cX11_goesOn 97 = .ok (.iconst 5, 1) := by decide +kernel
theorem dX11_goesOn_98 : decode cX11_goesOn 98 = .ok (.invokevirtual 47, 3) := by decide +kernel
theorem dX11_goesOn_101 : decode cX11_goesOn 101 = .ok (.iconst 1, 1) := by decide +kernel
theorem dX11_goesOn_102 : decode cX11_goesOn 102 = .ok (.if_icmp .ne 11, 3) := by decide +kernel
theorem dX11_goesOn_105 : decode cX11_goesOn 105 = .ok (.aload_n 0, 1) := by decide +kernel
theorem dX11_goesOn_106 : decode cX11_goesOn 106 = .ok (.iload_n 1, 1) := by decide +kernel
theorem dX11_goesOn_107 : decode cX11_goesOn 107 = .ok (.invokevirtual 134, 3) := by decide +kernel
theorem dX11_goesOn_110 : decode cX11_goesOn 110 = .ok (.goto 8, 3) := by decide +kernel
theorem dX11_goesOn_113 : decode cX11_goesOn 113 = .ok (.aload_n 0, 1) := by decide +kernel
theorem dX11_goesOn_114 : decode cX11_goesOn 114 = .ok (.iload_n 1, 1) := by decide +kernel
theorem dX11_goesOn_115 : decode cX11_goesOn 115 = .ok (.invokevirtual 137, 3) := by decide +kernel
theorem dX11_goesOn_118 : decode cX11_goesOn 118 = .ok (.return_, 1) := by decide +kernel
theorem dX11_got_0 : decode cX11_got 0 = .ok (.iload_n 1, 1) := by decide +kernel
theorem dX11_got_1 : decode cX11_got 1 = .ok (.iconst 0, 1) := by decide +kernel
theorem dX11_got_2 : decode cX11_got 2 = .ok (.bipush 15, 2) := by decide +kernel
theorem dX11_got_4 : decode cX11_got 4 = .ok (.invokestatic 228, 3) := by decide +kernel
theorem dX11_got_7 : decode cX11_got 7 = .ok (.ifCond .eq 12, 3) := by decide +kernel
theorem dX11_got_10 : decode cX11_got 10 = .ok (.iload_n 2, 1) := by decide +kernel
theorem dX11_got_11 : decode cX11_got 11 = .ok (.iconst 0, 1) := by decide +kernel
theorem dX11_got_12 : decode cX11_got 12 = .ok (.iconst 5, 1) := by decide +kernel
theorem dX11_got_13 : decode cX11_got 13 = .ok (.invokestatic 228, 3) := by decide +kernel
theorem dX11_got_16 : decode cX11_got 16 = .ok (.ifCond .ne 9, 3) := by decide +kernel
theorem dX11_got_19 : decode cX11_got 19 = .ok (.aload_n 0, 1) := by decide +kernel
theorem dX11_got_20 : decode cX11_got 20 = .ok (.iconst 1, 1) := by decide +kernel
theorem dX11_got_21 : decode cX11_got 21 = .ok (.invokevirtual 267, 3) := by decide +kernel
theorem dX11_got_24 : decode cX11_got 24 = .ok (.ireturn, 1) := by decide +kernel
theorem dX11_got_25 : decode cX11_got 25 = .ok (.iload_n 1, 1) := by decide +kernel
theorem dX11_got_26 : decode cX11_got 26 = .ok (.aload_n 0, 1) := by decide +kernel
theorem dX11_got_27 : decode cX11_got 27 = .ok (.bipush 31, 2) := by decide +kernel
theorem dX11_got_29 : decode cX11_got 29 = .ok (.invokevirtual 47, 3) := by decide +kernel
theorem dX11_got_32 : decode cX11_got 32 = .ok (.if_icmp .ge 33, 3) := by decide +kernel
theorem dX11_got_35 : decode cX11_got 35 = .ok (.aload_n 0, 1) := by decide +kernel
theorem dX11_got_36 : decode cX11_got 36 = .ok (.aload_n 0, 1) := by decide +kernel
theorem dX11_got_37 : decode cX11_got 37 = .ok (.sipush 416, 3) := by decide +kernel
theorem dX11_got_40 : decode cX11_got 40 = .ok (.bipush 6, 2) := by decide +kernel
theorem dX11_got_42 : decode cX11_got 42 = .ok (.aload_n 0, 1) := by decide +kernel
theorem dX11_got_43 : decode cX11_got 43 = .ok (.bipush 31, 2) := by decide +kernel
theorem dX11_got_45 : decode cX11_got 45 = .ok (.invokevirtual 47, 3) := by decide +kernel
theorem dX11_got_48 : decode cX11_got 48 = .ok (.iconst 1, 1) := by decide +kernel
theorem dX11_got_49 : decode cX11_got 49 = .ok (.isub, 1) := by decide +kernel
theorem dX11_got_50 : decode cX11_got 50 = .ok (.iload_n 1, 1) := by decide +kernel
theorem dX11_got_51 : decode cX11_got 51 = .ok (.isub, 1) := by decide +kernel
theorem dX11_got_52 : decode cX11_got 52 = .ok (.imul, 1) := by decide +kernel
theorem dX11_got_53 : decode cX11_got 53 = .ok (.iadd, 1) := by decide +kernel
theorem dX11_got_54 : decode cX11_got 54 = .ok (.iload_n 2, 1) := by decide +kernel
theorem dX11_got_55 : decode cX11_got 55 = .ok (.iadd, 1) := by decide +kernel
theorem dX11_got_56 : decode cX11_got 56 = .ok (.invokevirtual 47, 3) := by decide +kernel
theorem dX11_got_59 : decode cX11_got 59 = .ok (.invokevirtual 276, 3) := by decide +kernel
theorem dX11_got_62 : decode cX11_got 62 = .ok (.goto 8, 3) := by decide +kernel
theorem dX11_got_65 : decode cX11_got 65 = .ok (.aload_n 0, 1) := by decide +kernel
theorem dX11_got_66 : decode cX11_got 66 = .ok (.iconst 5, 1) := by decide +kernel
theorem dX11_got_67 : decode cX11_got 67 = .ok (.invokevirtual 267, 3) := by decide +kernel
theorem dX11_got_70 : decode cX11_got 70 = .ok (.ireturn, 1) := by decide +kernel
theorem dX11_happens_0 : decode cX11_happens 0 = .ok (.aload_n 0, 1) := by decide +kernel
theorem dX11_happens_1 : decode cX11_happens 1 = .ok (.bipush 32, 2) := by decide +kernel
theorem dX11_happens_3 : decode cX11_happens 3 = .ok (.invokevirtual 47, 3) := by decide +kernel
theorem dX11_happens_6 : decode cX11_happens 6 = .ok (.bipush 24, 2) := by decide +kernel
theorem dX11_happens_8 : decode cX11_happens 8 = .ok (.if_icmp .ne 39, 3) := by decide +kernel
theorem dX11_happens_11 : decode cX11_happens 11 = .ok (.sipush 512, 3) := by decide +kernel
theorem dX11_happens_14 : decode cX11_happens 14 = .ok (.istore_n 3, 1) := by decide +kernel
theorem dX11_happens_15 : decode cX11_happens 15 = .ok (.iload_n 3, 1) := by decide +kernel
theorem dX11_happens_16 : decode cX11_happens 16 = .ok (.sipush 581, 3) := by decide +kernel
theorem dX11_happens_19 : decode cX11_happens 19 = .ok (.if_icmp .ge 21, 3) := by decide +kernel
theorem dX11_happens_22 : decode cX11_happens 22 = .ok (.aload_n 0, 1) := by decide +kernel
theorem dX11_happens_23 : decode cX11_happens 23 = .ok (.iload_n 3, 1) := by decide +kernel
theorem dX11_happens_24 : decode cX11_happens 24 = .ok (.aload_n 0, 1) := by decide +kernel
theorem dX11_happens_25 : decode cX11_happens 25 = .ok (.iload_n 3, 1) := by decide +kernel
theorem dX11_happens_26 : decode cX11_happens 26 = .ok (.iconst 3, 1) := by decide +kernel
theorem dX11_happens_27 : decode cX11_happens 27 = .ok (.iadd, 1) := by decide +kernel
theorem dX11_happens_28 : decode cX11_happens 28 = .ok (.invokevirtual 47, 3) := by decide +kernel
theorem dX11_happens_31 : decode cX11_happens 31 = .ok (.invokevirtual 43, 3) := by decide +kernel
theorem dX11_happens_34 : decode cX11_happens 34 = .ok (.iinc 3 1, 3) := by decide +kernel
theorem dX11_happens_37 : decode cX11_happens 37 = .ok (.goto (-22), 3) := by decide +kernel
theorem dX11_happens_40 : decode cX11_happens 40 = .ok (.aload_n 0, 1) := by decide +kernel
theorem dX11_happens_41 : decode cX11_happens 41 = .ok (.bipush 32, 2) := by decide +kernel
theorem dX11_happens_43 : decode cX11_happens 43 = .ok (.iconst (-1), 1) := by decide +kernel
theorem dX11_happens_44 : decode cX11_happens 44 = .ok (.invokevirtual 69, 3) := by decide +kernel
theorem dX11_happens_47 : decode cX11_happens 47 = .ok (.sipush 512, 3) := by decide +kernel
theorem dX11_happens_50 : decode cX11_happens 50 = .ok (.iconst 3, 1) := by decide +kernel
theorem dX11_happens_51 : decode cX11_happens 51 = .ok (.aload_n 0, 1) := by decide +kernel
theorem dX11_happens_52 : decode cX11_happens 52 = .ok (.bipush 32, 2) := by decide +kernel
theorem dX11_happens_54 : decode cX11_happens 54 = .ok (.invokevirtual 47, 3) := by decide +kernel
theorem dX11_happens_57 : decode cX11_happens 57 = .ok (.imul, 1) := by decide +kernel
theorem dX11_happens_58 : decode cX11_happens 58 = .ok (.iadd, 1) := by decide +kernel
theorem dX11_happens_59 : decode cX11_happens 59 = .ok (.istore_n 3, 1) := by decide +kernel
theorem dX11_happens_60 : decode cX11_happens 60 = .ok (.aload_n 0, 1) := by decide +kernel
theorem dX11_happens_61 : decode cX11_happens 61 = .ok (.iload_n 3, 1) := by decide +kernel
theorem dX11_happens_62 : decode cX11_happens 62 = .ok (.iload_n 1, 1) := by decide +kernel
theorem dX11_happens_63 : decode cX11_happens 63 = .ok (.invokevirtual 43, 3) := by decide +kernel
theorem dX11_happens_66 : decode cX11_happens 66 = .ok (.aload_n 0, 1) := by decide +kernel
theorem dX11_happens_67 : decode cX11_happens 67 = .ok (.iload_n 3, 1) := by decide +kernel
theorem dX11_happens_68 : decode cX11_happens 68 = .ok (.iconst 1, 1) := by decide +kernel
theorem dX11_happens_69 : decode cX11_happens 69 = .ok (.iadd, 1) := by decide +kernel
theorem dX11_happens_70 : decode cX11_happens 70 = .ok (.aload_n 0, 1) := by decide +kernel
theorem dX11_happens_71 : decode cX11_happens 71 = .ok (.iconst 3, 1) := by decide +kernel
theorem dX11_happens_72 : decode cX11_happens 72 = .ok (.invokevirtual 47, 3) := by decide +kernel
theorem dX11_happens_75 : decode cX11_happens 75 = .ok (.invokevirtual 43, 3) := by decide +kernel
theorem dX11_happens_78 : decode cX11_happens 78 = .ok (.aload_n 0, 1) := by decide +kernel
theorem dX11_happens_79 : decode cX11_happens 79 = .ok (.iload_n 3, 1) := by decide +kernel
theorem dX11_happens_80 : decode cX11_happens 80 = .ok (.iconst 2, 1) := by decide +kernel
theorem dX11_happens_81 : decode cX11_happens 81 = .ok (.iadd, 1) := by decide +kernel
theorem dX11_happens_82 : decode cX11_happens 82 = .ok (.iload_n 2, 1) := by decide +kernel
theorem dX11_happens_83 : decode cX11_happens 83 = .ok (.invokevirtual 43, 3) := by decide +kernel
theorem dX11_happens_86 : decode cX11_happens 86 = .ok (.aload_n 0, 1) := by decide +kernel
theorem dX11_happens_87 : decode cX11_happens 87 = .ok (.bipush 32, 2) := by decide +kernel
theorem dX11_happens_89 : decode cX11_happens 89 = .ok (.iconst 1, 1) := by decide +kernel
theorem dX11_happens_90 : decode cX11_happens 90 = .ok (.invokevirtual 69, 3) := by decide +kernel
theorem dX11_happens_93 : decode cX11_happens 93 = .ok (.return_, 1) := by decide +kernel
theorem dX11_healed_0 : decode cX11_healed 0 = .ok (.aload_n 0, 1) := by decide +kernel
theorem dX11_healed_1 : decode cX11_healed 1 = .ok (.aload_n 0, 1) := by decide +kernel
theorem dX11_healed_2 : decode cX11_healed 2 = .ok (.iconst 2, 1) := by decide +kernel
theorem dX11_healed_3 : decode cX11_healed 3 = .ok (.iconst 0, 1) := by decide +kernel
theorem dX11_healed_4 : decode cX11_healed 4 = .ok (.invokevirtual 332, 3) := by decide +kernel
theorem dX11_healed_7 : decode cX11_healed 7 = .ok (.invokevirtual 336, 3) := by decide +kernel
theorem dX11_healed_10 : decode cX11_healed 10 = .ok (.ireturn, 1) := by decide +kernel
theorem dX11_heir_0 : decode cX11_heir 0 = .ok (.aload_n 0, 1) := by decide +kernel
theorem dX11_heir_1 : decode cX11_heir 1 = .ok (.invokevirtual 146, 3) := by decide +kernel
theorem dX11_heir_4 : decode cX11_heir 4 = .ok (.istore_n 1, 1) := by decide +kernel
theorem dX11_heir_5 : decode cX11_heir 5 = .ok (.iload_n 1, 1) := by decide +kernel
theorem dX11_heir_6 : decode cX11_heir 6 = .ok (.iconst (-1), 1) := by decide +kernel
theorem dX11_heir_7 : decode cX11_heir 7 = .ok (.if_icmp .ne 11, 3) := by decide +kernel
theorem dX11_heir_10 : decode cX11_heir 10 = .ok (.aload_n 0, 1) := by decide +kernel
theorem dX11_heir_11 : decode cX11_heir 11 = .ok (.iconst 5, 1) := by decide +kernel
theorem dX11_heir_12 : decode cX11_heir 12 = .ok (.invokevirtual 267, 3) := by decide +kernel
theorem dX11_heir_15 : decode cX11_heir 15 = .ok (.goto 8, 3) := by decide +kernel
theorem dX11_heir_18 : decode cX11_heir 18 = .ok (.aload_n 0, 1) := by decide +kernel
theorem dX11_heir_19 : decode cX11_heir 19 = .ok (.iload_n 1, 1) := by decide +kernel
theorem dX11_heir_20 : decode cX11_heir 20 = .ok (.invokevirtual 276, 3) := by decide +kernel
theorem dX11_heir_23 : decode cX11_heir 23 = .ok (.ireturn, 1) := by decide +kernel
theorem dX11_heirNow_0 : decode cX11_heirNow 0 = .ok (.iconst (-1), 1) := by decide +kernel
theorem dX11_heirNow_1 : decode cX11_heirNow 1 = .ok (.istore_n 1, 1) := by decide +kernel
theorem dX11_heirNow_2 : decode cX11_heirNow 2 = .ok (.iconst 0, 1) := by decide +kernel
theorem dX11_heirNow_3 : decode cX11_heirNow 3 = .ok (.istore_n 2, 1) := by decide +kernel
theorem dX11_heirNow_4 : decode cX11_heirNow 4 = .ok (.iload_n 2, 1) := by decide +kernel
theorem dX11_heirNow_5 : decode cX11_heirNow 5 = .ok (.aload_n 0, 1) := by decide +kernel
theorem dX11_heirNow_6 : decode cX11_heirNow 6 = .ok (.iconst 0, 1) := by decide +kernel
theorem dX11_heirNow_7 : decode cX11_heirNow 7 = .ok (.invokevirtual 47, 3) := by decide +kernel
theorem dX11_heirNow_10 : decode cX11_heirNow 10 = .ok (.if_icmp .ge 43, 3) := by decide +kernel
theorem dX11_heirNow_13 : decode cX11_heirNow 13 = .ok (.aload_n 0, 1) := by decide +kernel
theorem dX11_heirNow_14 : decode cX11_heirNow 14 = .ok (.iload_n 2, 1) := by decide +kernel
theorem dX11_heirNow_15 : decode cX11_heirNow 15 = .ok (.invokevirtual 55, 3) := by decide +kernel
theorem dX11_heirNow_18 : decode cX11_heirNow 18 = .ok (.ifCond .eq 29, 3) := by decide +kernel
theorem dX11_heirNow_21 : decode cX11_heirNow 21 = .ok (.iload_n 1, 1) := by decide +kernel
theorem dX11_heirNow_22 : decode cX11_heirNow 22 = .ok (.iconst (-1), 1) := by decide +kernel
theorem dX11_heirNow_23 : decode cX11_heirNow 23 = .ok (.if_icmp .eq 22, 3) := by decide +kernel
theorem dX11_heirNow_26 : decode cX11_heirNow 26 = .ok (.aload_n 0, 1) := by decide +kernel
theorem dX11_heirNow_27 : decode cX11_heirNow 27 = .ok (.bipush 40, 2) := by decide +kernel
theorem dX11_heirNow_29 : decode cX11_heirNow 29 = .ok (.iload_n 2, 1) := by decide +kernel
theorem dX11_heirNow_30 : decode cX11_heirNow 30 = .ok (.iadd, 1) := by decide +kernel
theorem dX11_heirNow_31 : decode cX11_heirNow 31 = .ok (.invokevirtual 47, 3) := by decide +kernel
theorem dX11_heirNow_34 : decode cX11_heirNow 34 = .ok (.aload_n 0, 1) := by decide +kernel
theorem dX11_heirNow_35 : decode cX11_heirNow 35 = .ok (.bipush 40, 2) := by decide +kernel
theorem dX11_heirNow_37 : decode cX11_heirNow 37 = .ok (.iload_n 1, 1) := by decide +kernel
theorem dX11_heirNow_38 : decode cX11_heirNow 38 = .ok (.iadd, 1) := by decide +kernel
theorem dX11_heirNow_39 : decode cX11_heirNow 39 = .ok (.invokevirtual 47, 3) := by decide +kernel
theorem dX11_heirNow_42 : decode cX11_heirNow 42 = .ok (.if_icmp .le 5, 3) := by decide +kernel
theorem dX11_heirNow_45 : decode cX11_heirNow 45 = .ok (.iload_n 2, 1) := by decide +kernel
theorem dX11_heirNow_46 : decode cX11_heirNow 46 = .ok (.istore_n 1, 1) := by decide +kernel
theorem dX11_heirNow_47 : decode cX11_heirNow 47 = .ok (.iinc 2 1, 3) := by decide +kernel
theorem dX11_heirNow_50 : decode cX11_heirNow 50 = .ok (.goto (-46), 3) := by decide +kernel
theorem dX11_heirNow_53 : decode cX11_heirNow 53 = .ok (.iload_n 1, 1) := by decide +kernel
theorem dX11_heirNow_54 : decode cX11_heirNow 54 = .ok (.ireturn, 1) := by decide +kernel
theorem dX11_hops_0 : decode cX11_hops 0 = .ok (.aload_n 0, 1) := by decide +kernel
theorem dX11_hops_1 : decode cX11_hops 1 = .ok (.iload_n 1, 1) := by decide +kernel
theorem dX11_hops_2 : decode cX11_hops 2 = .ok (.invokevirtual 51, 3) := by decide +kernel
theorem dX11_hops_5 : decode cX11_hops 5 = .ok (.ifCond .eq 11, 3) := by decide +kernel
theorem dX11_hops_8 : decode cX11_hops 8 = .ok (.aload_n 0, 1) := by decide +kernel
theorem dX11_hops_9 : decode cX11_hops 9 = .ok (.iload_n 2, 1) := by decide +kernel
theorem dX11_hops_10 : decode cX11_hops 10 = .ok (.invokevirtual 51, 3) := by decide +kernel
theorem dX11_hops_13 : decode cX11_hops 13 = .ok (.ifCond .ne 9, 3) := by decide +kernel
theorem dX11_hops_16 : decode cX11_hops 16 = .ok (.aload_n 0, 1) := by decide +kernel
theorem dX11_hops_17 : decode cX11_hops 17 = .ok (.iconst 2, 1) := by decide +kernel
theorem dX11_hops_18 : decode cX11_hops 18 = .ok (.invokevirtual 267, 3) := by decide +kernel
theorem dX11_hops_21 : decode cX11_hops 21 = .ok (.ireturn, 1) := by decide +kernel
theorem dX11_hops_22 : decode cX11_hops 22 = .ok (.aload_n 0, 1) := by decide +kernel
theorem dX11_hops_23 : decode cX11_hops 23 = .ok (.iload_n 1, 1) := by decide +kernel
theorem dX11_hops_24 : decode cX11_hops 24 = .ok (.iload_n 2, 1) := by decide +kernel
theorem dX11_hops_25 : decode cX11_hops 25 = .ok (.invokevirtual 124, 3) := by decide +kernel
theorem dX11_hops_28 : decode cX11_hops 28 = .ok (.ifCond .eq 9, 3) := by decide +kernel
theorem dX11_hops_31 : decode cX11_hops 31 = .ok (.aload_n 0, 1) := by decide +kernel
theorem dX11_hops_32 : decode cX11_hops 32 = .ok (.iconst 3, 1) := by decide +kernel
theorem dX11_hops_33 : decode cX11_hops 33 = .ok (.invokevirtual 267, 3) := by decide +kernel
theorem dX11_hops_36 : decode cX11_hops 36 = .ok (.ireturn, 1) := by decide +kernel
theorem dX11_hops_37 : decode cX11_hops 37 = .ok (.aload_n 0, 1) := by decide +kernel
theorem dX11_hops_38 : decode cX11_hops 38 = .ok (.iload_n 2, 1) := by decide +kernel
theorem dX11_hops_39 : decode cX11_hops 39 = .ok (.invokevirtual 55, 3) := by decide +kernel
theorem dX11_hops_42 : decode cX11_hops 42 = .ok (.ifCond .ne 9, 3) := by decide +kernel
theorem dX11_hops_45 : decode cX11_hops 45 = .ok (.aload_n 0, 1) := by decide +kernel
theorem dX11_hops_46 : decode cX11_hops 46 = .ok (.iconst 5, 1) := by decide +kernel
theorem dX11_hops_47 : decode cX11_hops 47 = .ok (.invokevirtual 267, 3) := by decide +kernel
theorem dX11_hops_50 : decode cX11_hops 50 = .ok (.ireturn, 1) := by decide +kernel
theorem dX11_hops_51 : decode cX11_hops 51 = .ok (.iconst 0, 1) := by decide +kernel
theorem dX11_hops_52 : decode cX11_hops 52 = .ok (.istore_n 3, 1) := by decide +kernel
theorem dX11_hops_53 : decode cX11_hops 53 = .ok (.iload_n 1, 1) := by decide +kernel
theorem dX11_hops_54 : decode cX11_hops 54 = .ok (.istore 4, 2) := by decide +kernel
theorem dX11_hops_56 : decode cX11_hops 56 = .ok (.iload 4, 2) := by decide +kernel
theorem dX11_hops_58 : decode cX11_hops 58 = .ok (.iconst 1, 1) := by decide +kernel
theorem dX11_hops_59 : decode cX11_hops 59 = .ok (.iadd, 1) := by decide +kernel
theorem dX11_hops_60 : decode cX11_hops 60 = .ok (.aload_n 0, 1) := by decide +kernel
theorem dX11_hops_61 : decode cX11_hops 61 = .ok (.iconst 0, 1) := by decide +kernel
theorem dX11_hops_62 : decode cX11_hops 62 = .ok (.invokevirtual 47, 3) := by decide +kernel
theorem dX11_hops_65 : decode cX11_hops 65 = .ok (.irem, 1) := by decide +kernel
theorem dX11_hops_66 : decode cX11_hops 66 = .ok (.istore 4, 2) := by decide +kernel
theorem dX11_hops_68 : decode cX11_hops 68 = .ok (.iload_n 3, 1) := by decide +kernel
theorem dX11_hops_69 : decode cX11_hops 69 = .ok (.aload_n 0, 1) := by decide +kernel
theorem dX11_hops_70 : decode cX11_hops 70 = .ok (.bipush 48, 2) := by decide +kernel
theorem dX11_hops_72 : decode cX11_hops 72 = .ok (.iload 4, 2) := by decide +kernel
theorem dX11_hops_74 : decode cX11_hops 74 = .ok (.iadd, 1) := by decide +kernel
theorem dX11_hops_75 : decode cX11_hops 75 = .ok (.invokevirtual 47, 3) := by decide +kernel
theorem dX11_hops_78 : decode cX11_hops 78 = .ok (.iadd, 1) := by decide +kernel
theorem dX11_hops_79 : decode cX11_hops 79 = .ok (.istore_n 3, 1) := by decide +kernel
theorem dX11_hops_80 : decode cX11_hops 80 = .ok (.iload 4, 2) := by decide +kernel
theorem dX11_hops_82 : decode cX11_hops 82 = .ok (.iload_n 2, 1) := by decide +kernel
theorem dX11_hops_83 : decode cX11_hops 83 = .ok (.if_icmp .ne (-27), 3) := by decide +kernel
theorem dX11_hops_86 : decode cX11_hops 86 = .ok (.aload_n 0, 1) := by decide +kernel
theorem dX11_hops_87 : decode cX11_hops 87 = .ok (.iload_n 3, 1) := by decide +kernel
theorem dX11_hops_88 : decode cX11_hops 88 = .ok (.invokevirtual 276, 3) := by decide +kernel
theorem dX11_hops_91 : decode cX11_hops 91 = .ok (.ireturn, 1) := by decide +kernel
theorem dX11_isAnew_0 : decode cX11_isAnew 0 = .ok (.aload_n 0, 1) := by decide +kernel
theorem dX11_isAnew_1 : decode cX11_isAnew 1 = .ok (.iconst 5, 1) := by decide +kernel
theorem dX11_isAnew_2 : decode cX11_isAnew 2 = .ok (.invokevirtual 47, 3) := by decide +kernel
theorem dX11_isAnew_5 : decode cX11_isAnew 5 = .ok (.ifCond .ne 7, 3) := by decide +kernel
theorem dX11_isAnew_8 : decode cX11_isAnew 8 = .ok (.aload_n 0, 1) := by decide +kernel
theorem dX11_isAnew_9 : decode cX11_isAnew 9 = .ok (.invokevirtual 128, 3) := by decide +kernel
theorem dX11_isAnew_12 : decode cX11_isAnew 12 = .ok (.return_, 1) := by decide +kernel
theorem dX11_isBlamed_0 : decode cX11_isBlamed 0 = .ok (.aload_n 0, 1) := by decide +kernel
theorem dX11_isBlamed_1 : decode cX11_isBlamed 1 = .ok (.bipush 48, 2) := by decide +kernel
theorem dX11_isBlamed_3 : decode cX11_isBlamed 3 = .ok (.iload_n 1, 1) := by decide +kernel
theorem dX11_isBlamed_4 : decode cX11_isBlamed 4 = .ok (.iadd, 1) := by decide +kernel
theorem dX11_isBlamed_5 : decode cX11_isBlamed 5 = .ok (.iconst 0, 1) := by decide +kernel
theorem dX11_isBlamed_6 : decode cX11_isBlamed 6 = .ok (.invokevirtual 43, 3) := by decide +kernel
theorem dX11_isBlamed_9 : decode cX11_isBlamed 9 = .ok (.aload_n 0, 1) := by decide +kernel
theorem dX11_isBlamed_10 : decode cX11_isBlamed 10 = .ok (.invokevirtual 58, 3) := by decide +kernel
theorem dX11_isBlamed_13 : decode cX11_isBlamed 13 = .ok (.istore_n 2, 1) := by decide +kernel
theorem dX11_isBlamed_14 : decode cX11_isBlamed 14 = .ok (.aload_n 0, 1) := by decide +kernel
theorem dX11_isBlamed_15 : decode cX11_isBlamed 15 = .ok (.bipush 48, 2) := by decide +kernel
theorem dX11_isBlamed_17 : decode cX11_isBlamed 17 = .ok (.iload_n 1, 1) := by decide +kernel
theorem dX11_isBlamed_18 : decode cX11_isBlamed 18 = .ok (.iadd, 1) := by decide +kernel
theorem dX11_isBlamed_19 : decode cX11_isBlamed 19 = .ok (.iconst 1, 1) := by decide +kernel
theorem dX11_isBlamed_20 : decode cX11_isBlamed 20 = .ok (.invokevirtual 43, 3) := by decide +kernel
theorem dX11_isBlamed_23 : decode cX11_isBlamed 23 = .ok (.iload_n 2, 1) := by decide +kernel
theorem dX11_isBlamed_24 : decode cX11_isBlamed 24 = .ok (.ifCond .eq 4, 3) := by decide +kernel
theorem dX11_isBlamed_27 : decode cX11_isBlamed 27 = .ok (.return_, 1) := by decide +kernel
theorem dX11_isBlamed_28 : decode cX11_isBlamed 28 = .ok (.aload_n 0, 1) := by decide +kernel
theorem dX11_isBlamed_29 : decode cX11_isBlamed 29 = .ok (.iload_n 1, 1) := by decide +kernel
theorem dX11_isBlamed_30 : decode cX11_isBlamed 30 = .ok (.invokevirtual 140, 3) := by decide +kernel
theorem dX11_isBlamed_33 : decode cX11_isBlamed 33 = .ok (.aload_n 0, 1) := by decide +kernel
theorem dX11_isBlamed_34 : decode cX11_isBlamed 34 = .ok (.bipush 6, 2) := by decide +kernel
theorem dX11_isBlamed_36 : decode cX11_isBlamed 36 = .ok (.iload_n 1, 1) := by decide +kernel
theorem dX11_isBlamed_37 : decode cX11_isBlamed 37 = .ok (.invokevirtual 72, 3) := by decide +kernel
theorem dX11_isBlamed_40 : decode cX11_isBlamed 40 = .ok (.aload_n 0, 1) := by decide +kernel
theorem dX11_isBlamed_41 : decode cX11_isBlamed 41 = .ok (.iload_n 1, 1) := by decide +kernel
theorem dX11_isBlamed_42 : decode cX11_isBlamed 42 = .ok (.putfield 143, 3) := by decide +kernel
theorem dX11_isBlamed_45 : decode cX11_isBlamed 45 = .ok (.aload_n 0, 1) := by decide +kernel
theorem dX11_isBlamed_46 : decode cX11_isBlamed 46 = .ok (.invokevirtual 128, 3) := by decide +kernel
theorem dX11_isBlamed_49 : decode cX11_isBlamed 49 = .ok (.return_, 1) := by decide +kernel
theorem dX11_isBroken_0 : decode cX11_isBroken 0 = .ok (.aload_n 0, 1) := by decide +kernel
theorem dX11_isBroken_1 : decode cX11_isBroken 1 = .ok (.invokevirtual 58, 3) := by decide +kernel
theorem dX11_isBroken_4 : decode cX11_isBroken 4 = .ok (.ifCond .ne 5, 3) := by decide +kernel
theorem dX11_isBroken_7 : decode cX11_isBroken 7 = .ok (.iconst 0, 1) := by decide +kernel
theorem dX11_isBroken_8 : decode cX11_isBroken 8 = .ok (.ireturn, 1) := by decide +kernel
theorem dX11_isBroken_9 : decode cX11_isBroken 9 = .ok (.iload_n 1, 1) := by decide +kernel
theorem dX11_isBroken_10 : decode cX11_isBroken 10 = .ok (.istore_n 3, 1) := by decide +kernel
theorem dX11_isBroken_11 : decode cX11_isBroken 11 = .ok (.iload_n 3, 1) := by decide +kernel
theorem dX11_isBroken_12 : decode cX11_isBroken 12 = .ok (.aload_n 0, 1) := by decide +kernel
theorem dX11_isBroken_13 : decode cX11_isBroken 13 = .ok (.bipush 16, 2) := by decide +kernel
theorem dX11_isBroken_15 : decode cX11_isBroken 15 = .ok (.invokevirtual 47, 3) := by decide +kernel
theorem dX11_isBroken_18 : decode cX11_isBroken 18 = .ok (.if_icmp .ne 5, 3) := by decide +kernel
theorem dX11_isBroken_21 : decode cX11_isBroken 21 = .ok (.iconst 1, 1) := by decide +kernel
theorem dX11_isBroken_22 : decode cX11_isBroken 22 = .ok (.ireturn, 1) := by decide +kernel
theorem dX11_isBroken_23 : decode cX11_isBroken 23 = .ok (.iload_n 3, 1) := by decide +kernel
theorem dX11_isBroken_24 : decode cX11_isBroken 24 = .ok (.iconst 1, 1) := by decide +kernel
theorem dX11_isBroken_25 : decode cX11_isBroken 25 = .ok (.iadd, 1) := by decide +kernel
theorem dX11_isBroken_26 : decode cX11_isBroken 26 = .ok (.aload_n 0, 1) := by decide +kernel
theorem dX11_isBroken_27 : decode cX11_isBroken 27 = .ok (.iconst 0, 1) := by decide +kernel
theorem dX11_isBroken_28 : decode cX11_isBroken 28 = .ok (.invokevirtual 47, 3) := by decide +kernel
theorem dX11_isBroken_31 : decode cX11_isBroken 31 = .ok (.irem, 1) := by decide +kernel
theorem dX11_isBroken_32 : decode cX11_isBroken 32 = .ok (.istore_n 3, 1) := by decide +kernel
theorem dX11_isBroken_33 : decode cX11_isBroken 33 = .ok (.iload_n 3, 1) := by decide +kernel
theorem dX11_isBroken_34 : decode cX11_isBroken 34 = .ok (.iload_n 2, 1) := by decide +kernel
theorem dX11_isBroken_35 : decode cX11_isBroken 35 = .ok (.if_icmp .ne (-24), 3) := by decide +kernel
theorem dX11_isBroken_38 : decode cX11_isBroken 38 = .ok (.iconst 0, 1) := by decide +kernel
theorem dX11_isBroken_39 : decode cX11_isBroken 39 = .ok (.ireturn, 1) := by decide +kernel
theorem dX11_isDigit_0 : decode cX11_isDigit 0 = .ok (.iload_n 0, 1) := by decide +kernel
theorem dX11_isDigit_1 : decode cX11_isDigit 1 = .ok (.bipush 48, 2) := by decide +kernel
theorem dX11_isDigit_3 : decode cX11_isDigit 3 = .ok (.if_icmp .lt 13, 3) := by decide +kernel
theorem dX11_isDigit_6 : decode cX11_isDigit 6 = .ok (.iload_n 0, 1) := by decide +kernel
theorem dX11_isDigit_7 : decode cX11_isDigit 7 = .ok (.bipush 57, 2) := by decide +kernel
theorem dX11_isDigit_9 : decode cX11_isDigit 9 = .ok (.if_icmp .gt 7, 3) := by decide +kernel
theorem dX11_isDigit_12 : decode cX11_isDigit 12 = .ok (.iconst 1, 1) := by decide +kernel
theorem dX11_isDigit_13 : decode cX11_isDigit 13 = .ok (.goto 4, 3) := by decide +kernel
theorem dX11_isDigit_16 : decode cX11_isDigit 16 = .ok (.iconst 0, 1) := by decide +kernel
theorem dX11_isDigit_17 : decode cX11_isDigit 17 = .ok (.ireturn, 1) := by decide +kernel
theorem dX11_isFrom_0 : decode cX11_isFrom 0 = .ok (.iload_n 0, 1) := by decide +kernel
theorem dX11_isFrom_1 : decode cX11_isFrom 1 = .ok (.iload_n 1, 1) := by decide +kernel
theorem dX11_isFrom_2 : decode cX11_isFrom 2 = .ok (.if_icmp .lt 12, 3) := by decide +kernel
theorem dX11_isFrom_5 : decode cX11_isFrom 5 = .ok (.iload_n 0, 1) := by decide +kernel
theorem dX11_isFrom_6 : decode cX11_isFrom 6 = .ok (.iload_n 2, 1) := by decide +kernel
theorem dX11_isFrom_7 : decode cX11_isFrom 7 = .ok (.if_icmp .gt 7, 3) := by decide +kernel
theorem dX11_isFrom_10 : decode cX11_isFrom 10 = .ok (.iconst 1, 1) := by decide +kernel
theorem dX11_isFrom_11 : decode cX11_isFrom 11 = .ok (.goto 4, 3) := by decide +kernel
theorem dX11_isFrom_14 : decode cX11_isFrom 14 = .ok (.iconst 0, 1) := by decide +kernel
theorem dX11_isFrom_15 : decode cX11_isFrom 15 = .ok (.ireturn, 1) := by decide +kernel
theorem dX11_isGot_0 : decode cX11_isGot 0 = .ok (.aload_n 0, 1) := by decide +kernel
theorem dX11_isGot_1 : decode cX11_isGot 1 = .ok (.iconst 3, 1) := by decide +kernel
theorem dX11_isGot_2 : decode cX11_isGot 2 = .ok (.invokevirtual 47, 3) := by decide +kernel
theorem dX11_isGot_5 : decode cX11_isGot 5 = .ok (.aload_n 0, 1) := by decide +kernel
theorem dX11_isGot_6 : decode cX11_isGot 6 = .ok (.bipush 15, 2) := by decide +kernel
theorem dX11_isGot_8 : decode cX11_isGot 8 = .ok (.invokevirtual 47, 3) := by decide +kernel
theorem dX11_isGot_11 : decode cX11_isGot 11 = .ok (.isub, 1) := by decide +kernel
theorem dX11_isGot_12 : decode cX11_isGot 12 = .ok (.istore_n 2, 1) := by decide +kernel
theorem dX11_isGot_13 : decode cX11_isGot 13 = .ok (.aload_n 0, 1) := by decide +kernel
theorem dX11_isGot_14 : decode cX11_isGot 14 = .ok (.bipush 31, 2) := by decide +kernel
theorem dX11_isGot_16 : decode cX11_isGot 16 = .ok (.invokevirtual 47, 3) := by decide +kernel
theorem dX11_isGot_19 : decode cX11_isGot 19 = .ok (.bipush 16, 2) := by decide +kernel
theorem dX11_isGot_21 : decode cX11_isGot 21 = .ok (.if_icmp .ne 40, 3) := by decide +kernel
theorem dX11_isGot_24 : decode cX11_isGot 24 = .ok (.sipush 416, 3) := by decide +kernel
theorem dX11_isGot_27 : decode cX11_isGot 27 = .ok (.istore_n 3, 1) := by decide +kernel
theorem dX11_isGot_28 : decode cX11_isGot 28 = .ok (.iload_n 3, 1) := by decide +kernel
theorem dX11_isGot_29 : decode cX11_isGot 29 = .ok (.sipush 506, 3) := by decide +kernel
theorem dX11_isGot_32 : decode cX11_isGot 32 = .ok (.if_icmp .ge 22, 3) := by decide +kernel
theorem dX11_isGot_35 : decode cX11_isGot 35 = .ok (.aload_n 0, 1) := by decide +kernel
theorem dX11_isGot_36 : decode cX11_isGot 36 = .ok (.iload_n 3, 1) := by decide +kernel
theorem dX11_isGot_37 : decode cX11_isGot 37 = .ok (.aload_n 0, 1) := by decide +kernel
theorem dX11_isGot_38 : decode cX11_isGot 38 = .ok (.iload_n 3, 1) := by decide +kernel
theorem dX11_isGot_39 : decode cX11_isGot 39 = .ok (.bipush 6, 2) := by decide +kernel
theorem dX11_isGot_41 : decode cX11_isGot 41 = .ok (.iadd, 1) := by decide +kernel
theorem dX11_isGot_42 : decode cX11_isGot 42 = .ok (.invokevirtual 47, 3) := by decide +kernel
theorem dX11_isGot_45 : decode cX11_isGot 45 = .ok (.invokevirtual 43, 3) := by decide +kernel
theorem dX11_isGot_48 : decode cX11_isGot 48 = .ok (.iinc 3 1, 3) := by decide +kernel
theorem dX11_isGot_51 : decode cX11_isGot 51 = .ok (.goto (-23), 3) := by decide +kernel
theorem dX11_isGot_54 : decode cX11_isGot 54 = .ok (.aload_n 0, 1) := by decide +kernel
theorem dX11_isGot_55 : decode cX11_isGot 55 = .ok (.bipush 31, 2) := by decide +kernel
theorem dX11_isGot_57 : decode cX11_isGot 57 = .ok (.iconst (-1), 1) := by decide +kernel
theorem dX11_isGot_58 : decode cX11_isGot 58 = .ok (.invokevirtual 69, 3) := by decide +kernel
theorem dX11_isGot_61 : decode cX11_isGot 61 = .ok (.sipush 416, 3) := by decide +kernel
theorem dX11_isGot_64 : decode cX11_isGot 64 = .ok (.bipush 6, 2) := by decide +kernel
theorem dX11_isGot_66 : decode cX11_isGot 66 = .ok (.aload_n 0, 1) := by decide +kernel
theorem dX11_isGot_67 : decode cX11_isGot 67 = .ok (.bipush 31, 2) := by decide +kernel
theorem dX11_isGot_69 : decode cX11_isGot 69 = .ok (.invokevirtual 47, 3) := by decide +kernel
theorem dX11_isGot_72 : decode cX11_isGot 72 = .ok (.imul, 1) := by decide +kernel
theorem dX11_isGot_73 : decode cX11_isGot 73 = .ok (.iadd, 1) := by decide +kernel
theorem dX11_isGot_74 : decode cX11_isGot 74 = .ok (.istore_n 3, 1) := by decide +kernel
theorem dX11_isGot_75 : decode cX11_isGot 75 = .ok (.aload_n 0, 1) := by decide +kernel
theorem dX11_isGot_76 : decode cX11_isGot 76 = .ok (.iload_n 3, 1) := by decide +kernel
theorem dX11_isGot_77 : decode cX11_isGot 77 = .ok (.aload_n 0, 1) := by decide +kernel
theorem dX11_isGot_78 : decode cX11_isGot 78 = .ok (.bipush 14, 2) := by decide +kernel
theorem dX11_isGot_80 : decode cX11_isGot 80 = .ok (.invokevirtual 47, 3) := by decide +kernel
theorem dX11_isGot_83 : decode cX11_isGot 83 = .ok (.invokevirtual 43, 3) := by decide +kernel
theorem dX11_isGot_86 : decode cX11_isGot 86 = .ok (.aload_n 0, 1) := by decide +kernel
theorem dX11_isGot_87 : decode cX11_isGot 87 = .ok (.iload_n 3, 1) := by decide +kernel
theorem dX11_isGot_88 : decode cX11_isGot 88 = .ok (.iconst 1, 1) := by decide +kernel
theorem dX11_isGot_89 : decode cX11_isGot 89 = .ok (.iadd, 1) := by decide +kernel
theorem dX11_isGot_90 : decode cX11_isGot 90 = .ok (.iload_n 1, 1) := by decide +kernel
theorem dX11_isGot_91 : decode cX11_isGot 91 = .ok (.invokevirtual 43, 3) := by decide +kernel
theorem dX11_isGot_94 : decode cX11_isGot 94 = .ok (.aload_n 0, 1) := by decide +kernel
theorem dX11_isGot_95 : decode cX11_isGot 95 = .ok (.iload_n 3, 1) := by decide +kernel
theorem dX11_isGot_96 : decode cX11_isGot 96 = .ok (.iconst 2, 1) := by decide +kernel
theorem dX11_isGot_97 : decode cX11_isGot 97 = .ok (.iadd, 1) := by decide +kernel
theorem dX11_isGot_98 : decode cX11_isGot 98 = .ok (.aload_n 0, 1) := by decide +kernel
theorem dX11_isGot_99 : decode cX11_isGot 99 = .ok (.bipush 11, 2) := by decide +kernel
theorem dX11_isGot_101 : decode cX11_isGot 101 = .ok (.invokevirtual 47, 3) := by decide +kernel
theorem dX11_isGot_104 : decode cX11_isGot 104 = .ok (.invokevirtual 43, 3) := by decide +kernel
theorem dX11_isGot_107 : decode cX11_isGot 107 = .ok (.aload_n 0, 1) := by decide +kernel
theorem dX11_isGot_108 : decode cX11_isGot 108 = .ok (.iload_n 3, 1) := by decide +kernel
theorem dX11_isGot_109 : decode cX11_isGot 109 = .ok (.iconst 3, 1) := by decide +kernel
theorem dX11_isGot_110 : decode cX11_isGot 110 = .ok (.iadd, 1) := by decide +kernel
theorem dX11_isGot_111 : decode cX11_isGot 111 = .ok (.aload_n 0, 1) := by decide +kernel
theorem dX11_isGot_112 : decode cX11_isGot 112 = .ok (.bipush 12, 2) := by decide +kernel
theorem dX11_isGot_114 : decode cX11_isGot 114 = .ok (.invokevirtual 47, 3) := by decide +kernel
theorem dX11_isGot_117 : decode cX11_isGot 117 = .ok (.invokevirtual 43, 3) := by decide +kernel
theorem dX11_isGot_120 : decode cX11_isGot 120 = .ok (.aload_n 0, 1) := by decide +kernel
theorem dX11_isGot_121 : decode cX11_isGot 121 = .ok (.iload_n 3, 1) := by decide +kernel
theorem dX11_isGot_122 : decode cX11_isGot 122 = .ok (.iconst 4, 1) := by decide +kernel
theorem dX11_isGot_123 : decode cX11_isGot 123 = .ok (.iadd, 1) := by decide +kernel
theorem dX11_isGot_124 : decode cX11_isGot 124 = .ok (.aload_n 0, 1) := by decide +kernel
theorem dX11_isGot_125 : decode cX11_isGot 125 = .ok (.iconst 3, 1) := by decide +kernel
theorem dX11_isGot_126 : decode cX11_isGot 126 = .ok (.invokevirtual 47, 3) := by decide +kernel
theorem dX11_isGot_129 : decode cX11_isGot 129 = .ok (.invokevirtual 43, 3) := by decide +kernel
theorem dX11_isGot_132 : decode cX11_isGot 132 = .ok (.aload_n 0, 1) := by decide +kernel
theorem dX11_isGot_133 : decode cX11_isGot 133 = .ok (.iload_n 3, 1) := by decide +kernel
theorem dX11_isGot_134 : decode cX11_isGot 134 = .ok (.iconst 5, 1) := by decide +kernel
theorem dX11_isGot_135 : decode cX11_isGot 135 = .ok (.iadd, 1) := by decide +kernel
theorem dX11_isGot_136 : decode cX11_isGot 136 = .ok (.iload_n 2, 1) := by decide +kernel
theorem dX11_isGot_137 : decode cX11_isGot 137 = .ok (.invokevirtual 43, 3) := by decide +kernel
theorem dX11_isGot_140 : decode cX11_isGot 140 = .ok (.aload_n 0, 1) := by decide +kernel
theorem dX11_isGot_141 : decode cX11_isGot 141 = .ok (.bipush 31, 2) := by decide +kernel
theorem dX11_isGot_143 : decode cX11_isGot 143 = .ok (.iconst 1, 1) := by decide +kernel
theorem dX11_isGot_144 : decode cX11_isGot 144 = .ok (.invokevirtual 69, 3) := by decide +kernel
theorem dX11_isGot_147 : decode cX11_isGot 147 = .ok (.aload_n 0, 1) := by decide +kernel
theorem dX11_isGot_148 : decode cX11_isGot 148 = .ok (.bipush 64, 2) := by decide +kernel
theorem dX11_isGot_150 : decode cX11_isGot 150 = .ok (.iload_n 1, 1) := by decide +kernel
theorem dX11_isGot_151 : decode cX11_isGot 151 = .ok (.iadd, 1) := by decide +kernel
theorem dX11_isGot_152 : decode cX11_isGot 152 = .ok (.iconst 1, 1) := by decide +kernel
theorem dX11_isGot_153 : decode cX11_isGot 153 = .ok (.invokevirtual 69, 3) := by decide +kernel
theorem dX11_isGot_156 : decode cX11_isGot 156 = .ok (.aload_n 0, 1) := by decide +kernel
theorem dX11_isGot_157 : decode cX11_isGot 157 = .ok (.bipush 72, 2) := by decide +kernel
theorem dX11_isGot_159 : decode cX11_isGot 159 = .ok (.aload_n 0, 1) := by decide +kernel
theorem dX11_isGot_160 : decode cX11_isGot 160 = .ok (.bipush 11, 2) := by decide +kernel
theorem dX11_isGot_162 : decode cX11_isGot 162 = .ok (.invokevirtual 47, 3) := by decide +kernel
theorem dX11_isGot_165 : decode cX11_isGot 165 = .ok (.iadd, 1) := by decide +kernel
theorem dX11_isGot_166 : decode cX11_isGot 166 = .ok (.iconst 1, 1) := by decide +kernel
theorem dX11_isGot_167 : decode cX11_isGot 167 = .ok (.invokevirtual 69, 3) := by decide +kernel
theorem dX11_isGot_170 : decode cX11_isGot 170 = .ok (.aload_n 0, 1) := by decide +kernel
theorem dX11_isGot_171 : decode cX11_isGot 171 = .ok (.sipush 584, 3) := by decide +kernel
theorem dX11_isGot_174 : decode cX11_isGot 174 = .ok (.aload_n 0, 1) := by decide +kernel
theorem dX11_isGot_175 : decode cX11_isGot 175 = .ok (.bipush 12, 2) := by decide +kernel
theorem dX11_isGot_177 : decode cX11_isGot 177 = .ok (.invokevirtual 47, 3) := by decide +kernel
theorem dX11_isGot_180 : decode cX11_isGot 180 = .ok (.iadd, 1) := by decide +kernel
theorem dX11_isGot_181 : decode cX11_isGot 181 = .ok (.iconst 1, 1) := by decide +kernel
theorem dX11_isGot_182 : decode cX11_isGot 182 = .ok (.invokevirtual 69, 3) := by decide +kernel
theorem dX11_isGot_185 : decode cX11_isGot 185 = .ok (.aload_n 0, 1) := by decide +kernel
theorem dX11_isGot_186 : decode cX11_isGot 186 = .ok (.sipush 592, 3) := by decide +kernel
theorem dX11_isGot_189 : decode cX11_isGot 189 = .ok (.aload_n 0, 1) := by decide +kernel
theorem dX11_isGot_190 : decode cX11_isGot 190 = .ok (.bipush 12, 2) := by decide +kernel
theorem dX11_isGot_192 : decode cX11_isGot 192 = .ok (.invokevirtual 47, 3) := by decide +kernel
theorem dX11_isGot_195 : decode cX11_isGot 195 = .ok (.iadd, 1) := by decide +kernel
theorem dX11_isGot_196 : decode cX11_isGot 196 = .ok (.iload_n 2, 1) := by decide +kernel
theorem dX11_isGot_197 : decode cX11_isGot 197 = .ok (.invokevirtual 69, 3) := by decide +kernel
theorem dX11_isGot_200 : decode cX11_isGot 200 = .ok (.aload_n 0, 1) := by decide +kernel
theorem dX11_isGot_201 : decode cX11_isGot 201 = .ok (.bipush 29, 2) := by decide +kernel
theorem dX11_isGot_203 : decode cX11_isGot 203 = .ok (.iload_n 2, 1) := by decide +kernel
theorem dX11_isGot_204 : decode cX11_isGot 204 = .ok (.invokevirtual 69, 3) := by decide +kernel
theorem dX11_isGot_207 : decode cX11_isGot 207 = .ok (.aload_n 0, 1) := by decide +kernel
theorem dX11_isGot_208 : decode cX11_isGot 208 = .ok (.bipush 30, 2) := by decide +kernel
theorem dX11_isGot_210 : decode cX11_isGot 210 = .ok (.aload_n 0, 1) := by decide +kernel
theorem dX11_isGot_211 : decode cX11_isGot 211 = .ok (.bipush 30, 2) := by decide +kernel
theorem dX11_isGot_213 : decode cX11_isGot 213 = .ok (.invokevirtual 47, 3) := by decide +kernel
theorem dX11_isGot_216 : decode cX11_isGot 216 = .ok (.iload_n 2, 1) := by decide +kernel
theorem dX11_isGot_217 : decode cX11_isGot 217 = .ok (.invokestatic 86, 3) := by decide +kernel
theorem dX11_isGot_220 : decode cX11_isGot 220 = .ok (.invokevirtual 43, 3) := by decide +kernel
theorem dX11_isGot_223 : decode cX11_isGot 223 = .ok (.aload_n 0, 1) := by decide +kernel
theorem dX11_isGot_224 : decode cX11_isGot 224 = .ok (.aload_n 0, 1) := by decide +kernel
theorem dX11_isGot_225 : decode cX11_isGot 225 = .ok (.bipush 14, 2) := by decide +kernel
theorem dX11_isGot_227 : decode cX11_isGot 227 = .ok (.invokevirtual 47, 3) := by decide +kernel
theorem dX11_isGot_230 : decode cX11_isGot 230 = .ok (.putfield 112, 3) := by decide +kernel
theorem dX11_isGot_233 : decode cX11_isGot 233 = .ok (.return_, 1) := by decide +kernel
theorem dX11_isLevel_0 : decode cX11_isLevel 0 = .ok (.aload_n 0, 1) := by decide +kernel
theorem dX11_isLevel_1 : decode cX11_isLevel 1 = .ok (.bipush 7, 2) := by decide +kernel
theorem dX11_isLevel_3 : decode cX11_isLevel 3 = .ok (.iload_n 1, 1) := by decide +kernel
theorem dX11_isLevel_4 : decode cX11_isLevel 4 = .ok (.invokevirtual 43, 3) := by decide +kernel
theorem dX11_isLevel_7 : decode cX11_isLevel 7 = .ok (.aload_n 0, 1) := by decide +kernel
theorem dX11_isLevel_8 : decode cX11_isLevel 8 = .ok (.bipush 27, 2) := by decide +kernel
theorem dX11_isLevel_10 : decode cX11_isLevel 10 = .ok (.aload_n 0, 1) := by decide +kernel
theorem dX11_isLevel_11 : decode cX11_isLevel 11 = .ok (.bipush 27, 2) := by decide +kernel
theorem dX11_isLevel_13 : decode cX11_isLevel 13 = .ok (.invokevirtual 47, 3) := by decide +kernel
theorem dX11_isLevel_16 : decode cX11_isLevel 16 = .ok (.iload_n 1, 1) := by decide +kernel
theorem dX11_isLevel_17 : decode cX11_isLevel 17 = .ok (.invokestatic 86, 3) := by decide +kernel
theorem dX11_isLevel_20 : decode cX11_isLevel 20 = .ok (.invokevirtual 43, 3) := by decide +kernel
theorem dX11_isLevel_23 : decode cX11_isLevel 23 = .ok (.return_, 1) := by decide +kernel
theorem dX11_isLost_0 : decode cX11_isLost 0 = .ok (.aload_n 0, 1) := by decide +kernel
theorem dX11_isLost_1 : decode cX11_isLost 1 = .ok (.bipush 23, 2) := by decide +kernel
theorem dX11_isLost_3 : decode cX11_isLost 3 = .ok (.iconst 1, 1) := by decide +kernel
theorem dX11_isLost_4 : decode cX11_isLost 4 = .ok (.invokevirtual 69, 3) := by decide +kernel
theorem dX11_isLost_7 : decode cX11_isLost 7 = .ok (.aload_n 0, 1) := by decide +kernel
theorem dX11_isLost_8 : decode cX11_isLost 8 = .ok (.iconst 2, 1) := by decide +kernel
theorem dX11_isLost_9 : decode cX11_isLost 9 = .ok (.aload_n 0, 1) := by decide +kernel
theorem dX11_isLost_10 : decode cX11_isLost 10 = .ok (.bipush 6, 2) := by decide +kernel
theorem dX11_isLost_12 : decode cX11_isLost 12 = .ok (.invokevirtual 47, 3) := by decide +kernel
theorem dX11_isLost_15 : decode cX11_isLost 15 = .ok (.invokevirtual 72, 3) := by decide +kernel
theorem dX11_isLost_18 : decode cX11_isLost 18 = .ok (.return_, 1) := by decide +kernel
theorem dX11_isLowered_0 : decode cX11_isLowered 0 = .ok (.iconst 0, 1) := by decide +kernel
theorem dX11_isLowered_1 : decode cX11_isLowered 1 = .ok (.istore_n 1, 1) := by decide +kernel
theorem dX11_isLowered_2 : decode cX11_isLowered 2 = .ok (.iload_n 1, 1) := by decide +kernel
theorem dX11_isLowered_3 : decode cX11_isLowered 3 = .ok (.aload_n 0, 1) := by decide +kernel
theorem dX11_isLowered_4 : decode cX11_isLowered 4 = .ok (.iconst 0, 1) := by decide +kernel
theorem dX11_isLowered_5 : decode cX11_isLowered 5 = .ok (.invokevirtual 47, 3) := by decide +kernel
theorem dX11_isLowered_8 : decode cX11_isLowered 8 = .ok (.if_icmp .ge 22, 3) := by decide +kernel
theorem dX11_isLowered_11 : decode cX11_isLowered 11 = .ok (.aload_n 0, 1) := by decide +kernel
theorem dX11_isLowered_12 : decode cX11_isLowered 12 = .ok (.bipush 88, 2) := by decide +kernel
theorem dX11_isLowered_14 : decode cX11_isLowered 14 = .ok (.iload_n 1, 1) := by decide +kernel
theorem dX11_isLowered_15 : decode cX11_isLowered 15 = .ok (.iadd, 1) := by decide +kernel
theorem dX11_isLowered_16 : decode cX11_isLowered 16 = .ok (.invokevirtual 47, 3) := by decide +kernel
theorem dX11_isLowered_19 : decode cX11_isLowered 19 = .ok (.ifCond .le 5, 3) := by decide +kernel
theorem dX11_isLowered_22 : decode cX11_isLowered 22 = .ok (.iconst 0, 1) := by decide +kernel
theorem dX11_isLowered_23 : decode cX11_isLowered 23 = .ok (.ireturn, 1) := by decide +kernel
theorem dX11_isLowered_24 : decode cX11_isLowered 24 = .ok (.iinc 1 1, 3) := by decide +kernel
theorem dX11_isLowered_27 : decode cX11_isLowered 27 = .ok (.goto (-25), 3) := by decide +kernel
theorem dX11_isLowered_30 : decode cX11_isLowered 30 = .ok (.iconst 1, 1) := by decide +kernel
theorem dX11_isLowered_31 : decode cX11_isLowered 31 = .ok (.ireturn, 1) := by decide +kernel
theorem dX11_isName_0 : decode cX11_isName 0 = .ok (.aload_n 0, 1) := by decide +kernel
theorem dX11_isName_1 : decode cX11_isName 1 = .ok (.getfield 186, 3) := by decide +kernel
theorem dX11_isName_4 : decode cX11_isName 4 = .ok (.iconst 2, 1) := by decide +kernel
theorem dX11_isName_5 : decode cX11_isName 5 = .ok (.if_icmp .ne 29, 3) := by decide +kernel
theorem dX11_isName_8 : decode cX11_isName 8 = .ok (.aload_n 0, 1) := by decide +kernel
theorem dX11_isName_9 : decode cX11_isName 9 = .ok (.getfield 177, 3) := by decide +kernel
theorem dX11_isName_12 : decode cX11_isName 12 = .ok (.aload_n 0, 1) := by decide +kernel
theorem dX11_isName_13 : decode cX11_isName 13 = .ok (.getfield 183, 3) := by decide +kernel
theorem dX11_isName_16 : decode cX11_isName 16 = .ok (.isub, 1) := by decide +kernel
theorem dX11_isName_17 : decode cX11_isName 17 = .ok (.bipush 8, 2) := by decide +kernel
theorem dX11_isName_19 : decode cX11_isName 19 = .ok (.if_icmp .gt 15, 3) := by decide +kernel
theorem dX11_isName_22 : decode cX11_isName 22 = .ok (.aload_n 0, 1) := by decide +kernel
theorem dX11_isName_23 : decode cX11_isName 23 = .ok (.invokevirtual 216, 3) := by decide +kernel
theorem dX11_isName_26 : decode cX11_isName 26 = .ok (.iconst (-1), 1) := by decide +kernel
theorem dX11_isName_27 : decode cX11_isName 27 = .ok (.if_icmp .ne 7, 3) := by decide +kernel
theorem dX11_isName_30 : decode cX11_isName 30 = .ok (.iconst 1, 1) := by decide +kernel
theorem dX11_isName_31 : decode cX11_isName 31 = .ok (.goto 4, 3) := by decide +kernel
theorem dX11_isName_34 : decode cX11_isName 34 = .ok (.iconst 0, 1) := by decide +kernel
theorem dX11_isName_35 : decode cX11_isName 35 = .ok (.ireturn, 1) := by decide +kernel
theorem dX11_isNumber_0 : decode cX11_isNumber 0 = .ok (.aload_n 0, 1) := by decide +kernel
theorem dX11_isNumber_1 : decode cX11_isNumber 1 = .ok (.getfield 186, 3) := by decide +kernel
theorem dX11_isNumber_4 : decode cX11_isNumber 4 = .ok (.iconst 3, 1) := by decide +kernel
theorem dX11_isNumber_5 : decode cX11_isNumber 5 = .ok (.if_icmp .eq 9, 3) := by decide +kernel
theorem dX11_isNumber_8 : decode cX11_isNumber 8 = .ok (.aload_n 0, 1) := by decide +kernel
theorem dX11_isNumber_9 : decode cX11_isNumber 9 = .ok (.iconst 2, 1) := by decide +kernel
theorem dX11_isNumber_10 : decode cX11_isNumber 10 = .ok (.invokevirtual 222, 3) := by decide +kernel
theorem dX11_isNumber_13 : decode cX11_isNumber 13 = .ok (.ireturn, 1) := by decide +kernel
theorem dX11_isNumber_14 : decode cX11_isNumber 14 = .ok (.aload_n 0, 1) := by decide +kernel
theorem dX11_isNumber_15 : decode cX11_isNumber 15 = .ok (.getfield 195, 3) := by decide +kernel
theorem dX11_isNumber_18 : decode cX11_isNumber 18 = .ok (.iload_n 1, 1) := by decide +kernel
theorem dX11_isNumber_19 : decode cX11_isNumber 19 = .ok (.iload_n 2, 1) := by decide +kernel
theorem dX11_isNumber_20 : decode cX11_isNumber 20 = .ok (.invokestatic 228, 3) := by decide +kernel
theorem dX11_isNumber_23 : decode cX11_isNumber 23 = .ok (.ifCond .ne 11, 3) := by decide +kernel
theorem dX11_isNumber_26 : decode cX11_isNumber 26 = .ok (.aload_n 0, 1) := by decide +kernel
theorem dX11_isNumber_27 : decode cX11_isNumber 27 = .ok (.iconst 4, 1) := by decide +kernel
theorem dX11_isNumber_28 : decode cX11_isNumber 28 = .ok (.invokevirtual 222, 3) := by decide +kernel
theorem dX11_isNumber_31 : decode cX11_isNumber 31 = .ok (.ifCond .eq 7, 3) := by decide +kernel
theorem dX11_isNumber_34 : decode cX11_isNumber 34 = .ok (.iconst 1, 1) := by decide +kernel
theorem dX11_isNumber_35 : decode cX11_isNumber 35 = .ok (.goto 4, 3) := by decide +kernel
theorem dX11_isNumber_38 : decode cX11_isNumber 38 = .ok (.iconst 0, 1) := by decide +kernel
theorem dX11_isNumber_39 : decode cX11_isNumber 39 = .ok (.ireturn, 1) := by decide +kernel
theorem dX11_isOn_0 : decode cX11_isOn 0 = .ok (.aload_n 0, 1) := by decide +kernel
theorem dX11_isOn_1 : decode cX11_isOn 1 = .ok (.iload_n 1, 1) := by decide +kernel
theorem dX11_isOn_2 : decode cX11_isOn 2 = .ok (.invokevirtual 51, 3) := by decide +kernel
theorem dX11_isOn_5 : decode cX11_isOn 5 = .ok (.ifCond .eq 19, 3) := by decide +kernel
theorem dX11_isOn_8 : decode cX11_isOn 8 = .ok (.aload_n 0, 1) := by decide +kernel
theorem dX11_isOn_9 : decode cX11_isOn 9 = .ok (.bipush 48, 2) := by decide +kernel
theorem dX11_isOn_11 : decode cX11_isOn 11 = .ok (.iload_n 1, 1) := by decide +kernel
theorem dX11_isOn_12 : decode cX11_isOn 12 = .ok (.iadd, 1) := by decide +kernel
theorem dX11_isOn_13 : decode cX11_isOn 13 = .ok (.invokevirtual 47, 3) := by decide +kernel
theorem dX11_isOn_16 : decode cX11_isOn 16 = .ok (.iconst 1, 1) := by decide +kernel
theorem dX11_isOn_17 : decode cX11_isOn 17 = .ok (.if_icmp .ne 7, 3) := by decide +kernel
theorem dX11_isOn_20 : decode cX11_isOn 20 = .ok (.iconst 1, 1) := by decide +kernel
theorem dX11_isOn_21 : decode cX11_isOn 21 = .ok (.goto 4, 3) := by decide +kernel
theorem dX11_isOn_24 : decode cX11_isOn 24 = .ok (.iconst 0, 1) := by decide +kernel
theorem dX11_isOn_25 : decode cX11_isOn 25 = .ok (.ireturn, 1) := by decide +kernel
theorem dX11_isQuiet_0 : decode cX11_isQuiet 0 = .ok (.iconst 0, 1) := by decide +kernel
theorem dX11_isQuiet_1 : decode cX11_isQuiet 1 = .ok (.istore_n 1, 1) := by decide +kernel
theorem dX11_isQuiet_2 : decode cX11_isQuiet 2 = .ok (.iload_n 1, 1) := by decide +kernel
theorem dX11_isQuiet_3 : decode cX11_isQuiet 3 = .ok (.aload_n 0, 1) := by decide +kernel
theorem dX11_isQuiet_4 : decode cX11_isQuiet 4 = .ok (.iconst 0, 1) := by decide +kernel
theorem dX11_isQuiet_5 : decode cX11_isQuiet 5 = .ok (.invokevirtual 47, 3) := by decide +kernel
theorem dX11_isQuiet_8 : decode cX11_isQuiet 8 = .ok (.if_icmp .ge 30, 3) := by decide +kernel
theorem dX11_isQuiet_11 : decode cX11_isQuiet 11 = .ok (.aload_n 0, 1) := by decide +kernel
theorem dX11_isQuiet_12 : decode cX11_isQuiet 12 = .ok (.iload_n 1, 1) := by decide +kernel
theorem dX11_isQuiet_13 : decode cX11_isQuiet 13 = .ok (.invokevirtual 55, 3) := by decide +kernel
theorem dX11_isQuiet_16 : decode cX11_isQuiet 16 = .ok (.ifCond .eq 16, 3) := by decide +kernel
theorem dX11_isQuiet_19 : decode cX11_isQuiet 19 = .ok (.aload_n 0, 1) := by decide +kernel
theorem dX11_isQuiet_20 : decode cX11_isQuiet 20 = .ok (.bipush 80, 2) := by decide +kernel
theorem dX11_isQuiet_22 : decode cX11_isQuiet 22 = .ok (.iload_n 1, 1) := by decide +kernel
theorem dX11_isQuiet_23 : decode cX11_isQuiet 23 = .ok (.iadd, 1) := by decide +kernel
theorem dX11_isQuiet_24 : decode cX11_isQuiet 24 = .ok (.invokevirtual 47, 3) := by decide +kernel
theorem dX11_isQuiet_27 : decode cX11_isQuiet 27 = .ok (.ifCond .le 5, 3) := by decide +kernel
theorem dX11_isQuiet_30 : decode cX11_isQuiet 30 = .ok (.iconst 0, 1) := by decide +kernel
theorem dX11_isQuiet_31 : decode cX11_isQuiet 31 = .ok (.ireturn, 1) := by decide +kernel
theorem dX11_isQuiet_32 : decode cX11_isQuiet 32 = .ok (.iinc 1 1, 3) := by decide +kernel
theorem dX11_isQuiet_35 : decode cX11_isQuiet 35 = .ok (.goto (-33), 3) := by decide +kernel
theorem dX11_isQuiet_38 : decode cX11_isQuiet 38 = .ok (.aload_n 0, 1) := by decide +kernel
theorem dX11_isQuiet_39 : decode cX11_isQuiet 39 = .ok (.iconst 5, 1) := by decide +kernel
theorem dX11_isQuiet_40 : decode cX11_isQuiet 40 = .ok (.invokevirtual 47, 3) := by decide +kernel
theorem dX11_isQuiet_43 : decode cX11_isQuiet 43 = .ok (.iconst 2, 1) := by decide +kernel
theorem dX11_isQuiet_44 : decode cX11_isQuiet 44 = .ok (.if_icmp .eq 7, 3) := by decide +kernel
theorem dX11_isQuiet_47 : decode cX11_isQuiet 47 = .ok (.iconst 1, 1) := by decide +kernel
theorem dX11_isQuiet_48 : decode cX11_isQuiet 48 = .ok (.goto 4, 3) := by decide +kernel
theorem dX11_isQuiet_51 : decode cX11_isQuiet 51 = .ok (.iconst 0, 1) := by decide +kernel
theorem dX11_isQuiet_52 : decode cX11_isQuiet 52 = .ok (.ireturn, 1) := by decide +kernel
theorem dX11_isReached_0 : decode cX11_isReached 0 = .ok (.iload_n 1, 1) := by decide +kernel
theorem dX11_isReached_1 : decode cX11_isReached 1 = .ok (.ifCond .ne 10, 3) := by decide +kernel
theorem dX11_isReached_4 : decode cX11_isReached 4 = .ok (.aload_n 0, 1) := by decide +kernel
theorem dX11_isReached_5 : decode cX11_isReached 5 = .ok (.invokevirtual 310, 3) := by decide +kernel
theorem dX11_isReached_8 : decode cX11_isReached 8 = .ok (.goto 62, 3) := by decide +kernel
theorem dX11_isReached_11 : decode cX11_isReached 11 = .ok (.iload_n 1, 1) := by decide +kernel
theorem dX11_isReached_12 : decode cX11_isReached 12 = .ok (.iconst 1, 1) := by decide +kernel
theorem dX11_isReached_13 : decode cX11_isReached 13 = .ok (.if_icmp .ne 10, 3) := by decide +kernel
theorem dX11_isReached_16 : decode cX11_isReached 16 = .ok (.aload_n 0, 1) := by decide +kernel
theorem dX11_isReached_17 : decode cX11_isReached 17 = .ok (.invokevirtual 313, 3) := by decide +kernel
theorem dX11_isReached_20 : decode cX11_isReached 20 = .ok (.goto 50, 3) := by decide +kernel
theorem dX11_isReached_23 : decode cX11_isReached 23 = .ok (.iload_n 1, 1) := by decide +kernel
theorem dX11_isReached_24 : decode cX11_isReached 24 = .ok (.iconst 2, 1) := by decide +kernel
theorem dX11_isReached_25 : decode cX11_isReached 25 = .ok (.if_icmp .ne 20, 3) := by decide +kernel
theorem dX11_isReached_28 : decode cX11_isReached 28 = .ok (.aload_n 0, 1) := by decide +kernel
theorem dX11_isReached_29 : decode cX11_isReached 29 = .ok (.iconst 5, 1) := by decide +kernel
theorem dX11_isReached_30 : decode cX11_isReached 30 = .ok (.invokevirtual 47, 3) := by decide +kernel
theorem dX11_isReached_33 : decode cX11_isReached 33 = .ok (.iconst 1, 1) := by decide +kernel
theorem dX11_isReached_34 : decode cX11_isReached 34 = .ok (.if_icmp .ne 7, 3) := by decide +kernel
theorem dX11_isReached_37 : decode cX11_isReached 37 = .ok (.iconst 1, 1) := by decide +kernel
theorem dX11_isReached_38 : decode cX11_isReached 38 = .ok (.goto 32, 3) := by decide +kernel
theorem dX11_isReached_41 : decode cX11_isReached 41 = .ok (.iconst 0, 1) := by decide +kernel
theorem dX11_isReached_42 : decode cX11_isReached 42 = .ok (.goto 28, 3) := by decide +kernel
theorem dX11_isReached_45 : decode cX11_isReached 45 = .ok (.iload_n 1, 1) := by decide +kernel
theorem dX11_isReached_46 : decode cX11_isReached 46 = .ok (.iconst 3, 1) := by decide +kernel
theorem dX11_isReached_47 : decode cX11_isReached 47 = .ok (.if_icmp .ne 10, 3) := by decide +kernel
theorem dX11_isReached_50 : decode cX11_isReached 50 = .ok (.aload_n 0, 1) := by decide +kernel
theorem dX11_isReached_51 : decode cX11_isReached 51 = .ok (.getfield 82, 3) := by decide +kernel
theorem dX11_isReached_54 : decode cX11_isReached 54 = .ok (.goto 16, 3) := by decide +kernel
theorem dX11_isReached_57 : decode cX11_isReached 57 = .ok (.aload_n 0, 1) := by decide +kernel
theorem dX11_isReached_58 : decode cX11_isReached 58 = .ok (.getfield 143, 3) := by decide +kernel
theorem dX11_isReached_61 : decode cX11_isReached 61 = .ok (.iconst (-1), 1) := by decide +kernel
theorem dX11_isReached_62 : decode cX11_isReached 62 = .ok (.if_icmp .eq 7, 3) := by decide +kernel
theorem dX11_isReached_65 : decode cX11_isReached 65 = .ok (.iconst 1, 1) := by decide +kernel
theorem dX11_isReached_66 : decode cX11_isReached 66 = .ok (.goto 4, 3) := by decide +kernel
theorem dX11_isReached_69 : decode cX11_isReached 69 = .ok (.iconst 0, 1) := by decide +kernel
theorem dX11_isReached_70 : decode cX11_isReached 70 = .ok (.ireturn, 1) := by decide +kernel
theorem dX11_isSilent_0 : decode cX11_isSilent 0 = .ok (.aload_n 0, 1) := by decide +kernel
theorem dX11_isSilent_1 : decode cX11_isSilent 1 = .ok (.iconst 5, 1) := by decide +kernel
theorem dX11_isSilent_2 : decode cX11_isSilent 2 = .ok (.iconst 0, 1) := by decide +kernel
theorem dX11_isSilent_3 : decode cX11_isSilent 3 = .ok (.invokevirtual 43, 3) := by decide +kernel
theorem dX11_isSilent_6 : decode cX11_isSilent 6 = .ok (.aload_n 0, 1) := by decide +kernel
theorem dX11_isSilent_7 : decode cX11_isSilent 7 = .ok (.iconst 4, 1) := by decide +kernel
theorem dX11_isSilent_8 : decode cX11_isSilent 8 = .ok (.iconst 0, 1) := by decide +kernel
theorem dX11_isSilent_9 : decode cX11_isSilent 9 = .ok (.invokevirtual 43, 3) := by decide +kernel
theorem dX11_isSilent_12 : decode cX11_isSilent 12 = .ok (.aload_n 0, 1) := by decide +kernel
theorem dX11_isSilent_13 : decode cX11_isSilent 13 = .ok (.bipush 18, 2) := by decide +kernel
theorem dX11_isSilent_15 : decode cX11_isSilent 15 = .ok (.iconst 0, 1) := by decide +kernel
theorem dX11_isSilent_16 : decode cX11_isSilent 16 = .ok (.invokevirtual 43, 3) := by decide +kernel
theorem dX11_isSilent_19 : decode cX11_isSilent 19 = .ok (.return_, 1) := by decide +kernel
theorem dX11_isSmall_0 : decode cX11_isSmall 0 = .ok (.iload_n 0, 1) := by decide +kernel
theorem dX11_isSmall_1 : decode cX11_isSmall 1 = .ok (.bipush 97, 2) := by decide +kernel
theorem dX11_isSmall_3 : decode cX11_isSmall 3 = .ok (.if_icmp .lt 13, 3) := by decide +kernel
theorem dX11_isSmall_6 : decode cX11_isSmall 6 = .ok (.iload_n 0, 1) := by decide +kernel
theorem dX11_isSmall_7 : decode cX11_isSmall 7 = .ok (.bipush 122, 2) := by decide +kernel
theorem dX11_isSmall_9 : decode cX11_isSmall 9 = .ok (.if_icmp .gt 7, 3) := by decide +kernel
theorem dX11_isSmall_12 : decode cX11_isSmall 12 = .ok (.iconst 1, 1) := by decide +kernel
theorem dX11_isSmall_13 : decode cX11_isSmall 13 = .ok (.goto 4, 3) := by decide +kernel
theorem dX11_isSmall_16 : decode cX11_isSmall 16 = .ok (.iconst 0, 1) := by decide +kernel
theorem dX11_isSmall_17 : decode cX11_isSmall 17 = .ok (.ireturn, 1) := by decide +kernel
theorem dX11_isSo_0 : decode cX11_isSo 0 = .ok (.aload_n 0, 1) := by decide +kernel
theorem dX11_isSo_1 : decode cX11_isSo 1 = .ok (.iload_n 1, 1) := by decide +kernel
theorem dX11_isSo_2 : decode cX11_isSo 2 = .ok (.putfield 40, 3) := by decide +kernel
theorem dX11_isSo_5 : decode cX11_isSo 5 = .ok (.iload_n 1, 1) := by decide +kernel
theorem dX11_isSo_6 : decode cX11_isSo 6 = .ok (.ifCond .ne 7, 3) := by decide +kernel
theorem dX11_isSo_9 : decode cX11_isSo 9 = .ok (.iconst 1, 1) := by decide +kernel
theorem dX11_isSo_10 : decode cX11_isSo 10 = .ok (.goto 4, 3) := by decide +kernel
theorem dX11_isSo_13 : decode cX11_isSo 13 = .ok (.iconst 0, 1) := by decide +kernel
theorem dX11_isSo_14 : decode cX11_isSo 14 = .ok (.ireturn, 1) := by decide +kernel
theorem dX11_isStation_0 : decode cX11_isStation 0 = .ok (.iload_n 1, 1) := by decide +kernel
theorem dX11_isStation_1 : decode cX11_isStation 1 = .ok (.ifCond .lt 16, 3) := by decide +kernel
theorem dX11_isStation_4 : decode cX11_isStation 4 = .ok (.iload_n 1, 1) := by decide +kernel
theorem dX11_isStation_5 : decode cX11_isStation 5 = .ok (.aload_n 0, 1) := by decide +kernel
theorem dX11_isStation_6 : decode cX11_isStation 6 = .ok (.iconst 0, 1) := by decide +kernel
theorem dX11_isStation_7 : decode cX11_isStation 7 = .ok (.invokevirtual 47, 3) := by decide +kernel
theorem dX11_isStation_10 : decode cX11_isStation 10 = .ok (.if_icmp .ge 7, 3) := by decide +kernel
theorem dX11_isStation_13 : decode cX11_isStation 13 = .ok (.iconst 1, 1) := by decide +kernel
theorem dX11_isStation_14 : decode cX11_isStation 14 = .ok (.goto 4, 3) := by decide +kernel
theorem dX11_isStation_17 : decode cX11_isStation 17 = .ok (.iconst 0, 1) := by decide +kernel
theorem dX11_isStation_18 : decode cX11_isStation 18 = .ok (.ireturn, 1) := by decide +kernel
theorem dX11_isStill_0 : decode cX11_isStill 0 = .ok (.aload_n 0, 1) := by decide +kernel
theorem dX11_isStill_1 : decode cX11_isStill 1 = .ok (.invokevirtual 150, 3) := by decide +kernel
theorem dX11_isStill_4 : decode cX11_isStill 4 = .ok (.istore_n 1, 1) := by decide +kernel
theorem dX11_isStill_5 : decode cX11_isStill 5 = .ok (.aload_n 0, 1) := by decide +kernel
theorem dX11_isStill_6 : decode cX11_isStill 6 = .ok (.iconst 4, 1) := by decide +kernel
theorem dX11_isStill_7 : decode cX11_isStill 7 = .ok (.iconst 1, 1) := by decide +kernel
theorem dX11_isStill_8 : decode cX11_isStill 8 = .ok (.invokevirtual 69, 3) := by decide +kernel
theorem dX11_isStill_11 : decode cX11_isStill 11 = .ok (.aload_n 0, 1) := by decide +kernel
theorem dX11_isStill_12 : decode cX11_isStill 12 = .ok (.iconst 4, 1) := by decide +kernel
theorem dX11_isStill_13 : decode cX11_isStill 13 = .ok (.invokevirtual 47, 3) := by decide +kernel
theorem dX11_isStill_16 : decode cX11_isStill 16 = .ok (.istore_n 2, 1) := by decide +kernel
theorem dX11_isStill_17 : decode cX11_isStill 17 = .ok (.iload_n 1, 1) := by decide +kernel
theorem dX11_isStill_18 : decode cX11_isStill 18 = .ok (.ifCond .ne 4, 3) := by decide +kernel
theorem dX11_isStill_21 : decode cX11_isStill 21 = .ok (.return_, 1) := by decide +kernel
theorem dX11_isStill_22 : decode cX11_isStill 22 = .ok (.iload_n 2, 1) := by decide +kernel
theorem dX11_isStill_23 : decode cX11_isStill 23 = .ok (.iload_n 1, 1) := by decide +kernel
theorem dX11_isStill_24 : decode cX11_isStill 24 = .ok (.iconst 1, 1) := by decide +kernel
theorem dX11_isStill_25 : decode cX11_isStill 25 = .ok (.iadd, 1) := by decide +kernel
theorem dX11_isStill_26 : decode cX11_isStill 26 = .ok (.if_icmp .ne 43, 3) := by decide +kernel
theorem dX11_isStill_29 : decode cX11_isStill 29 = .ok (.aload_n 0, 1) := by decide +kernel
theorem dX11_isStill_30 : decode cX11_isStill 30 = .ok (.invokevirtual 58, 3) := by decide +kernel
theorem dX11_isStill_33 : decode cX11_isStill 33 = .ok (.ifCond .eq 10, 3) := by decide +kernel
theorem dX11_isStill_36 : decode cX11_isStill 36 = .ok (.aload_n 0, 1) := by decide +kernel
theorem dX11_isStill_37 : decode cX11_isStill 37 = .ok (.invokevirtual 153, 3) := by decide +kernel
theorem dX11_isStill_40 : decode cX11_isStill 40 = .ok (.goto 136, 3) := by decide +kernel
theorem dX11_isStill_43 : decode cX11_isStill 43 = .ok (.aload_n 0, 1) := by decide +kernel
theorem dX11_isStill_44 : decode cX11_isStill 44 = .ok (.aload_n 0, 1) := by decide +kernel
theorem dX11_isStill_45 : decode cX11_isStill 45 = .ok (.iconst 1, 1) := by decide +kernel
theorem dX11_isStill_46 : decode cX11_isStill 46 = .ok (.invokevirtual 47, 3) := by decide +kernel
theorem dX11_isStill_49 : decode cX11_isStill 49 = .ok (.invokevirtual 55, 3) := by decide +kernel
theorem dX11_isStill_52 : decode cX11_isStill 52 = .ok (.ifCond .eq 10, 3) := by decide +kernel
theorem dX11_isStill_55 : decode cX11_isStill 55 = .ok (.aload_n 0, 1) := by decide +kernel
theorem dX11_isStill_56 : decode cX11_isStill 56 = .ok (.invokevirtual 131, 3) := by decide +kernel
theorem dX11_isStill_59 : decode cX11_isStill 59 = .ok (.goto 117, 3) := by decide +kernel
theorem dX11_isStill_62 : decode cX11_isStill 62 = .ok (.aload_n 0, 1) := by decide +kernel
theorem dX11_isStill_63 : decode cX11_isStill 63 = .ok (.invokevirtual 156, 3) := by decide +kernel
theorem dX11_isStill_66 : decode cX11_isStill 66 = .ok (.goto 110, 3) := by decide +kernel
theorem dX11_isStill_69 : decode cX11_isStill 69 = .ok (.iload_n 2, 1) := by decide +kernel
theorem dX11_isStill_70 : decode cX11_isStill 70 = .ok (.iconst 2, 1) := by decide +kernel
theorem dX11_isStill_71 : decode cX11_isStill 71 = .ok (.iload_n 1, 1) := by decide +kernel
theorem dX11_isStill_72 : decode cX11_isStill 72 = .ok (.imul, 1) := by decide +kernel
theorem dX11_isStill_73 : decode cX11_isStill 73 = .ok (.iconst 1, 1) := by decide +kernel
theorem dX11_isStill_74 : decode cX11_isStill 74 = .ok (.iadd, 1) := by decide +kernel
theorem dX11_isStill_75 : decode cX11_isStill 75 = .ok (.if_icmp .ne 40, 3) := by decide +kernel
theorem dX11_isStill_78 : decode cX11_isStill 78 = .ok (.aload_n 0, 1) := by decide +kernel
theorem dX11_isStill_79 : decode cX11_isStill 79 = .ok (.bipush 18, 2) := by decide +kernel
theorem dX11_isStill_81 : decode cX11_isStill 81 = .ok (.invokevirtual 47, 3) := by decide +kernel
theorem dX11_isStill_84 : decode cX11_isStill 84 = .ok (.iconst 1, 1) := by decide +kernel
theorem dX11_isStill_85 : decode cX11_isStill 85 = .ok (.if_icmp .ne 30, 3) := by decide +kernel
theorem dX11_isStill_88 : decode cX11_isStill 88 = .ok (.aload_n 0, 1) := by decide +kernel
theorem dX11_isStill_89 : decode cX11_isStill 89 = .ok (.iconst 1, 1) := by decide +kernel
theorem dX11_isStill_90 : decode cX11_isStill 90 = .ok (.aload_n 0, 1) := by decide +kernel
theorem dX11_isStill_91 : decode cX11_isStill 91 = .ok (.invokevirtual 146, 3) := by decide +kernel
theorem dX11_isStill_94 : decode cX11_isStill 94 = .ok (.invokevirtual 43, 3) := by decide +kernel
theorem dX11_isStill_97 : decode cX11_isStill 97 = .ok (.aload_n 0, 1) := by decide +kernel
theorem dX11_isStill_98 : decode cX11_isStill 98 = .ok (.bipush 7, 2) := by decide +kernel
theorem dX11_isStill_100 : decode cX11_isStill 100 = .ok (.aload_n 0, 1) := by decide +kernel
theorem dX11_isStill_101 : decode cX11_isStill 101 = .ok (.iconst 1, 1) := by decide +kernel
theorem dX11_isStill_102 : decode cX11_isStill 102 = .ok (.invokevirtual 47, 3) := by decide +kernel
theorem dX11_isStill_105 : decode cX11_isStill 105 = .ok (.invokevirtual 72, 3) := by decide +kernel
theorem dX11_isStill_108 : decode cX11_isStill 108 = .ok (.aload_n 0, 1) := by decide +kernel
theorem dX11_isStill_109 : decode cX11_isStill 109 = .ok (.invokevirtual 131, 3) := by decide +kernel
theorem dX11_isStill_112 : decode cX11_isStill 112 = .ok (.goto 64, 3) := by decide +kernel
theorem dX11_isStill_115 : decode cX11_isStill 115 = .ok (.aload_n 0, 1) := by decide +kernel
theorem dX11_isStill_116 : decode cX11_isStill 116 = .ok (.bipush 18, 2) := by decide +kernel
theorem dX11_isStill_118 : decode cX11_isStill 118 = .ok (.invokevirtual 47, 3) := by decide +kernel
theorem dX11_isStill_121 : decode cX11_isStill 121 = .ok (.iconst 2, 1) := by decide +kernel
theorem dX11_isStill_122 : decode cX11_isStill 122 = .ok (.if_icmp .ne 25, 3) := by decide +kernel
theorem dX11_isStill_125 : decode cX11_isStill 125 = .ok (.iload_n 2, 1) := by decide +kernel
theorem dX11_isStill_126 : decode cX11_isStill 126 = .ok (.iconst 2, 1) := by decide +kernel
theorem dX11_isStill_127 : decode cX11_isStill 127 = .ok (.iload_n 1, 1) := by decide +kernel
theorem dX11_isStill_128 : decode cX11_isStill 128 = .ok (.imul, 1) := by decide +kernel
theorem dX11_isStill_129 : decode cX11_isStill 129 = .ok (.iconst 1, 1) := by decide +kernel
theorem dX11_isStill_130 : decode cX11_isStill 130 = .ok (.iadd, 1) := by decide +kernel
theorem dX11_isStill_131 : decode cX11_isStill 131 = .ok (.if_icmp .ne 16, 3) := by decide +kernel
theorem dX11_isStill_134 : decode cX11_isStill 134 = .ok (.aload_n 0, 1) := by decide +kernel
theorem dX11_isStill_135 : decode cX11_isStill 135 = .ok (.aload_n 0, 1) := by decide +kernel
theorem dX11_isStill_136 : decode cX11_isStill 136 = .ok (.bipush 19, 2) := by decide +kernel
theorem dX11_isStill_138 : decode cX11_isStill 138 = .ok (.invokevirtual 47, 3) := by decide +kernel
theorem dX11_isStill_141 : decode cX11_isStill 141 = .ok (.invokevirtual 159, 3) := by decide +kernel
theorem dX11_isStill_144 : decode cX11_isStill 144 = .ok (.goto 32, 3) := by decide +kernel
theorem dX11_isStill_147 : decode cX11_isStill 147 = .ok (.aload_n 0, 1) := by decide +kernel
theorem dX11_isStill_148 : decode cX11_isStill 148 = .ok (.bipush 18, 2) := by decide +kernel
theorem dX11_isStill_150 : decode cX11_isStill 150 = .ok (.invokevirtual 47, 3) := by decide +kernel
theorem dX11_isStill_153 : decode cX11_isStill 153 = .ok (.iconst 2, 1) := by decide +kernel
theorem dX11_isStill_154 : decode cX11_isStill 154 = .ok (.if_icmp .ne 22, 3) := by decide +kernel
theorem dX11_isStill_157 : decode cX11_isStill 157 = .ok (.iload_n 2, 1) := by decide +kernel
theorem dX11_isStill_158 : decode cX11_isStill 158 = .ok (.iconst 2, 1) := by decide +kernel
theorem dX11_isStill_159 : decode cX11_isStill 159 = .ok (.iload_n 1, 1) := by decide +kernel
theorem dX11_isStill_160 : decode cX11_isStill 160 = .ok (.imul, 1) := by decide +kernel
theorem dX11_isStill_161 : decode cX11_isStill 161 = .ok (.iconst 2, 1) := by decide +kernel
theorem dX11_isStill_162 : decode cX11_isStill 162 = .ok (.iadd, 1) := by decide +kernel
theorem dX11_isStill_163 : decode cX11_isStill 163 = .ok (.if_icmp .ne 13, 3) := by decide +kernel
theorem dX11_isStill_166 : decode cX11_isStill 166 = .ok (.aload_n 0, 1) := by decide +kernel
theorem dX11_isStill_167 : decode cX11_isStill 167 = .ok (.aload_n 0, 1) := by decide +kernel
theorem dX11_isStill_168 : decode cX11_isStill 168 = .ok (.bipush 20, 2) := by decide +kernel
theorem dX11_isStill_170 : decode cX11_isStill 170 = .ok (.invokevirtual 47, 3) := by decide +kernel
theorem dX11_isStill_173 : decode cX11_isStill 173 = .ok (.invokevirtual 159, 3) := by decide +kernel
theorem dX11_isStill_176 : decode cX11_isStill 176 = .ok (.return_, 1) := by decide +kernel
theorem dX11_isTaken_0 : decode cX11_isTaken 0 = .ok (.iconst 0, 1) := by decide +kernel
theorem dX11_isTaken_1 : decode cX11_isTaken 1 = .ok (.istore_n 2, 1) := by decide +kernel
theorem dX11_isTaken_2 : decode cX11_isTaken 2 = .ok (.iload_n 2, 1) := by decide +kernel
theorem dX11_isTaken_3 : decode cX11_isTaken 3 = .ok (.aload_n 0, 1) := by decide +kernel
theorem dX11_isTaken_4 : decode cX11_isTaken 4 = .ok (.iconst 0, 1) := by decide +kernel
theorem dX11_isTaken_5 : decode cX11_isTaken 5 = .ok (.invokevirtual 47, 3) := by decide +kernel
theorem dX11_isTaken_8 : decode cX11_isTaken 8 = .ok (.if_icmp .ge 23, 3) := by decide +kernel
theorem dX11_isTaken_11 : decode cX11_isTaken 11 = .ok (.aload_n 0, 1) := by decide +kernel
theorem dX11_isTaken_12 : decode cX11_isTaken 12 = .ok (.bipush 40, 2) := by decide +kernel
theorem dX11_isTaken_14 : decode cX11_isTaken 14 = .ok (.iload_n 2, 1) := by decide +kernel
theorem dX11_isTaken_15 : decode cX11_isTaken 15 = .ok (.iadd, 1) := by decide +kernel
theorem dX11_isTaken_16 : decode cX11_isTaken 16 = .ok (.invokevirtual 47, 3) := by decide +kernel
theorem dX11_isTaken_19 : decode cX11_isTaken 19 = .ok (.iload_n 1, 1) := by decide +kernel
theorem dX11_isTaken_20 : decode cX11_isTaken 20 = .ok (.if_icmp .ne 5, 3) := by decide +kernel
theorem dX11_isTaken_23 : decode cX11_isTaken 23 = .ok (.iconst 1, 1) := by decide +kernel
theorem dX11_isTaken_24 : decode cX11_isTaken 24 = .ok (.ireturn, 1) := by decide +kernel
theorem dX11_isTaken_25 : decode cX11_isTaken 25 = .ok (.iinc 2 1, 3) := by decide +kernel
theorem dX11_isTaken_28 : decode cX11_isTaken 28 = .ok (.goto (-26), 3) := by decide +kernel
theorem dX11_isTaken_31 : decode cX11_isTaken 31 = .ok (.iconst 0, 1) := by decide +kernel
theorem dX11_isTaken_32 : decode cX11_isTaken 32 = .ok (.ireturn, 1) := by decide +kernel
theorem dX11_key_0 : decode cX11_key 0 = .ok (.aload_n 0, 1) := by decide +kernel
theorem dX11_key_1 : decode cX11_key 1 = .ok (.getfield 186, 3) := by decide +kernel
theorem dX11_key_4 : decode cX11_key 4 = .ok (.iconst 2, 1) := by decide +kernel
theorem dX11_key_5 : decode cX11_key 5 = .ok (.if_icmp .eq 5, 3) := by decide +kernel
theorem dX11_key_8 : decode cX11_key 8 = .ok (.iconst (-1), 1) := by decide +kernel
theorem dX11_key_9 : decode cX11_key 9 = .ok (.ireturn, 1) := by decide +kernel
theorem dX11_key_10 : decode cX11_key 10 = .ok (.iconst 0, 1) := by decide +kernel
theorem dX11_key_11 : decode cX11_key 11 = .ok (.istore_n 1, 1) := by decide +kernel
theorem dX11_key_12 : decode cX11_key 12 = .ok (.iconst 1, 1) := by decide +kernel
theorem dX11_key_13 : decode cX11_key 13 = .ok (.istore_n 2, 1) := by decide +kernel
theorem dX11_key_14 : decode cX11_key 14 = .ok (.iload_n 2, 1) := by decide +kernel
theorem dX11_key_15 : decode cX11_key 15 = .ok (.ldc 202, 2) := by decide +kernel
theorem dX11_key_17 : decode cX11_key 17 = .ok (.invokevirtual 204, 3) := by decide +kernel
theorem dX11_key_20 : decode cX11_key 20 = .ok (.if_icmp .ge 113, 3) := by decide +kernel
theorem dX11_key_23 : decode cX11_key 23 = .ok (.iload_n 2, 1) := by decide +kernel
theorem dX11_key_24 : decode cX11_key 24 = .ok (.istore_n 3, 1) := by decide +kernel
theorem dX11_key_25 : decode cX11_key 25 = .ok (.ldc 202, 2) := by decide +kernel
theorem dX11_key_27 : decode cX11_key 27 = .ok (.iload_n 3, 1) := by decide +kernel
theorem dX11_key_28 : decode cX11_key 28 = .ok (.invokevirtual 209, 3) := by decide +kernel
theorem dX11_key_31 : decode cX11_key 31 = .ok (.bipush 32, 2) := by decide +kernel
theorem dX11_key_33 : decode cX11_key 33 = .ok (.if_icmp .eq 9, 3) := by decide +kernel
theorem dX11_key_36 : decode cX11_key 36 = .ok (.iinc 3 1, 3) := by decide +kernel
theorem dX11_key_39 : decode cX11_key 39 = .ok (.goto (-14), 3) := by decide +kernel
theorem dX11_key_42 : decode cX11_key 42 = .ok (.iload_n 3, 1) := by decide +kernel
theorem dX11_key_43 : decode cX11_key 43 = .ok (.iload_n 2, 1) := by decide +kernel
theorem dX11_key_44 : decode cX11_key 44 = .ok (.isub, 1) := by decide +kernel
theorem dX11_key_45 : decode cX11_key 45 = .ok (.aload_n 0, 1) := by decide +kernel
theorem dX11_key_46 : decode cX11_key 46 = .ok (.getfield 177, 3) := by decide +kernel
theorem dX11_key_49 : decode cX11_key 49 = .ok (.aload_n 0, 1) := by decide +kernel
theorem dX11_key_50 : decode cX11_key 50 = .ok (.getfield 183, 3) := by decide +kernel
theorem dX11_key_53 : decode cX11_key 53 = .ok (.isub, 1) := by decide +kernel
theorem dX11_key_54 : decode cX11_key 54 = .ok (.if_icmp .ne 7, 3) := by decide +kernel
theorem dX11_key_57 : decode cX11_key 57 = .ok (.iconst 1, 1) := by decide +kernel
theorem dX11_key_58 : decode cX11_key 58 = .ok (.goto 4, 3) := by decide +kernel
theorem dX11_key_61 : decode cX11_key 61 = .ok (.iconst 0, 1) := by decide +kernel
theorem dX11_key_62 : decode cX11_key 62 = .ok (.istore 4, 2) := by decide +kernel
theorem dX11_key_64 : decode cX11_key 64 = .ok (.iconst 0, 1) := by decide +kernel
theorem dX11_key_65 : decode cX11_key 65 = .ok (.istore 5, 2) := by decide +kernel
theorem dX11_key_67 : decode cX11_key 67 = .ok (.iload 5, 2) := by decide +kernel
theorem dX11_key_69 : decode cX11_key 69 = .ok (.iload_n 3, 1) := by decide +kernel
theorem dX11_key_70 : decode cX11_key 70 = .ok (.iload_n 2, 1) := by decide +kernel
theorem dX11_key_71 : decode cX11_key 71 = .ok (.isub, 1) := by decide +kernel
theorem dX11_key_72 : decode cX11_key 72 = .ok (.if_icmp .ge 44, 3) := by decide +kernel
theorem dX11_key_75 : decode cX11_key 75 = .ok (.iload 4, 2) := by decide +kernel
theorem dX11_key_77 : decode cX11_key 77 = .ok (.ifCond .eq 39, 3) := by decide +kernel
theorem dX11_key_80 : decode cX11_key 80 = .ok (.ldc 202, 2) := by decide +kernel
theorem dX11_key_82 : decode cX11_key 82 = .ok (.iload_n 2, 1) := by decide +kernel
theorem dX11_key_83 : decode cX11_key 83 = .ok (.iload 5, 2) := by decide +kernel
theorem dX11_key_85 : decode cX11_key 85 = .ok (.iadd, 1) := by decide +kernel
theorem dX11_key_86 : decode cX11_key 86 = .ok (.invokevirtual 209, 3) := by decide +kernel
theorem dX11_key_89 : decode cX11_key 89 = .ok (.aload_n 0, 1) := by decide +kernel
theorem dX11_key_90 : decode cX11_key 90 = .ok (.aload_n 0, 1) := by decide +kernel
theorem dX11_key_91 : decode cX11_key 91 = .ok (.getfield 183, 3) := by decide +kernel
theorem dX11_key_94 : decode cX11_key 94 = .ok (.iload 5, 2) := by decide +kernel
theorem dX11_key_96 : decode cX11_key 96 = .ok (.iadd, 1) := by decide +kernel
theorem dX11_key_97 : decode cX11_key 97 = .ok (.invokevirtual 180, 3) := by decide +kernel
theorem dX11_key_100 : decode cX11_key 100 = .ok (.if_icmp .ne 7, 3) := by decide +kernel
theorem dX11_key_103 : decode cX11_key 103 = .ok (.iconst 1, 1) := by decide +kernel
theorem dX11_key_104 : decode cX11_key 104 = .ok (.goto 4, 3) := by decide +kernel
theorem dX11_key_107 : decode cX11_key 107 = .ok (.iconst 0, 1) := by decide +kernel
theorem dX11_key_108 : decode cX11_key 108 = .ok (.istore 4, 2) := by decide +kernel
theorem dX11_key_110 : decode cX11_key 110 = .ok (.iinc 5 1, 3) := by decide +kernel
theorem dX11_key_113 : decode cX11_key 113 = .ok (.goto (-46), 3) := by decide +kernel
theorem dX11_key_116 : decode cX11_key 116 = .ok (.iload 4, 2) := by decide +kernel
theorem dX11_key_118 : decode cX11_key 118 = .ok (.ifCond .eq 5, 3) := by decide +kernel
theorem dX11_key_121 : decode cX11_key 121 = .ok (.iload_n 1, 1) := by decide +kernel
theorem dX11_key_122 : decode cX11_key 122 = .ok (.ireturn, 1) := by decide +kernel
theorem dX11_key_123 : decode cX11_key 123 = .ok (.iinc 1 1, 3) := by decide +kernel
theorem dX11_key_126 : decode cX11_key 126 = .ok (.iload_n 3, 1) := by decide +kernel
theorem dX11_key_127 : decode cX11_key 127 = .ok (.iconst 1, 1) := by decide +kernel
theorem dX11_key_128 : decode cX11_key 128 = .ok (.iadd, 1) := by decide +kernel
theorem dX11_key_129 : decode cX11_key 129 = .ok (.istore_n 2, 1) := by decide +kernel
theorem dX11_key_130 : decode cX11_key 130 = .ok (.goto (-116), 3) := by decide +kernel
theorem dX11_key_133 : decode cX11_key 133 = .ok (.iconst (-1), 1) := by decide +kernel
theorem dX11_key_134 : decode cX11_key 134 = .ok (.ireturn, 1) := by decide +kernel
theorem dX11_lives_0 : decode cX11_lives 0 = .ok (.iconst 0, 1) := by decide +kernel
theorem dX11_lives_1 : decode cX11_lives 1 = .ok (.istore 4, 2) := by decide +kernel
theorem dX11_lives_3 : decode cX11_lives 3 = .ok (.iload 4, 2) := by decide +kernel
theorem dX11_lives_5 : decode cX11_lives 5 = .ok (.iload_n 1, 1) := by decide +kernel
theorem dX11_lives_6 : decode cX11_lives 6 = .ok (.if_icmp .ge 19, 3) := by decide +kernel
theorem dX11_lives_9 : decode cX11_lives 9 = .ok (.aload_n 0, 1) := by decide +kernel
theorem dX11_lives_10 : decode cX11_lives 10 = .ok (.getfield 34, 3) := by decide +kernel
theorem dX11_lives_13 : decode cX11_lives 13 = .ok (.iload_n 3, 1) := by decide +kernel
theorem dX11_lives_14 : decode cX11_lives 14 = .ok (.iload 4, 2) := by decide +kernel
theorem dX11_lives_16 : decode cX11_lives 16 = .ok (.iadd, 1) := by decide +kernel
theorem dX11_lives_17 : decode cX11_lives 17 = .ok (.iconst 0, 1) := by decide +kernel
theorem dX11_lives_18 : decode cX11_lives 18 = .ok (.iastore, 1) := by decide +kernel
theorem dX11_lives_19 : decode cX11_lives 19 = .ok (.iinc 4 1, 3) := by decide +kernel
theorem dX11_lives_22 : decode cX11_lives 22 = .ok (.goto (-19), 3) := by decide +kernel
theorem dX11_lives_25 : decode cX11_lives 25 = .ok (.aload_n 0, 1) := by decide +kernel
theorem dX11_lives_26 : decode cX11_lives 26 = .ok (.iload_n 2, 1) := by decide +kernel
theorem dX11_lives_27 : decode cX11_lives 27 = .ok (.invokevirtual 322, 3) := by decide +kernel
theorem dX11_lives_30 : decode cX11_lives 30 = .ok (.iconst 1, 1) := by decide +kernel
theorem dX11_lives_31 : decode cX11_lives 31 = .ok (.istore 4, 2) := by decide +kernel
theorem dX11_lives_33 : decode cX11_lives 33 = .ok (.iload 4, 2) := by decide +kernel
theorem dX11_lives_35 : decode cX11_lives 35 = .ok (.sipush 3000, 3) := by decide +kernel
theorem dX11_lives_38 : decode cX11_lives 38 = .ok (.if_icmp .gt 61, 3) := by decide +kernel
theorem dX11_lives_41 : decode cX11_lives 41 = .ok (.aload_n 0, 1) := by decide +kernel
theorem dX11_lives_42 : decode cX11_lives 42 = .ok (.invokevirtual 297, 3) := by decide +kernel
theorem dX11_lives_45 : decode cX11_lives 45 = .ok (.iconst 0, 1) := by decide +kernel
theorem dX11_lives_46 : decode cX11_lives 46 = .ok (.istore 5, 2) := by decide +kernel
theorem dX11_lives_48 : decode cX11_lives 48 = .ok (.iload 5, 2) := by decide +kernel
theorem dX11_lives_50 : decode cX11_lives 50 = .ok (.iload_n 1, 1) := by decide +kernel
theorem dX11_lives_51 : decode cX11_lives 51 = .ok (.if_icmp .ge 42, 3) := by decide +kernel
theorem dX11_lives_54 : decode cX11_lives 54 = .ok (.aload_n 0, 1) := by decide +kernel
theorem dX11_lives_55 : decode cX11_lives 55 = .ok (.getfield 112, 3) := by decide +kernel
theorem dX11_lives_58 : decode cX11_lives 58 = .ok (.iconst (-1), 1) := by decide +kernel
theorem dX11_lives_59 : decode cX11_lives 59 = .ok (.if_icmp .eq 34, 3) := by decide +kernel
theorem dX11_lives_62 : decode cX11_lives 62 = .ok (.aload_n 0, 1) := by decide +kernel
theorem dX11_lives_63 : decode cX11_lives 63 = .ok (.getfield 31, 3) := by decide +kernel
theorem dX11_lives_66 : decode cX11_lives 66 = .ok (.iload 5, 2) := by decide +kernel
theorem dX11_lives_68 : decode cX11_lives 68 = .ok (.iaload, 1) := by decide +kernel
theorem dX11_lives_69 : decode cX11_lives 69 = .ok (.aload_n 0, 1) := by decide +kernel
theorem dX11_lives_70 : decode cX11_lives 70 = .ok (.getfield 112, 3) := by decide +kernel
theorem dX11_lives_73 : decode cX11_lives 73 = .ok (.if_icmp .ne 14, 3) := by decide +kernel
theorem dX11_lives_76 : decode cX11_lives 76 = .ok (.aload_n 0, 1) := by decide +kernel
theorem dX11_lives_77 : decode cX11_lives 77 = .ok (.getfield 34, 3) := by decide +kernel
theorem dX11_lives_80 : decode cX11_lives 80 = .ok (.iload_n 3, 1) := by decide +kernel
theorem dX11_lives_81 : decode cX11_lives 81 = .ok (.iload 5, 2) := by decide +kernel
theorem dX11_lives_83 : decode cX11_lives 83 = .ok (.iadd, 1) := by decide +kernel
theorem dX11_lives_84 : decode cX11_lives 84 = .ok (.iload 4, 2) := by decide +kernel
theorem dX11_lives_86 : decode cX11_lives 86 = .ok (.iastore, 1) := by decide +kernel
theorem dX11_lives_87 : decode cX11_lives 87 = .ok (.iinc 5 1, 3) := by decide +kernel
theorem dX11_lives_90 : decode cX11_lives 90 = .ok (.goto (-42), 3) := by decide +kernel
theorem dX11_lives_93 : decode cX11_lives 93 = .ok (.iinc 4 1, 3) := by decide +kernel
theorem dX11_lives_96 : decode cX11_lives 96 = .ok (.goto (-63), 3) := by decide +kernel
theorem dX11_lives_99 : decode cX11_lives 99 = .ok (.aload_n 0, 1) := by decide +kernel
theorem dX11_lives_100 : decode cX11_lives 100 = .ok (.invokevirtual 329, 3) := by decide +kernel
theorem dX11_lives_103 : decode cX11_lives 103 = .ok (.return_, 1) := by decide +kernel
theorem dX11_load_0 : decode cX11_load 0 = .ok (.iload_n 1, 1) := by decide +kernel
theorem dX11_load_1 : decode cX11_load 1 = .ok (.iconst 0, 1) := by decide +kernel
theorem dX11_load_2 : decode cX11_load 2 = .ok (.aload_n 0, 1) := by decide +kernel
theorem dX11_load_3 : decode cX11_load 3 = .ok (.getfield 168, 3) := by decide +kernel
theorem dX11_load_6 : decode cX11_load 6 = .ok (.invokestatic 228, 3) := by decide +kernel
theorem dX11_load_9 : decode cX11_load 9 = .ok (.ifCond .ne 9, 3) := by decide +kernel
theorem dX11_load_12 : decode cX11_load 12 = .ok (.aload_n 0, 1) := by decide +kernel
theorem dX11_load_13 : decode cX11_load 13 = .ok (.iconst 1, 1) := by decide +kernel
theorem dX11_load_14 : decode cX11_load 14 = .ok (.invokevirtual 267, 3) := by decide +kernel
theorem dX11_load_17 : decode cX11_load 17 = .ok (.ireturn, 1) := by decide +kernel
theorem dX11_load_18 : decode cX11_load 18 = .ok (.aload_n 0, 1) := by decide +kernel
theorem dX11_load_19 : decode cX11_load 19 = .ok (.iload_n 1, 1) := by decide +kernel
theorem dX11_load_20 : decode cX11_load 20 = .ok (.putfield 174, 3) := by decide +kernel
theorem dX11_load_23 : decode cX11_load 23 = .ok (.iconst 0, 1) := by decide +kernel
theorem dX11_load_24 : decode cX11_load 24 = .ok (.istore_n 2, 1) := by decide +kernel
theorem dX11_load_25 : decode cX11_load 25 = .ok (.iload_n 2, 1) := by decide +kernel
theorem dX11_load_26 : decode cX11_load 26 = .ok (.iload_n 1, 1) := by decide +kernel
theorem dX11_load_27 : decode cX11_load 27 = .ok (.if_icmp .ge 21, 3) := by decide +kernel
theorem dX11_load_30 : decode cX11_load 30 = .ok (.aload_n 0, 1) := by decide +kernel
theorem dX11_load_31 : decode cX11_load 31 = .ok (.getfield 17, 3) := by decide +kernel
theorem dX11_load_34 : decode cX11_load 34 = .ok (.iload_n 2, 1) := by decide +kernel
theorem dX11_load_35 : decode cX11_load 35 = .ok (.aload_n 0, 1) := by decide +kernel
theorem dX11_load_36 : decode cX11_load 36 = .ok (.getfield 13, 3) := by decide +kernel
theorem dX11_load_39 : decode cX11_load 39 = .ok (.iload_n 2, 1) := by decide +kernel
theorem dX11_load_40 : decode cX11_load 40 = .ok (.baload, 1) := by decide +kernel
theorem dX11_load_41 : decode cX11_load 41 = .ok (.bastore, 1) := by decide +kernel
theorem dX11_load_42 : decode cX11_load 42 = .ok (.iinc 2 1, 3) := by decide +kernel
theorem dX11_load_45 : decode cX11_load 45 = .ok (.goto (-20), 3) := by decide +kernel
theorem dX11_load_48 : decode cX11_load 48 = .ok (.aload_n 0, 1) := by decide +kernel
theorem dX11_load_49 : decode cX11_load 49 = .ok (.iconst 0, 1) := by decide +kernel
theorem dX11_load_50 : decode cX11_load 50 = .ok (.putfield 168, 3) := by decide +kernel
theorem dX11_load_53 : decode cX11_load 53 = .ok (.aload_n 0, 1) := by decide +kernel
theorem dX11_load_54 : decode cX11_load 54 = .ok (.iconst 0, 1) := by decide +kernel
theorem dX11_load_55 : decode cX11_load 55 = .ok (.putfield 213, 3) := by decide +kernel
theorem dX11_load_58 : decode cX11_load 58 = .ok (.aload_n 0, 1) := by decide +kernel
theorem dX11_load_59 : decode cX11_load 59 = .ok (.iconst (-1), 1) := by decide +kernel
theorem dX11_load_60 : decode cX11_load 60 = .ok (.putfield 24, 3) := by decide +kernel
theorem dX11_load_63 : decode cX11_load 63 = .ok (.aload_n 0, 1) := by decide +kernel
theorem dX11_load_64 : decode cX11_load 64 = .ok (.iconst 0, 1) := by decide +kernel
theorem dX11_load_65 : decode cX11_load 65 = .ok (.putfield 177, 3) := by decide +kernel
theorem dX11_load_68 : decode cX11_load 68 = .ok (.aload_n 0, 1) := by decide +kernel
theorem dX11_load_69 : decode cX11_load 69 = .ok (.iconst 0, 1) := by decide +kernel
theorem dX11_load_70 : decode cX11_load 70 = .ok (.sipush 600, 3) := by decide +kernel
theorem dX11_load_73 : decode cX11_load 73 = .ok (.invokevirtual 270, 3) := by decide +kernel
theorem dX11_load_76 : decode cX11_load 76 = .ok (.aload_n 0, 1) := by decide +kernel
theorem dX11_load_77 : decode cX11_load 77 = .ok (.invokevirtual 37, 3) := by decide +kernel
theorem dX11_load_80 : decode cX11_load 80 = .ok (.aload_n 0, 1) := by decide +kernel
theorem dX11_load_81 : decode cX11_load 81 = .ok (.invokevirtual 232, 3) := by decide +kernel
theorem dX11_load_84 : decode cX11_load 84 = .ok (.iconst 1, 1) := by decide +kernel
theorem dX11_load_85 : decode cX11_load 85 = .ok (.istore_n 2, 1) := by decide +kernel
theorem dX11_load_86 : decode cX11_load 86 = .ok (.iload_n 2, 1) := by decide +kernel
theorem dX11_load_87 : decode cX11_load 87 = .ok (.ifCond .eq 18, 3) := by decide +kernel
theorem dX11_load_90 : decode cX11_load 90 = .ok (.aload_n 0, 1) := by decide +kernel
theorem dX11_load_91 : decode cX11_load 91 = .ok (.getfield 186, 3) := by decide +kernel
theorem dX11_load_94 : decode cX11_load 94 = .ok (.ifCond .eq 11, 3) := by decide +kernel
theorem dX11_load_97 : decode cX11_load 97 = .ok (.aload_n 0, 1) := by decide +kernel
theorem dX11_load_98 : decode cX11_load 98 = .ok (.invokevirtual 273, 3) := by decide +kernel
theorem dX11_load_101 : decode cX11_load 101 = .ok (.istore_n 2, 1) := by decide +kernel
theorem dX11_load_102 : decode cX11_load 102 = .ok (.goto (-16), 3) := by decide +kernel
theorem dX11_load_105 : decode cX11_load 105 = .ok (.aload_n 0, 1) := by decide +kernel
theorem dX11_load_106 : decode cX11_load 106 = .ok (.aload_n 0, 1) := by decide +kernel
theorem dX11_load_107 : decode cX11_load 107 = .ok (.getfield 213, 3) := by decide +kernel
theorem dX11_load_110 : decode cX11_load 110 = .ok (.putfield 28, 3) := by decide +kernel
theorem dX11_load_113 : decode cX11_load 113 = .ok (.aload_n 0, 1) := by decide +kernel
theorem dX11_load_114 : decode cX11_load 114 = .ok (.getfield 213, 3) := by decide +kernel
theorem dX11_load_117 : decode cX11_load 117 = .ok (.ifCond .le 18, 3) := by decide +kernel
theorem dX11_load_120 : decode cX11_load 120 = .ok (.aload_n 0, 1) := by decide +kernel
theorem dX11_load_121 : decode cX11_load 121 = .ok (.sipush 600, 3) := by decide +kernel
theorem dX11_load_124 : decode cX11_load 124 = .ok (.iconst 0, 1) := by decide +kernel
theorem dX11_load_125 : decode cX11_load 125 = .ok (.invokevirtual 270, 3) := by decide +kernel
theorem dX11_load_128 : decode cX11_load 128 = .ok (.aload_n 0, 1) := by decide +kernel
theorem dX11_load_129 : decode cX11_load 129 = .ok (.bipush 9, 2) := by decide +kernel
theorem dX11_load_131 : decode cX11_load 131 = .ok (.invokevirtual 267, 3) := by decide +kernel
theorem dX11_load_134 : decode cX11_load 134 = .ok (.ireturn, 1) := by decide +kernel
theorem dX11_load_135 : decode cX11_load 135 = .ok (.aload_n 0, 1) := by decide +kernel
theorem dX11_load_136 : decode cX11_load 136 = .ok (.aload_n 0, 1) := by decide +kernel
theorem dX11_load_137 : decode cX11_load 137 = .ok (.iconst 0, 1) := by decide +kernel
theorem dX11_load_138 : decode cX11_load 138 = .ok (.invokevirtual 47, 3) := by decide +kernel
theorem dX11_load_141 : decode cX11_load 141 = .ok (.invokevirtual 276, 3) := by decide +kernel
theorem dX11_load_144 : decode cX11_load 144 = .ok (.ireturn, 1) := by decide +kernel
theorem dX11_lose_0 : decode cX11_lose 0 = .ok (.aload_n 0, 1) := by decide +kernel
theorem dX11_lose_1 : decode cX11_lose 1 = .ok (.iconst 5, 1) := by decide +kernel
theorem dX11_lose_2 : decode cX11_lose 2 = .ok (.invokevirtual 47, 3) := by decide +kernel
theorem dX11_lose_5 : decode cX11_lose 5 = .ok (.ifCond .ne 10, 3) := by decide +kernel
theorem dX11_lose_8 : decode cX11_lose 8 = .ok (.aload_n 0, 1) := by decide +kernel
theorem dX11_lose_9 : decode cX11_lose 9 = .ok (.bipush 6, 2) := by decide +kernel
theorem dX11_lose_11 : decode cX11_lose 11 = .ok (.invokevirtual 294, 3) := by decide +kernel
theorem dX11_lose_14 : decode cX11_lose 14 = .ok (.ireturn, 1) := by decide +kernel
theorem dX11_lose_15 : decode cX11_lose 15 = .ok (.aload_n 0, 1) := by decide +kernel
theorem dX11_lose_16 : decode cX11_lose 16 = .ok (.invokevirtual 79, 3) := by decide +kernel
theorem dX11_lose_19 : decode cX11_lose 19 = .ok (.aload_n 0, 1) := by decide +kernel
theorem dX11_lose_20 : decode cX11_lose 20 = .ok (.invokevirtual 128, 3) := by decide +kernel
theorem dX11_lose_23 : decode cX11_lose 23 = .ok (.aload_n 0, 1) := by decide +kernel
theorem dX11_lose_24 : decode cX11_lose 24 = .ok (.iconst 0, 1) := by decide +kernel
theorem dX11_lose_25 : decode cX11_lose 25 = .ok (.invokevirtual 294, 3) := by decide +kernel
theorem dX11_lose_28 : decode cX11_lose 28 = .ok (.ireturn, 1) := by decide +kernel
theorem dX11_lowered_0 : decode cX11_lowered 0 = .ok (.aload_n 0, 1) := by decide +kernel
theorem dX11_lowered_1 : decode cX11_lowered 1 = .ok (.aload_n 0, 1) := by decide +kernel
theorem dX11_lowered_2 : decode cX11_lowered 2 = .ok (.iconst 1, 1) := by decide +kernel
theorem dX11_lowered_3 : decode cX11_lowered 3 = .ok (.iconst 0, 1) := by decide +kernel
theorem dX11_lowered_4 : decode cX11_lowered 4 = .ok (.invokevirtual 332, 3) := by decide +kernel
theorem dX11_lowered_7 : decode cX11_lowered 7 = .ok (.invokevirtual 336, 3) := by decide +kernel
theorem dX11_lowered_10 : decode cX11_lowered 10 = .ok (.ireturn, 1) := by decide +kernel
theorem dX11_many_0 : decode cX11_many 0 = .ok (.iload_n 1, 1) := by decide +kernel
theorem dX11_many_1 : decode cX11_many 1 = .ok (.tableswitch 201 0 10 #[59, 69, 78, 88, 97, 107, 117, 139, 148, 165, 176], 59) := by decide +kernel
theorem dX11_many_60 : decode cX11_many 60 = .ok (.aload_n 0, 1) := by decide +kernel
theorem dX11_many_61 : decode cX11_many 61 = .ok (.aload_n 0, 1) := by decide +kernel
theorem dX11_many_62 : decode cX11_many 62 = .ok (.iconst 0, 1) := by decide +kernel
theorem dX11_many_63 : decode cX11_many 63 = .ok (.invokevirtual 47, 3) := by decide +kernel
theorem dX11_many_66 : decode cX11_many 66 = .ok (.invokevirtual 276, 3) := by decide +kernel
theorem dX11_many_69 : decode cX11_many 69 = .ok (.ireturn, 1) := by decide +kernel
theorem dX11_many_70 : decode cX11_many 70 = .ok (.aload_n 0, 1) := by decide +kernel
theorem dX11_many_71 : decode cX11_many 71 = .ok (.aload_n 0, 1) := by decide +kernel
theorem dX11_many_72 : decode cX11_many 72 = .ok (.invokevirtual 279, 3) := by decide +kernel
theorem dX11_many_75 : decode cX11_many 75 = .ok (.invokevirtual 276, 3) := by decide +kernel
theorem dX11_many_78 : decode cX11_many 78 = .ok (.ireturn, 1) := by decide +kernel
theorem dX11_many_79 : decode cX11_many 79 = .ok (.aload_n 0, 1) := by decide +kernel
theorem dX11_many_80 : decode cX11_many 80 = .ok (.aload_n 0, 1) := by decide +kernel
theorem dX11_many_81 : decode cX11_many 81 = .ok (.iconst 1, 1) := by decide +kernel
theorem dX11_many_82 : decode cX11_many 82 = .ok (.invokevirtual 47, 3) := by decide +kernel
theorem dX11_many_85 : decode cX11_many 85 = .ok (.invokevirtual 276, 3) := by decide +kernel
theorem dX11_many_88 : decode cX11_many 88 = .ok (.ireturn, 1) := by decide +kernel
theorem dX11_many_89 : decode cX11_many 89 = .ok (.aload_n 0, 1) := by decide +kernel
theorem dX11_many_90 : decode cX11_many 90 = .ok (.aload_n 0, 1) := by decide +kernel
theorem dX11_many_91 : decode cX11_many 91 = .ok (.invokevirtual 282, 3) := by decide +kernel
theorem dX11_many_94 : decode cX11_many 94 = .ok (.invokevirtual 276, 3) := by decide +kernel
theorem dX11_many_97 : decode cX11_many 97 = .ok (.ireturn, 1) := by decide +kernel
theorem dX11_many_98 : decode cX11_many 98 = .ok (.aload_n 0, 1) := by decide +kernel
theorem dX11_many_99 : decode cX11_many 99 = .ok (.aload_n 0, 1) := by decide +kernel
theorem dX11_many_100 : decode cX11_many 100 = .ok (.iconst 2, 1) := by decide +kernel
theorem dX11_many_101 : decode cX11_many 101 = .ok (.invokevirtual 47, 3) := by decide +kernel
theorem dX11_many_104 : decode cX11_many 104 = .ok (.invokevirtual 276, 3) := by decide +kernel
theorem dX11_many_107 : decode cX11_many 107 = .ok (.ireturn, 1) := by decide +kernel
theorem dX11_many_108 : decode cX11_many 108 = .ok (.aload_n 0, 1) := by decide +kernel
theorem dX11_many_109 : decode cX11_many 109 = .ok (.aload_n 0, 1) := by decide +kernel
theorem dX11_many_110 : decode cX11_many 110 = .ok (.iconst 3, 1) := by decide +kernel
theorem dX11_many_111 : decode cX11_many 111 = .ok (.invokevirtual 47, 3) := by decide +kernel
theorem dX11_many_114 : decode cX11_many 114 = .ok (.invokevirtual 276, 3) := by decide +kernel
theorem dX11_many_117 : decode cX11_many 117 = .ok (.ireturn, 1) := by decide +kernel
theorem dX11_many_118 : decode cX11_many 118 = .ok (.aload_n 0, 1) := by decide +kernel
theorem dX11_many_119 : decode cX11_many 119 = .ok (.aload_n 0, 1) := by decide +kernel
theorem dX11_many_120 : decode cX11_many 120 = .ok (.iconst 5, 1) := by decide +kernel
theorem dX11_many_121 : decode cX11_many 121 = .ok (.invokevirtual 47, 3) := by decide +kernel
theorem dX11_many_124 : decode cX11_many 124 = .ok (.ifCond .ne 11, 3) := by decide +kernel
theorem dX11_many_127 : decode cX11_many 127 = .ok (.aload_n 0, 1) := by decide +kernel
theorem dX11_many_128 : decode cX11_many 128 = .ok (.iconst 4, 1) := by decide +kernel
theorem dX11_many_129 : decode cX11_many 129 = .ok (.invokevirtual 47, 3) := by decide +kernel
theorem dX11_many_132 : decode cX11_many 132 = .ok (.goto 4, 3) := by decide +kernel
theorem dX11_many_135 : decode cX11_many 135 = .ok (.iconst (-1), 1) := by decide +kernel
theorem dX11_many_136 : decode cX11_many 136 = .ok (.invokevirtual 276, 3) := by decide +kernel
theorem dX11_many_139 : decode cX11_many 139 = .ok (.ireturn, 1) := by decide +kernel
theorem dX11_many_140 : decode cX11_many 140 = .ok (.aload_n 0, 1) := by decide +kernel
theorem dX11_many_141 : decode cX11_many 141 = .ok (.aload_n 0, 1) := by decide +kernel
theorem dX11_many_142 : decode cX11_many 142 = .ok (.getfield 285, 3) := by decide +kernel
theorem dX11_many_145 : decode cX11_many 145 = .ok (.invokevirtual 276, 3) := by decide +kernel
theorem dX11_many_148 : decode cX11_many 148 = .ok (.ireturn, 1) := by decide +kernel
theorem dX11_many_149 : decode cX11_many 149 = .ok (.aload_n 0, 1) := by decide +kernel
theorem dX11_many_150 : decode cX11_many 150 = .ok (.aload_n 0, 1) := by decide +kernel
theorem dX11_many_151 : decode cX11_many 151 = .ok (.invokevirtual 58, 3) := by decide +kernel
theorem dX11_many_154 : decode cX11_many 154 = .ok (.ifCond .eq 7, 3) := by decide +kernel
theorem dX11_many_157 : decode cX11_many 157 = .ok (.iconst 1, 1) := by decide +kernel
theorem dX11_many_158 : decode cX11_many 158 = .ok (.goto 4, 3) := by decide +kernel
theorem dX11_many_161 : decode cX11_many 161 = .ok (.iconst 0, 1) := by decide +kernel
theorem dX11_many_162 : decode cX11_many 162 = .ok (.invokevirtual 276, 3) := by decide +kernel
theorem dX11_many_165 : decode cX11_many 165 = .ok (.ireturn, 1) := by decide +kernel
theorem dX11_many_166 : decode cX11_many 166 = .ok (.aload_n 0, 1) := by decide +kernel
theorem dX11_many_167 : decode cX11_many 167 = .ok (.aload_n 0, 1) := by decide +kernel
theorem dX11_many_168 : decode cX11_many 168 = .ok (.bipush 16, 2) := by decide +kernel
theorem dX11_many_170 : decode cX11_many 170 = .ok (.invokevirtual 47, 3) := by decide +kernel
theorem dX11_many_173 : decode cX11_many 173 = .ok (.invokevirtual 276, 3) := by decide +kernel
theorem dX11_many_176 : decode cX11_many 176 = .ok (.ireturn, 1) := by decide +kernel
theorem dX11_many_177 : decode cX11_many 177 = .ok (.aload_n 0, 1) := by decide +kernel
theorem dX11_many_178 : decode cX11_many 178 = .ok (.aload_n 0, 1) := by decide +kernel
theorem dX11_many_179 : decode cX11_many 179 = .ok (.bipush 16, 2) := by decide +kernel
theorem dX11_many_181 : decode cX11_many 181 = .ok (.invokevirtual 47, 3) := by decide +kernel
theorem dX11_many_184 : decode cX11_many 184 = .ok (.iconst (-1), 1) := by decide +kernel
theorem dX11_many_185 : decode cX11_many 185 = .ok (.if_icmp .ne 7, 3) := by decide +kernel
theorem dX11_many_188 : decode cX11_many 188 = .ok (.iconst (-1), 1) := by decide +kernel
theorem dX11_many_189 : decode cX11_many 189 = .ok (.goto 9, 3) := by decide +kernel
theorem dX11_many_192 : decode cX11_many 192 = .ok (.aload_n 0, 1) := by decide +kernel
theorem dX11_many_193 : decode cX11_many 193 = .ok (.bipush 17, 2) := by decide +kernel
theorem dX11_many_195 : decode cX11_many 195 = .ok (.invokevirtual 47, 3) := by decide +kernel
theorem dX11_many_198 : decode cX11_many 198 = .ok (.invokevirtual 276, 3) := by decide +kernel
theorem dX11_many_201 : decode cX11_many 201 = .ok (.ireturn, 1) := by decide +kernel
theorem dX11_many_202 : decode cX11_many 202 = .ok (.aload_n 0, 1) := by decide +kernel
theorem dX11_many_203 : decode cX11_many 203 = .ok (.iconst 1, 1) := by decide +kernel
theorem dX11_many_204 : decode cX11_many 204 = .ok (.invokevirtual 267, 3) := by decide +kernel
theorem dX11_many_207 : decode cX11_many 207 = .ok (.ireturn, 1) := by decide +kernel
theorem dX11_mark_0 : decode cX11_mark 0 = .ok (.aload_n 0, 1) := by decide +kernel
theorem dX11_mark_1 : decode cX11_mark 1 = .ok (.getfield 285, 3) := by decide +kernel
theorem dX11_mark_4 : decode cX11_mark 4 = .ok (.iconst 4, 1) := by decide +kernel
theorem dX11_mark_5 : decode cX11_mark 5 = .ok (.if_icmp .ne 9, 3) := by decide +kernel
theorem dX11_mark_8 : decode cX11_mark 8 = .ok (.aload_n 0, 1) := by decide +kernel
theorem dX11_mark_9 : decode cX11_mark 9 = .ok (.iconst 3, 1) := by decide +kernel
theorem dX11_mark_10 : decode cX11_mark 10 = .ok (.invokevirtual 267, 3) := by decide +kernel
theorem dX11_mark_13 : decode cX11_mark 13 = .ok (.ireturn, 1) := by decide +kernel
theorem dX11_mark_14 : decode cX11_mark 14 = .ok (.aload_n 0, 1) := by decide +kernel
theorem dX11_mark_15 : decode cX11_mark 15 = .ok (.iconst 0, 1) := by decide +kernel
theorem dX11_mark_16 : decode cX11_mark 16 = .ok (.sipush 1200, 3) := by decide +kernel
theorem dX11_mark_19 : decode cX11_mark 19 = .ok (.sipush 600, 3) := by decide +kernel
theorem dX11_mark_22 : decode cX11_mark 22 = .ok (.aload_n 0, 1) := by decide +kernel
theorem dX11_mark_23 : decode cX11_mark 23 = .ok (.getfield 285, 3) := by decide +kernel
theorem dX11_mark_26 : decode cX11_mark 26 = .ok (.imul, 1) := by decide +kernel
theorem dX11_mark_27 : decode cX11_mark 27 = .ok (.iadd, 1) := by decide +kernel
theorem dX11_mark_28 : decode cX11_mark 28 = .ok (.invokevirtual 270, 3) := by decide +kernel
theorem dX11_mark_31 : decode cX11_mark 31 = .ok (.aload_n 0, 1) := by decide +kernel
theorem dX11_mark_32 : decode cX11_mark 32 = .ok (.dup, 1) := by decide +kernel
theorem dX11_mark_33 : decode cX11_mark 33 = .ok (.getfield 285, 3) := by decide +kernel
theorem dX11_mark_36 : decode cX11_mark 36 = .ok (.iconst 1, 1) := by decide +kernel
theorem dX11_mark_37 : decode cX11_mark 37 = .ok (.iadd, 1) := by decide +kernel
theorem dX11_mark_38 : decode cX11_mark 38 = .ok (.putfield 285, 3) := by decide +kernel
theorem dX11_mark_41 : decode cX11_mark 41 = .ok (.aload_n 0, 1) := by decide +kernel
theorem dX11_mark_42 : decode cX11_mark 42 = .ok (.aload_n 0, 1) := by decide +kernel
theorem dX11_mark_43 : decode cX11_mark 43 = .ok (.getfield 285, 3) := by decide +kernel
theorem dX11_mark_46 : decode cX11_mark 46 = .ok (.invokevirtual 276, 3) := by decide +kernel
theorem dX11_mark_49 : decode cX11_mark 49 = .ok (.ireturn, 1) := by decide +kernel
theorem dX11_mend_0 : decode cX11_mend 0 = .ok (.aload_n 0, 1) := by decide +kernel
theorem dX11_mend_1 : decode cX11_mend 1 = .ok (.bipush 16, 2) := by decide +kernel
theorem dX11_mend_3 : decode cX11_mend 3 = .ok (.invokevirtual 47, 3) := by decide +kernel
theorem dX11_mend_6 : decode cX11_mend 6 = .ok (.iconst (-1), 1) := by decide +kernel
theorem dX11_mend_7 : decode cX11_mend 7 = .ok (.if_icmp .ne 9, 3) := by decide +kernel
theorem dX11_mend_10 : decode cX11_mend 10 = .ok (.aload_n 0, 1) := by decide +kernel
theorem dX11_mend_11 : decode cX11_mend 11 = .ok (.iconst 5, 1) := by decide +kernel
theorem dX11_mend_12 : decode cX11_mend 12 = .ok (.invokevirtual 294, 3) := by decide +kernel
theorem dX11_mend_15 : decode cX11_mend 15 = .ok (.ireturn, 1) := by decide +kernel
theorem dX11_mend_16 : decode cX11_mend 16 = .ok (.aload_n 0, 1) := by decide +kernel
theorem dX11_mend_17 : decode cX11_mend 17 = .ok (.bipush 16, 2) := by decide +kernel
theorem dX11_mend_19 : decode cX11_mend 19 = .ok (.iconst (-1), 1) := by decide +kernel
theorem dX11_mend_20 : decode cX11_mend 20 = .ok (.invokevirtual 43, 3) := by decide +kernel
theorem dX11_mend_23 : decode cX11_mend 23 = .ok (.aload_n 0, 1) := by decide +kernel
theorem dX11_mend_24 : decode cX11_mend 24 = .ok (.invokevirtual 291, 3) := by decide +kernel
theorem dX11_mend_27 : decode cX11_mend 27 = .ok (.aload_n 0, 1) := by decide +kernel
theorem dX11_mend_28 : decode cX11_mend 28 = .ok (.iconst 0, 1) := by decide +kernel
theorem dX11_mend_29 : decode cX11_mend 29 = .ok (.invokevirtual 294, 3) := by decide +kernel
theorem dX11_mend_32 : decode cX11_mend 32 = .ok (.ireturn, 1) := by decide +kernel
theorem dX11_monitor_0 : decode cX11_monitor 0 = .ok (.aload_n 0, 1) := by decide +kernel
theorem dX11_monitor_1 : decode cX11_monitor 1 = .ok (.iload_n 1, 1) := by decide +kernel
theorem dX11_monitor_2 : decode cX11_monitor 2 = .ok (.invokevirtual 51, 3) := by decide +kernel
theorem dX11_monitor_5 : decode cX11_monitor 5 = .ok (.ifCond .ne 9, 3) := by decide +kernel
theorem dX11_monitor_8 : decode cX11_monitor 8 = .ok (.aload_n 0, 1) := by decide +kernel
theorem dX11_monitor_9 : decode cX11_monitor 9 = .ok (.iconst 2, 1) := by decide +kernel
theorem dX11_monitor_10 : decode cX11_monitor 10 = .ok (.invokevirtual 294, 3) := by decide +kernel
theorem dX11_monitor_13 : decode cX11_monitor 13 = .ok (.ireturn, 1) := by decide +kernel
theorem dX11_monitor_14 : decode cX11_monitor 14 = .ok (.aload_n 0, 1) := by decide +kernel
theorem dX11_monitor_15 : decode cX11_monitor 15 = .ok (.iconst 1, 1) := by decide +kernel
theorem dX11_monitor_16 : decode cX11_monitor 16 = .ok (.invokevirtual 47, 3) := by decide +kernel
theorem dX11_monitor_19 : decode cX11_monitor 19 = .ok (.iload_n 1, 1) := by decide +kernel
theorem dX11_monitor_20 : decode cX11_monitor 20 = .ok (.if_icmp .ne 9, 3) := by decide +kernel
theorem dX11_monitor_23 : decode cX11_monitor 23 = .ok (.aload_n 0, 1) := by decide +kernel
theorem dX11_monitor_24 : decode cX11_monitor 24 = .ok (.iconst 4, 1) := by decide +kernel
theorem dX11_monitor_25 : decode cX11_monitor 25 = .ok (.invokevirtual 294, 3) := by decide +kernel
theorem dX11_monitor_28 : decode cX11_monitor 28 = .ok (.ireturn, 1) := by decide +kernel
theorem dX11_monitor_29 : decode cX11_monitor 29 = .ok (.aload_n 0, 1) := by decide +kernel
theorem dX11_monitor_30 : decode cX11_monitor 30 = .ok (.iconst 1, 1) := by decide +kernel
theorem dX11_monitor_31 : decode cX11_monitor 31 = .ok (.iload_n 1, 1) := by decide +kernel
theorem dX11_monitor_32 : decode cX11_monitor 32 = .ok (.invokevirtual 43, 3) := by decide +kernel
theorem dX11_monitor_35 : decode cX11_monitor 35 = .ok (.aload_n 0, 1) := by decide +kernel
theorem dX11_monitor_36 : decode cX11_monitor 36 = .ok (.iconst 0, 1) := by decide +kernel
theorem dX11_monitor_37 : decode cX11_monitor 37 = .ok (.invokevirtual 294, 3) := by decide +kernel
theorem dX11_monitor_40 : decode cX11_monitor 40 = .ok (.ireturn, 1) := by decide +kernel
theorem dX11_namedHere_0 : decode cX11_namedHere 0 = .ok (.lconst 0, 1) := by decide +kernel
theorem dX11_namedHere_1 : decode cX11_namedHere 1 = .ok (.lstore_n 1, 1) := by decide +kernel
theorem dX11_namedHere_2 : decode cX11_namedHere 2 = .ok (.aload_n 0, 1) := by decide +kernel
theorem dX11_namedHere_3 : decode cX11_namedHere 3 = .ok (.getfield 183, 3) := by decide +kernel
theorem dX11_namedHere_6 : decode cX11_namedHere 6 = .ok (.istore_n 3, 1) := by decide +kernel
theorem dX11_namedHere_7 : decode cX11_namedHere 7 = .ok (.iload_n 3, 1) := by decide +kernel
theorem dX11_namedHere_8 : decode cX11_namedHere 8 = .ok (.aload_n 0, 1) := by decide +kernel
theorem dX11_namedHere_9 : decode cX11_namedHere 9 = .ok (.getfield 177, 3) := by decide +kernel
theorem dX11_namedHere_12 : decode cX11_namedHere 12 = .ok (.if_icmp .ge 21, 3) := by decide +kernel
theorem dX11_namedHere_15 : decode cX11_namedHere 15 = .ok (.lload_n 1, 1) := by decide +kernel
theorem dX11_namedHere_16 : decode cX11_namedHere 16 = .ok (.bipush 8, 2) := by decide +kernel
theorem dX11_namedHere_18 : decode cX11_namedHere 18 = .ok (.lshl, 1) := by decide +kernel
theorem dX11_namedHere_19 : decode cX11_namedHere 19 = .ok (.aload_n 0, 1) := by decide +kernel
theorem dX11_namedHere_20 : decode cX11_namedHere 20 = .ok (.iload_n 3, 1) := by decide +kernel
theorem dX11_namedHere_21 : decode cX11_namedHere 21 = .ok (.invokevirtual 180, 3) := by decide +kernel
theorem dX11_namedHere_24 : decode cX11_namedHere 24 = .ok (.i2l, 1) := by decide +kernel
theorem dX11_namedHere_25 : decode cX11_namedHere 25 = .ok (.lor, 1) := by decide +kernel
theorem dX11_namedHere_26 : decode cX11_namedHere 26 = .ok (.lstore_n 1, 1) := by decide +kernel
theorem dX11_namedHere_27 : decode cX11_namedHere 27 = .ok (.iinc 3 1, 3) := by decide +kernel
theorem dX11_namedHere_30 : decode cX11_namedHere 30 = .ok (.goto (-23), 3) := by decide +kernel
theorem dX11_namedHere_33 : decode cX11_namedHere 33 = .ok (.iconst 0, 1) := by decide +kernel
theorem dX11_namedHere_34 : decode cX11_namedHere 34 = .ok (.istore_n 3, 1) := by decide +kernel
theorem dX11_namedHere_35 : decode cX11_namedHere 35 = .ok (.iload_n 3, 1) := by decide +kernel
theorem dX11_namedHere_36 : decode cX11_namedHere 36 = .ok (.aload_n 0, 1) := by decide +kernel
theorem dX11_namedHere_37 : decode cX11_namedHere 37 = .ok (.iconst 0, 1) := by decide +kernel
theorem dX11_namedHere_38 : decode cX11_namedHere 38 = .ok (.invokevirtual 47, 3) := by decide +kernel
theorem dX11_namedHere_41 : decode cX11_namedHere 41 = .ok (.if_icmp .ge 22, 3) := by decide +kernel
theorem dX11_namedHere_44 : decode cX11_namedHere 44 = .ok (.aload_n 0, 1) := by decide +kernel
theorem dX11_namedHere_45 : decode cX11_namedHere 45 = .ok (.getfield 20, 3) := by decide +kernel
theorem dX11_namedHere_48 : decode cX11_namedHere 48 = .ok (.iload_n 3, 1) := by decide +kernel
theorem dX11_namedHere_49 : decode cX11_namedHere 49 = .ok (.laload, 1) := by decide +kernel
theorem dX11_namedHere_50 : decode cX11_namedHere 50 = .ok (.lload_n 1, 1) := by decide +kernel
theorem dX11_namedHere_51 : decode cX11_namedHere 51 = .ok (.lcmp, 1) := by decide +kernel
theorem dX11_namedHere_52 : decode cX11_namedHere 52 = .ok (.ifCond .ne 5, 3) := by decide +kernel
theorem dX11_namedHere_55 : decode cX11_namedHere 55 = .ok (.iload_n 3, 1) := by decide +kernel
theorem dX11_namedHere_56 : decode cX11_namedHere 56 = .ok (.ireturn, 1) := by decide +kernel
theorem dX11_namedHere_57 : decode cX11_namedHere 57 = .ok (.iinc 3 1, 3) := by decide +kernel
theorem dX11_namedHere_60 : decode cX11_namedHere 60 = .ok (.goto (-25), 3) := by decide +kernel
theorem dX11_namedHere_63 : decode cX11_namedHere 63 = .ok (.aload_n 0, 1) := by decide +kernel
theorem dX11_namedHere_64 : decode cX11_namedHere 64 = .ok (.getfield 20, 3) := by decide +kernel
theorem dX11_namedHere_67 : decode cX11_namedHere 67 = .ok (.bipush 7, 2) := by decide +kernel
theorem dX11_namedHere_69 : decode cX11_namedHere 69 = .ok (.aload_n 0, 1) := by decide +kernel
theorem dX11_namedHere_70 : decode cX11_namedHere 70 = .ok (.iconst 0, 1) := by decide +kernel
theorem dX11_namedHere_71 : decode cX11_namedHere 71 = .ok (.invokevirtual 47, 3) := by decide +kernel
theorem dX11_namedHere_74 : decode cX11_namedHere 74 = .ok (.invokestatic 199, 3) := by decide +kernel
theorem dX11_namedHere_77 : decode cX11_namedHere 77 = .ok (.aload_n 0, 1) := by decide +kernel
theorem dX11_namedHere_78 : decode cX11_namedHere 78 = .ok (.iconst 0, 1) := by decide +kernel
theorem dX11_namedHere_79 : decode cX11_namedHere 79 = .ok (.invokevirtual 47, 3) := by decide +kernel
theorem dX11_namedHere_82 : decode cX11_namedHere 82 = .ok (.bipush 8, 2) := by decide +kernel
theorem dX11_namedHere_84 : decode cX11_namedHere 84 = .ok (.if_icmp .ge 7, 3) := by decide +kernel
theorem dX11_namedHere_87 : decode cX11_namedHere 87 = .ok (.lload_n 1, 1) := by decide +kernel
theorem dX11_namedHere_88 : decode cX11_namedHere 88 = .ok (.goto 10, 3) := by decide +kernel
theorem dX11_namedHere_91 : decode cX11_namedHere 91 = .ok (.aload_n 0, 1) := by decide +kernel
theorem dX11_namedHere_92 : decode cX11_namedHere 92 = .ok (.getfield 20, 3) := by decide +kernel
theorem dX11_namedHere_95 : decode cX11_namedHere 95 = .ok (.bipush 7, 2) := by decide +kernel
theorem dX11_namedHere_97 : decode cX11_namedHere 97 = .ok (.laload, 1) := by decide +kernel
theorem dX11_namedHere_98 : decode cX11_namedHere 98 = .ok (.lastore, 1) := by decide +kernel
theorem dX11_namedHere_99 : decode cX11_namedHere 99 = .ok (.iconst (-1), 1) := by decide +kernel
theorem dX11_namedHere_100 : decode cX11_namedHere 100 = .ok (.ireturn, 1) := by decide +kernel
theorem dX11_next_0 : decode cX11_next 0 = .ok (.iload_n 1, 1) := by decide +kernel
theorem dX11_next_1 : decode cX11_next 1 = .ok (.ifCond .ge 9, 3) := by decide +kernel
theorem dX11_next_4 : decode cX11_next 4 = .ok (.aload_n 0, 1) := by decide +kernel
theorem dX11_next_5 : decode cX11_next 5 = .ok (.iconst 1, 1) := by decide +kernel
theorem dX11_next_6 : decode cX11_next 6 = .ok (.invokevirtual 267, 3) := by decide +kernel
theorem dX11_next_9 : decode cX11_next 9 = .ok (.ireturn, 1) := by decide +kernel
theorem dX11_next_10 : decode cX11_next 10 = .ok (.iconst (-1), 1) := by decide +kernel
theorem dX11_next_11 : decode cX11_next 11 = .ok (.istore_n 3, 1) := by decide +kernel
theorem dX11_next_12 : decode cX11_next 12 = .ok (.iload_n 1, 1) := by decide +kernel
theorem dX11_next_13 : decode cX11_next 13 = .ok (.istore 4, 2) := by decide +kernel
theorem dX11_next_15 : decode cX11_next 15 = .ok (.aload_n 0, 1) := by decide +kernel
theorem dX11_next_16 : decode cX11_next 16 = .ok (.iload_n 2, 1) := by decide +kernel
theorem dX11_next_17 : decode cX11_next 17 = .ok (.invokevirtual 322, 3) := by decide +kernel
theorem dX11_next_20 : decode cX11_next 20 = .ok (.iconst 0, 1) := by decide +kernel
theorem dX11_next_21 : decode cX11_next 21 = .ok (.istore 5, 2) := by decide +kernel
theorem dX11_next_23 : decode cX11_next 23 = .ok (.iload 5, 2) := by decide +kernel
theorem dX11_next_25 : decode cX11_next 25 = .ok (.sipush 3000, 3) := by decide +kernel
theorem dX11_next_28 : decode cX11_next 28 = .ok (.if_icmp .ge 42, 3) := by decide +kernel
theorem dX11_next_31 : decode cX11_next 31 = .ok (.iload_n 3, 1) := by decide +kernel
theorem dX11_next_32 : decode cX11_next 32 = .ok (.iconst (-1), 1) := by decide +kernel
theorem dX11_next_33 : decode cX11_next 33 = .ok (.if_icmp .ne 37, 3) := by decide +kernel
theorem dX11_next_36 : decode cX11_next 36 = .ok (.aload_n 0, 1) := by decide +kernel
theorem dX11_next_37 : decode cX11_next 37 = .ok (.invokevirtual 297, 3) := by decide +kernel
theorem dX11_next_40 : decode cX11_next 40 = .ok (.aload_n 0, 1) := by decide +kernel
theorem dX11_next_41 : decode cX11_next 41 = .ok (.getfield 112, 3) := by decide +kernel
theorem dX11_next_44 : decode cX11_next 44 = .ok (.iconst (-1), 1) := by decide +kernel
theorem dX11_next_45 : decode cX11_next 45 = .ok (.if_icmp .ne 6, 3) := by decide +kernel
theorem dX11_next_48 : decode cX11_next 48 = .ok (.goto 16, 3) := by decide +kernel
theorem dX11_next_51 : decode cX11_next 51 = .ok (.iload 4, 2) := by decide +kernel
theorem dX11_next_53 : decode cX11_next 53 = .ok (.ifCond .ne 8, 3) := by decide +kernel
theorem dX11_next_56 : decode cX11_next 56 = .ok (.aload_n 0, 1) := by decide +kernel
theorem dX11_next_57 : decode cX11_next 57 = .ok (.getfield 112, 3) := by decide +kernel
theorem dX11_next_60 : decode cX11_next 60 = .ok (.istore_n 3, 1) := by decide +kernel
theorem dX11_next_61 : decode cX11_next 61 = .ok (.iinc 4 (-1), 3) := by decide +kernel
theorem dX11_next_64 : decode cX11_next 64 = .ok (.iinc 5 1, 3) := by decide +kernel
theorem dX11_next_67 : decode cX11_next 67 = .ok (.goto (-44), 3) := by decide +kernel
theorem dX11_next_70 : decode cX11_next 70 = .ok (.aload_n 0, 1) := by decide +kernel
theorem dX11_next_71 : decode cX11_next 71 = .ok (.invokevirtual 329, 3) := by decide +kernel
theorem dX11_next_74 : decode cX11_next 74 = .ok (.aload_n 0, 1) := by decide +kernel
theorem dX11_next_75 : decode cX11_next 75 = .ok (.iload_n 3, 1) := by decide +kernel
theorem dX11_next_76 : decode cX11_next 76 = .ok (.invokevirtual 336, 3) := by decide +kernel
theorem dX11_next_79 : decode cX11_next 79 = .ok (.ireturn, 1) := by decide +kernel
theorem dX11_nextOn_0 : decode cX11_nextOn 0 = .ok (.iconst 1, 1) := by decide +kernel
theorem dX11_nextOn_1 : decode cX11_nextOn 1 = .ok (.istore_n 3, 1) := by decide +kernel
theorem dX11_nextOn_2 : decode cX11_nextOn 2 = .ok (.iload_n 3, 1) := by decide +kernel
theorem dX11_nextOn_3 : decode cX11_nextOn 3 = .ok (.aload_n 0, 1) := by decide +kernel
theorem dX11_nextOn_4 : decode cX11_nextOn 4 = .ok (.iconst 0, 1) := by decide +kernel
theorem dX11_nextOn_5 : decode cX11_nextOn 5 = .ok (.invokevirtual 47, 3) := by decide +kernel
theorem dX11_nextOn_8 : decode cX11_nextOn 8 = .ok (.if_icmp .gt 42, 3) := by decide +kernel
theorem dX11_nextOn_11 : decode cX11_nextOn 11 = .ok (.iload_n 1, 1) := by decide +kernel
theorem dX11_nextOn_12 : decode cX11_nextOn 12 = .ok (.iload_n 2, 1) := by decide +kernel
theorem dX11_nextOn_13 : decode cX11_nextOn 13 = .ok (.iload_n 3, 1) := by decide +kernel
theorem dX11_nextOn_14 : decode cX11_nextOn 14 = .ok (.imul, 1) := by decide +kernel
theorem dX11_nextOn_15 : decode cX11_nextOn 15 = .ok (.iadd, 1) := by decide +kernel
theorem dX11_nextOn_16 : decode cX11_nextOn 16 = .ok (.iload_n 3, 1) := by decide +kernel
theorem dX11_nextOn_17 : decode cX11_nextOn 17 = .ok (.aload_n 0, 1) := by decide +kernel
theorem dX11_nextOn_18 : decode cX11_nextOn 18 = .ok (.iconst 0, 1) := by decide +kernel
theorem dX11_nextOn_19 : decode cX11_nextOn 19 = .ok (.invokevirtual 47, 3) := by decide +kernel
theorem dX11_nextOn_22 : decode cX11_nextOn 22 = .ok (.imul, 1) := by decide +kernel
theorem dX11_nextOn_23 : decode cX11_nextOn 23 = .ok (.iadd, 1) := by decide +kernel
theorem dX11_nextOn_24 : decode cX11_nextOn 24 = .ok (.aload_n 0, 1) := by decide +kernel
theorem dX11_nextOn_25 : decode cX11_nextOn 25 = .ok (.iconst 0, 1) := by decide +kernel
theorem dX11_nextOn_26 : decode cX11_nextOn 26 = .ok (.invokevirtual 47, 3) := by decide +kernel
theorem dX11_nextOn_29 : decode cX11_nextOn 29 = .ok (.irem, 1) := by decide +kernel
theorem dX11_nextOn_30 : decode cX11_nextOn 30 = .ok (.istore 4, 2) := by decide +kernel
theorem dX11_nextOn_32 : decode cX11_nextOn 32 = .ok (.aload_n 0, 1) := by decide +kernel
theorem dX11_nextOn_33 : decode cX11_nextOn 33 = .ok (.iload 4, 2) := by decide +kernel
theorem dX11_nextOn_35 : decode cX11_nextOn 35 = .ok (.invokevirtual 55, 3) := by decide +kernel
theorem dX11_nextOn_38 : decode cX11_nextOn 38 = .ok (.ifCond .eq 6, 3) := by decide +kernel
theorem dX11_nextOn_41 : decode cX11_nextOn 41 = .ok (.iload 4, 2) := by decide +kernel
theorem dX11_nextOn_43 : decode cX11_nextOn 43 = .ok (.ireturn, 1) := by decide +kernel
theorem dX11_nextOn_44 : decode cX11_nextOn 44 = .ok (.iinc 3 1, 3) := by decide +kernel
theorem dX11_nextOn_47 : decode cX11_nextOn 47 = .ok (.goto (-45), 3) := by decide +kernel
theorem dX11_nextOn_50 : decode cX11_nextOn 50 = .ok (.iconst (-1), 1) := by decide +kernel
theorem dX11_nextOn_51 : decode cX11_nextOn 51 = .ok (.ireturn, 1) := by decide +kernel
theorem dX11_notice_0 : decode cX11_notice 0 = .ok (.aload_n 0, 1) := by decide +kernel
theorem dX11_notice_1 : decode cX11_notice 1 = .ok (.invokevirtual 58, 3) := by decide +kernel
theorem dX11_notice_4 : decode cX11_notice 4 = .ok (.ifCond .eq 9, 3) := by decide +kernel
theorem dX11_notice_7 : decode cX11_notice 7 = .ok (.aload_n 0, 1) := by decide +kernel
theorem dX11_notice_8 : decode cX11_notice 8 = .ok (.iconst 3, 1) := by decide +kernel
theorem dX11_notice_9 : decode cX11_notice 9 = .ok (.invokevirtual 267, 3) := by decide +kernel
theorem dX11_notice_12 : decode cX11_notice 12 = .ok (.ireturn, 1) := by decide +kernel
theorem dX11_notice_13 : decode cX11_notice 13 = .ok (.aload_n 0, 1) := by decide +kernel
theorem dX11_notice_14 : decode cX11_notice 14 = .ok (.aload_n 0, 1) := by decide +kernel
theorem dX11_notice_15 : decode cX11_notice 15 = .ok (.iconst 1, 1) := by decide +kernel
theorem dX11_notice_16 : decode cX11_notice 16 = .ok (.invokevirtual 47, 3) := by decide +kernel
theorem dX11_notice_19 : decode cX11_notice 19 = .ok (.invokevirtual 55, 3) := by decide +kernel
theorem dX11_notice_22 : decode cX11_notice 22 = .ok (.ifCond .ne 9, 3) := by decide +kernel
theorem dX11_notice_25 : decode cX11_notice 25 = .ok (.aload_n 0, 1) := by decide +kernel
theorem dX11_notice_26 : decode cX11_notice 26 = .ok (.iconst 5, 1) := by decide +kernel
theorem dX11_notice_27 : decode cX11_notice 27 = .ok (.invokevirtual 267, 3) := by decide +kernel
theorem dX11_notice_30 : decode cX11_notice 30 = .ok (.ireturn, 1) := by decide +kernel
theorem dX11_notice_31 : decode cX11_notice 31 = .ok (.aload_n 0, 1) := by decide +kernel
theorem dX11_notice_32 : decode cX11_notice 32 = .ok (.iconst 5, 1) := by decide +kernel
theorem dX11_notice_33 : decode cX11_notice 33 = .ok (.invokevirtual 47, 3) := by decide +kernel
theorem dX11_notice_36 : decode cX11_notice 36 = .ok (.iconst 1, 1) := by decide +kernel
theorem dX11_notice_37 : decode cX11_notice 37 = .ok (.if_icmp .eq 10, 3) := by decide +kernel
theorem dX11_notice_40 : decode cX11_notice 40 = .ok (.aload_n 0, 1) := by decide +kernel
theorem dX11_notice_41 : decode cX11_notice 41 = .ok (.bipush 6, 2) := by decide +kernel
theorem dX11_notice_43 : decode cX11_notice 43 = .ok (.invokevirtual 267, 3) := by decide +kernel
theorem dX11_notice_46 : decode cX11_notice 46 = .ok (.ireturn, 1) := by decide +kernel
theorem dX11_notice_47 : decode cX11_notice 47 = .ok (.iconst 0, 1) := by decide +kernel
theorem dX11_notice_48 : decode cX11_notice 48 = .ok (.istore_n 1, 1) := by decide +kernel
theorem dX11_notice_49 : decode cX11_notice 49 = .ok (.iconst 0, 1) := by decide +kernel
theorem dX11_notice_50 : decode cX11_notice 50 = .ok (.istore_n 2, 1) := by decide +kernel
theorem dX11_notice_51 : decode cX11_notice 51 = .ok (.iload_n 2, 1) := by decide +kernel
theorem dX11_notice_52 : decode cX11_notice 52 = .ok (.aload_n 0, 1) := by decide +kernel
theorem dX11_notice_53 : decode cX11_notice 53 = .ok (.iconst 0, 1) := by decide +kernel
theorem dX11_notice_54 : decode cX11_notice 54 = .ok (.invokevirtual 47, 3) := by decide +kernel
theorem dX11_notice_57 : decode cX11_notice 57 = .ok (.if_icmp .ge 54, 3) := by decide +kernel
theorem dX11_notice_60 : decode cX11_notice 60 = .ok (.aload_n 0, 1) := by decide +kernel
theorem dX11_notice_61 : decode cX11_notice 61 = .ok (.iload_n 2, 1) := by decide +kernel
theorem dX11_notice_62 : decode cX11_notice 62 = .ok (.invokevirtual 55, 3) := by decide +kernel
theorem dX11_notice_65 : decode cX11_notice 65 = .ok (.ifCond .eq 40, 3) := by decide +kernel
theorem dX11_notice_68 : decode cX11_notice 68 = .ok (.aload_n 0, 1) := by decide +kernel
theorem dX11_notice_69 : decode cX11_notice 69 = .ok (.bipush 56, 2) := by decide +kernel
theorem dX11_notice_71 : decode cX11_notice 71 = .ok (.iload_n 2, 1) := by decide +kernel
theorem dX11_notice_72 : decode cX11_notice 72 = .ok (.iadd, 1) := by decide +kernel
theorem dX11_notice_73 : decode cX11_notice 73 = .ok (.invokevirtual 47, 3) := by decide +kernel
theorem dX11_notice_76 : decode cX11_notice 76 = .ok (.aload_n 0, 1) := by decide +kernel
theorem dX11_notice_77 : decode cX11_notice 77 = .ok (.iload_n 2, 1) := by decide +kernel
theorem dX11_notice_78 : decode cX11_notice 78 = .ok (.iconst (-1), 1) := by decide +kernel
theorem dX11_notice_79 : decode cX11_notice 79 = .ok (.invokevirtual 121, 3) := by decide +kernel
theorem dX11_notice_82 : decode cX11_notice 82 = .ok (.if_icmp .ne 6, 3) := by decide +kernel
theorem dX11_notice_85 : decode cX11_notice 85 = .ok (.goto 20, 3) := by decide +kernel
theorem dX11_notice_88 : decode cX11_notice 88 = .ok (.aload_n 0, 1) := by decide +kernel
theorem dX11_notice_89 : decode cX11_notice 89 = .ok (.bipush 56, 2) := by decide +kernel
theorem dX11_notice_91 : decode cX11_notice 91 = .ok (.iload_n 2, 1) := by decide +kernel
theorem dX11_notice_92 : decode cX11_notice 92 = .ok (.iadd, 1) := by decide +kernel
theorem dX11_notice_93 : decode cX11_notice 93 = .ok (.aload_n 0, 1) := by decide +kernel
theorem dX11_notice_94 : decode cX11_notice 94 = .ok (.iload_n 2, 1) := by decide +kernel
theorem dX11_notice_95 : decode cX11_notice 95 = .ok (.iconst (-1), 1) := by decide +kernel
theorem dX11_notice_96 : decode cX11_notice 96 = .ok (.invokevirtual 121, 3) := by decide +kernel
theorem dX11_notice_99 : decode cX11_notice 99 = .ok (.invokevirtual 43, 3) := by decide +kernel
theorem dX11_notice_102 : decode cX11_notice 102 = .ok (.iinc 1 1, 3) := by decide +kernel
theorem dX11_notice_105 : decode cX11_notice 105 = .ok (.iinc 2 1, 3) := by decide +kernel
theorem dX11_notice_108 : decode cX11_notice 108 = .ok (.goto (-57), 3) := by decide +kernel
theorem dX11_notice_111 : decode cX11_notice 111 = .ok (.aload_n 0, 1) := by decide +kernel
theorem dX11_notice_112 : decode cX11_notice 112 = .ok (.iload_n 1, 1) := by decide +kernel
theorem dX11_notice_113 : decode cX11_notice 113 = .ok (.invokevirtual 276, 3) := by decide +kernel
theorem dX11_notice_116 : decode cX11_notice 116 = .ok (.ireturn, 1) := by decide +kernel
theorem dX11_of_0 : decode cX11_of 0 = .ok (.aload_n 0, 1) := by decide +kernel
theorem dX11_of_1 : decode cX11_of 1 = .ok (.getfield 7, 3) := by decide +kernel
theorem dX11_of_4 : decode cX11_of 4 = .ok (.iload_n 1, 1) := by decide +kernel
theorem dX11_of_5 : decode cX11_of 5 = .ok (.iaload, 1) := by decide +kernel
theorem dX11_of_6 : decode cX11_of 6 = .ok (.ireturn, 1) := by decide +kernel
theorem dX11_off_0 : decode cX11_off 0 = .ok (.aload_n 0, 1) := by decide +kernel
theorem dX11_off_1 : decode cX11_off 1 = .ok (.iload_n 1, 1) := by decide +kernel
theorem dX11_off_2 : decode cX11_off 2 = .ok (.invokevirtual 51, 3) := by decide +kernel
theorem dX11_off_5 : decode cX11_off 5 = .ok (.ifCond .ne 9, 3) := by decide +kernel
theorem dX11_off_8 : decode cX11_off 8 = .ok (.aload_n 0, 1) := by decide +kernel
theorem dX11_off_9 : decode cX11_off 9 = .ok (.iconst 2, 1) := by decide +kernel
theorem dX11_off_10 : decode cX11_off 10 = .ok (.invokevirtual 294, 3) := by decide +kernel
theorem dX11_off_13 : decode cX11_off 13 = .ok (.ireturn, 1) := by decide +kernel
theorem dX11_off_14 : decode cX11_off 14 = .ok (.aload_n 0, 1) := by decide +kernel
theorem dX11_off_15 : decode cX11_off 15 = .ok (.iload_n 1, 1) := by decide +kernel
theorem dX11_off_16 : decode cX11_off 16 = .ok (.invokevirtual 55, 3) := by decide +kernel
theorem dX11_off_19 : decode cX11_off 19 = .ok (.ifCond .ne 9, 3) := by decide +kernel
theorem dX11_off_22 : decode cX11_off 22 = .ok (.aload_n 0, 1) := by decide +kernel
theorem dX11_off_23 : decode cX11_off 23 = .ok (.iconst 4, 1) := by decide +kernel
theorem dX11_off_24 : decode cX11_off 24 = .ok (.invokevirtual 294, 3) := by decide +kernel
theorem dX11_off_27 : decode cX11_off 27 = .ok (.ireturn, 1) := by decide +kernel
theorem dX11_off_28 : decode cX11_off 28 = .ok (.aload_n 0, 1) := by decide +kernel
theorem dX11_off_29 : decode cX11_off 29 = .ok (.iload_n 1, 1) := by decide +kernel
theorem dX11_off_30 : decode cX11_off 30 = .ok (.invokevirtual 140, 3) := by decide +kernel
theorem dX11_off_33 : decode cX11_off 33 = .ok (.aload_n 0, 1) := by decide +kernel
theorem dX11_off_34 : decode cX11_off 34 = .ok (.invokevirtual 291, 3) := by decide +kernel
theorem dX11_off_37 : decode cX11_off 37 = .ok (.aload_n 0, 1) := by decide +kernel
theorem dX11_off_38 : decode cX11_off 38 = .ok (.iconst 0, 1) := by decide +kernel
theorem dX11_off_39 : decode cX11_off 39 = .ok (.invokevirtual 294, 3) := by decide +kernel
theorem dX11_off_42 : decode cX11_off 42 = .ok (.ireturn, 1) := by decide +kernel
theorem dX11_offPaper_0 : decode cX11_offPaper 0 = .ok (.aload_n 0, 1) := by decide +kernel
theorem dX11_offPaper_1 : decode cX11_offPaper 1 = .ok (.sipush 600, 3) := by decide +kernel
theorem dX11_offPaper_4 : decode cX11_offPaper 4 = .ok (.iconst 0, 1) := by decide +kernel
theorem dX11_offPaper_5 : decode cX11_offPaper 5 = .ok (.invokevirtual 270, 3) := by decide +kernel
theorem dX11_offPaper_8 : decode cX11_offPaper 8 = .ok (.aload_n 0, 1) := by decide +kernel
theorem dX11_offPaper_9 : decode cX11_offPaper 9 = .ok (.iconst 0, 1) := by decide +kernel
theorem dX11_offPaper_10 : decode cX11_offPaper 10 = .ok (.putfield 94, 3) := by decide +kernel
theorem dX11_offPaper_13 : decode cX11_offPaper 13 = .ok (.return_, 1) := by decide +kernel
theorem dX11_on_0 : decode cX11_on 0 = .ok (.aload_n 0, 1) := by decide +kernel
theorem dX11_on_1 : decode cX11_on 1 = .ok (.iload_n 1, 1) := by decide +kernel
theorem dX11_on_2 : decode cX11_on 2 = .ok (.invokevirtual 51, 3) := by decide +kernel
theorem dX11_on_5 : decode cX11_on 5 = .ok (.ifCond .ne 9, 3) := by decide +kernel
theorem dX11_on_8 : decode cX11_on 8 = .ok (.aload_n 0, 1) := by decide +kernel
theorem dX11_on_9 : decode cX11_on 9 = .ok (.iconst 2, 1) := by decide +kernel
theorem dX11_on_10 : decode cX11_on 10 = .ok (.invokevirtual 294, 3) := by decide +kernel
theorem dX11_on_13 : decode cX11_on 13 = .ok (.ireturn, 1) := by decide +kernel
theorem dX11_on_14 : decode cX11_on 14 = .ok (.aload_n 0, 1) := by decide +kernel
theorem dX11_on_15 : decode cX11_on 15 = .ok (.iload_n 1, 1) := by decide +kernel
theorem dX11_on_16 : decode cX11_on 16 = .ok (.invokevirtual 55, 3) := by decide +kernel
theorem dX11_on_19 : decode cX11_on 19 = .ok (.ifCond .eq 9, 3) := by decide +kernel
theorem dX11_on_22 : decode cX11_on 22 = .ok (.aload_n 0, 1) := by decide +kernel
theorem dX11_on_23 : decode cX11_on 23 = .ok (.iconst 4, 1) := by decide +kernel
theorem dX11_on_24 : decode cX11_on 24 = .ok (.invokevirtual 294, 3) := by decide +kernel
theorem dX11_on_27 : decode cX11_on 27 = .ok (.ireturn, 1) := by decide +kernel
theorem dX11_on_28 : decode cX11_on 28 = .ok (.aload_n 0, 1) := by decide +kernel
theorem dX11_on_29 : decode cX11_on 29 = .ok (.bipush 48, 2) := by decide +kernel
theorem dX11_on_31 : decode cX11_on 31 = .ok (.iload_n 1, 1) := by decide +kernel
theorem dX11_on_32 : decode cX11_on 32 = .ok (.iadd, 1) := by decide +kernel
theorem dX11_on_33 : decode cX11_on 33 = .ok (.iconst 1, 1) := by decide +kernel
theorem dX11_on_34 : decode cX11_on 34 = .ok (.invokevirtual 43, 3) := by decide +kernel
theorem dX11_on_37 : decode cX11_on 37 = .ok (.aload_n 0, 1) := by decide +kernel
theorem dX11_on_38 : decode cX11_on 38 = .ok (.bipush 56, 2) := by decide +kernel
theorem dX11_on_40 : decode cX11_on 40 = .ok (.iload_n 1, 1) := by decide +kernel
theorem dX11_on_41 : decode cX11_on 41 = .ok (.iadd, 1) := by decide +kernel
theorem dX11_on_42 : decode cX11_on 42 = .ok (.iconst (-1), 1) := by decide +kernel
theorem dX11_on_43 : decode cX11_on 43 = .ok (.invokevirtual 43, 3) := by decide +kernel
theorem dX11_on_46 : decode cX11_on 46 = .ok (.aload_n 0, 1) := by decide +kernel
theorem dX11_on_47 : decode cX11_on 47 = .ok (.invokevirtual 291, 3) := by decide +kernel
theorem dX11_on_50 : decode cX11_on 50 = .ok (.aload_n 0, 1) := by decide +kernel
theorem dX11_on_51 : decode cX11_on 51 = .ok (.iconst 0, 1) := by decide +kernel
theorem dX11_on_52 : decode cX11_on 52 = .ok (.invokevirtual 294, 3) := by decide +kernel
theorem dX11_on_55 : decode cX11_on 55 = .ok (.ireturn, 1) := by decide +kernel
theorem dX11_onBits_0 : decode cX11_onBits 0 = .ok (.iconst 0, 1) := by decide +kernel
theorem dX11_onBits_1 : decode cX11_onBits 1 = .ok (.istore_n 1, 1) := by decide +kernel
theorem dX11_onBits_2 : decode cX11_onBits 2 = .ok (.iconst 0, 1) := by decide +kernel
theorem dX11_onBits_3 : decode cX11_onBits 3 = .ok (.istore_n 2, 1) := by decide +kernel
theorem dX11_onBits_4 : decode cX11_onBits 4 = .ok (.iload_n 2, 1) := by decide +kernel
theorem dX11_onBits_5 : decode cX11_onBits 5 = .ok (.aload_n 0, 1) := by decide +kernel
theorem dX11_onBits_6 : decode cX11_onBits 6 = .ok (.iconst 0, 1) := by decide +kernel
theorem dX11_onBits_7 : decode cX11_onBits 7 = .ok (.invokevirtual 47, 3) := by decide +kernel
theorem dX11_onBits_10 : decode cX11_onBits 10 = .ok (.if_icmp .ge 22, 3) := by decide +kernel
theorem dX11_onBits_13 : decode cX11_onBits 13 = .ok (.iload_n 1, 1) := by decide +kernel
theorem dX11_onBits_14 : decode cX11_onBits 14 = .ok (.aload_n 0, 1) := by decide +kernel
theorem dX11_onBits_15 : decode cX11_onBits 15 = .ok (.bipush 48, 2) := by decide +kernel
theorem dX11_onBits_17 : decode cX11_onBits 17 = .ok (.iload_n 2, 1) := by decide +kernel
theorem dX11_onBits_18 : decode cX11_onBits 18 = .ok (.iadd, 1) := by decide +kernel
theorem dX11_onBits_19 : decode cX11_onBits 19 = .ok (.invokevirtual 47, 3) := by decide +kernel
theorem dX11_onBits_22 : decode cX11_onBits 22 = .ok (.iload_n 2, 1) := by decide +kernel
theorem dX11_onBits_23 : decode cX11_onBits 23 = .ok (.ishl, 1) := by decide +kernel
theorem dX11_onBits_24 : decode cX11_onBits 24 = .ok (.ior, 1) := by decide +kernel
theorem dX11_onBits_25 : decode cX11_onBits 25 = .ok (.istore_n 1, 1) := by decide +kernel
theorem dX11_onBits_26 : decode cX11_onBits 26 = .ok (.iinc 2 1, 3) := by decide +kernel
theorem dX11_onBits_29 : decode cX11_onBits 29 = .ok (.goto (-25), 3) := by decide +kernel
theorem dX11_onBits_32 : decode cX11_onBits 32 = .ok (.iload_n 1, 1) := by decide +kernel
theorem dX11_onBits_33 : decode cX11_onBits 33 = .ok (.ireturn, 1) := by decide +kernel
theorem dX11_onMany_0 : decode cX11_onMany 0 = .ok (.iconst 0, 1) := by decide +kernel
theorem dX11_onMany_1 : decode cX11_onMany 1 = .ok (.istore_n 1, 1) := by decide +kernel
theorem dX11_onMany_2 : decode cX11_onMany 2 = .ok (.iconst 0, 1) := by decide +kernel
theorem dX11_onMany_3 : decode cX11_onMany 3 = .ok (.istore_n 2, 1) := by decide +kernel
theorem dX11_onMany_4 : decode cX11_onMany 4 = .ok (.iload_n 2, 1) := by decide +kernel
theorem dX11_onMany_5 : decode cX11_onMany 5 = .ok (.aload_n 0, 1) := by decide +kernel
theorem dX11_onMany_6 : decode cX11_onMany 6 = .ok (.iconst 0, 1) := by decide +kernel
theorem dX11_onMany_7 : decode cX11_onMany 7 = .ok (.invokevirtual 47, 3) := by decide +kernel
theorem dX11_onMany_10 : decode cX11_onMany 10 = .ok (.if_icmp .ge 20, 3) := by decide +kernel
theorem dX11_onMany_13 : decode cX11_onMany 13 = .ok (.iload_n 1, 1) := by decide +kernel
theorem dX11_onMany_14 : decode cX11_onMany 14 = .ok (.aload_n 0, 1) := by decide +kernel
theorem dX11_onMany_15 : decode cX11_onMany 15 = .ok (.bipush 48, 2) := by decide +kernel
theorem dX11_onMany_17 : decode cX11_onMany 17 = .ok (.iload_n 2, 1) := by decide +kernel
theorem dX11_onMany_18 : decode cX11_onMany 18 = .ok (.iadd, 1) := by decide +kernel
theorem dX11_onMany_19 : decode cX11_onMany 19 = .ok (.invokevirtual 47, 3) := by decide +kernel
theorem dX11_onMany_22 : decode cX11_onMany 22 = .ok (.iadd, 1) := by decide +kernel
theorem dX11_onMany_23 : decode cX11_onMany 23 = .ok (.istore_n 1, 1) := by decide +kernel
theorem dX11_onMany_24 : decode cX11_onMany 24 = .ok (.iinc 2 1, 3) := by decide +kernel
theorem dX11_onMany_27 : decode cX11_onMany 27 = .ok (.goto (-23), 3) := by decide +kernel
theorem dX11_onMany_30 : decode cX11_onMany 30 = .ok (.iload_n 1, 1) := by decide +kernel
theorem dX11_onMany_31 : decode cX11_onMany 31 = .ok (.ireturn, 1) := by decide +kernel
theorem dX11_onPaper_0 : decode cX11_onPaper 0 = .ok (.aload_n 0, 1) := by decide +kernel
theorem dX11_onPaper_1 : decode cX11_onPaper 1 = .ok (.iconst 0, 1) := by decide +kernel
theorem dX11_onPaper_2 : decode cX11_onPaper 2 = .ok (.sipush 600, 3) := by decide +kernel
theorem dX11_onPaper_5 : decode cX11_onPaper 5 = .ok (.invokevirtual 270, 3) := by decide +kernel
theorem dX11_onPaper_8 : decode cX11_onPaper 8 = .ok (.aload_n 0, 1) := by decide +kernel
theorem dX11_onPaper_9 : decode cX11_onPaper 9 = .ok (.iload_n 1, 1) := by decide +kernel
theorem dX11_onPaper_10 : decode cX11_onPaper 10 = .ok (.putfield 94, 3) := by decide +kernel
theorem dX11_onPaper_13 : decode cX11_onPaper 13 = .ok (.aload_n 0, 1) := by decide +kernel
theorem dX11_onPaper_14 : decode cX11_onPaper 14 = .ok (.iconst 0, 1) := by decide +kernel
theorem dX11_onPaper_15 : decode cX11_onPaper 15 = .ok (.putfield 82, 3) := by decide +kernel
theorem dX11_onPaper_18 : decode cX11_onPaper 18 = .ok (.aload_n 0, 1) := by decide +kernel
theorem dX11_onPaper_19 : decode cX11_onPaper 19 = .ok (.iconst (-1), 1) := by decide +kernel
theorem dX11_onPaper_20 : decode cX11_onPaper 20 = .ok (.putfield 143, 3) := by decide +kernel
theorem dX11_onPaper_23 : decode cX11_onPaper 23 = .ok (.aload_n 0, 1) := by decide +kernel
theorem dX11_onPaper_24 : decode cX11_onPaper 24 = .ok (.iconst 0, 1) := by decide +kernel
theorem dX11_onPaper_25 : decode cX11_onPaper 25 = .ok (.putfield 316, 3) := by decide +kernel
theorem dX11_onPaper_28 : decode cX11_onPaper 28 = .ok (.aload_n 0, 1) := by decide +kernel
theorem dX11_onPaper_29 : decode cX11_onPaper 29 = .ok (.invokevirtual 319, 3) := by decide +kernel
theorem dX11_onPaper_32 : decode cX11_onPaper 32 = .ok (.return_, 1) := by decide +kernel
theorem dX11_peak_0 : decode cX11_peak 0 = .ok (.aload_n 0, 1) := by decide +kernel
theorem dX11_peak_1 : decode cX11_peak 1 = .ok (.iconst 0, 1) := by decide +kernel
theorem dX11_peak_2 : decode cX11_peak 2 = .ok (.iconst 0, 1) := by decide +kernel
theorem dX11_peak_3 : decode cX11_peak 3 = .ok (.invokevirtual 332, 3) := by decide +kernel
theorem dX11_peak_6 : decode cX11_peak 6 = .ok (.istore_n 1, 1) := by decide +kernel
theorem dX11_peak_7 : decode cX11_peak 7 = .ok (.iload_n 1, 1) := by decide +kernel
theorem dX11_peak_8 : decode cX11_peak 8 = .ok (.iconst (-1), 1) := by decide +kernel
theorem dX11_peak_9 : decode cX11_peak 9 = .ok (.if_icmp .ne 12, 3) := by decide +kernel
theorem dX11_peak_12 : decode cX11_peak 12 = .ok (.aload_n 0, 1) := by decide +kernel
theorem dX11_peak_13 : decode cX11_peak 13 = .ok (.bipush 7, 2) := by decide +kernel
theorem dX11_peak_15 : decode cX11_peak 15 = .ok (.invokevirtual 267, 3) := by decide +kernel
theorem dX11_peak_18 : decode cX11_peak 18 = .ok (.goto 11, 3) := by decide +kernel
theorem dX11_peak_21 : decode cX11_peak 21 = .ok (.aload_n 0, 1) := by decide +kernel
theorem dX11_peak_22 : decode cX11_peak 22 = .ok (.aload_n 0, 1) := by decide +kernel
theorem dX11_peak_23 : decode cX11_peak 23 = .ok (.getfield 316, 3) := by decide +kernel
theorem dX11_peak_26 : decode cX11_peak 26 = .ok (.invokevirtual 276, 3) := by decide +kernel
theorem dX11_peak_29 : decode cX11_peak 29 = .ok (.ireturn, 1) := by decide +kernel
theorem dX11_peaks_0 : decode cX11_peaks 0 = .ok (.aload_n 0, 1) := by decide +kernel
theorem dX11_peaks_1 : decode cX11_peaks 1 = .ok (.iconst 5, 1) := by decide +kernel
theorem dX11_peaks_2 : decode cX11_peaks 2 = .ok (.invokevirtual 47, 3) := by decide +kernel
theorem dX11_peaks_5 : decode cX11_peaks 5 = .ok (.ifCond .eq 20, 3) := by decide +kernel
theorem dX11_peaks_8 : decode cX11_peaks 8 = .ok (.aload_n 0, 1) := by decide +kernel
theorem dX11_peaks_9 : decode cX11_peaks 9 = .ok (.aload_n 0, 1) := by decide +kernel
theorem dX11_peaks_10 : decode cX11_peaks 10 = .ok (.getfield 316, 3) := by decide +kernel
theorem dX11_peaks_13 : decode cX11_peaks 13 = .ok (.aload_n 0, 1) := by decide +kernel
theorem dX11_peaks_14 : decode cX11_peaks 14 = .ok (.bipush 7, 2) := by decide +kernel
theorem dX11_peaks_16 : decode cX11_peaks 16 = .ok (.invokevirtual 47, 3) := by decide +kernel
theorem dX11_peaks_19 : decode cX11_peaks 19 = .ok (.invokestatic 86, 3) := by decide +kernel
theorem dX11_peaks_22 : decode cX11_peaks 22 = .ok (.putfield 316, 3) := by decide +kernel
theorem dX11_peaks_25 : decode cX11_peaks 25 = .ok (.return_, 1) := by decide +kernel
theorem dX11_purged_0 : decode cX11_purged 0 = .ok (.aload_n 0, 1) := by decide +kernel
theorem dX11_purged_1 : decode cX11_purged 1 = .ok (.aload_n 0, 1) := by decide +kernel
theorem dX11_purged_2 : decode cX11_purged 2 = .ok (.iconst 3, 1) := by decide +kernel
theorem dX11_purged_3 : decode cX11_purged 3 = .ok (.iconst 0, 1) := by decide +kernel
theorem dX11_purged_4 : decode cX11_purged 4 = .ok (.invokevirtual 332, 3) := by decide +kernel
theorem dX11_purged_7 : decode cX11_purged 7 = .ok (.invokevirtual 336, 3) := by decide +kernel
theorem dX11_purged_10 : decode cX11_purged 10 = .ok (.ireturn, 1) := by decide +kernel
theorem dX11_purges_0 : decode cX11_purges 0 = .ok (.iconst 0, 1) := by decide +kernel
theorem dX11_purges_1 : decode cX11_purges 1 = .ok (.istore_n 1, 1) := by decide +kernel
theorem dX11_purges_2 : decode cX11_purges 2 = .ok (.iload_n 1, 1) := by decide +kernel
theorem dX11_purges_3 : decode cX11_purges 3 = .ok (.aload_n 0, 1) := by decide +kernel
theorem dX11_purges_4 : decode cX11_purges 4 = .ok (.iconst 0, 1) := by decide +kernel
theorem dX11_purges_5 : decode cX11_purges 5 = .ok (.invokevirtual 47, 3) := by decide +kernel
theorem dX11_purges_8 : decode cX11_purges 8 = .ok (.if_icmp .ge 14, 3) := by decide +kernel
theorem dX11_purges_11 : decode cX11_purges 11 = .ok (.aload_n 0, 1) := by decide +kernel
theorem dX11_purges_12 : decode cX11_purges 12 = .ok (.iload_n 1, 1) := by decide +kernel
theorem dX11_purges_13 : decode cX11_purges 13 = .ok (.invokevirtual 75, 3) := by decide +kernel
theorem dX11_purges_16 : decode cX11_purges 16 = .ok (.iinc 1 1, 3) := by decide +kernel
theorem dX11_purges_19 : decode cX11_purges 19 = .ok (.goto (-17), 3) := by decide +kernel
theorem dX11_purges_22 : decode cX11_purges 22 = .ok (.aload_n 0, 1) := by decide +kernel
theorem dX11_purges_23 : decode cX11_purges 23 = .ok (.iconst 5, 1) := by decide +kernel
theorem dX11_purges_24 : decode cX11_purges 24 = .ok (.invokevirtual 47, 3) := by decide +kernel
theorem dX11_purges_27 : decode cX11_purges 27 = .ok (.iconst 2, 1) := by decide +kernel
theorem dX11_purges_28 : decode cX11_purges 28 = .ok (.if_icmp .ne 7, 3) := by decide +kernel
theorem dX11_purges_31 : decode cX11_purges 31 = .ok (.aload_n 0, 1) := by decide +kernel
theorem dX11_purges_32 : decode cX11_purges 32 = .ok (.invokevirtual 79, 3) := by decide +kernel
theorem dX11_purges_35 : decode cX11_purges 35 = .ok (.aload_n 0, 1) := by decide +kernel
theorem dX11_purges_36 : decode cX11_purges 36 = .ok (.iconst 5, 1) := by decide +kernel
theorem dX11_purges_37 : decode cX11_purges 37 = .ok (.iconst 1, 1) := by decide +kernel
theorem dX11_purges_38 : decode cX11_purges 38 = .ok (.invokevirtual 43, 3) := by decide +kernel
theorem dX11_purges_41 : decode cX11_purges 41 = .ok (.aload_n 0, 1) := by decide +kernel
theorem dX11_purges_42 : decode cX11_purges 42 = .ok (.bipush 6, 2) := by decide +kernel
theorem dX11_purges_44 : decode cX11_purges 44 = .ok (.aload_n 0, 1) := by decide +kernel
theorem dX11_purges_45 : decode cX11_purges 45 = .ok (.iconst 1, 1) := by decide +kernel
theorem dX11_purges_46 : decode cX11_purges 46 = .ok (.invokevirtual 47, 3) := by decide +kernel
theorem dX11_purges_49 : decode cX11_purges 49 = .ok (.invokevirtual 43, 3) := by decide +kernel
theorem dX11_purges_52 : decode cX11_purges 52 = .ok (.aload_n 0, 1) := by decide +kernel
theorem dX11_purges_53 : decode cX11_purges 53 = .ok (.bipush 7, 2) := by decide +kernel
theorem dX11_purges_55 : decode cX11_purges 55 = .ok (.iconst 0, 1) := by decide +kernel
theorem dX11_purges_56 : decode cX11_purges 56 = .ok (.invokevirtual 43, 3) := by decide +kernel
theorem dX11_purges_59 : decode cX11_purges 59 = .ok (.aload_n 0, 1) := by decide +kernel
theorem dX11_purges_60 : decode cX11_purges 60 = .ok (.bipush 8, 2) := by decide +kernel
theorem dX11_purges_62 : decode cX11_purges 62 = .ok (.iconst 0, 1) := by decide +kernel
theorem dX11_purges_63 : decode cX11_purges 63 = .ok (.invokevirtual 43, 3) := by decide +kernel
theorem dX11_purges_66 : decode cX11_purges 66 = .ok (.aload_n 0, 1) := by decide +kernel
theorem dX11_purges_67 : decode cX11_purges 67 = .ok (.bipush 9, 2) := by decide +kernel
theorem dX11_purges_69 : decode cX11_purges 69 = .ok (.iconst 0, 1) := by decide +kernel
theorem dX11_purges_70 : decode cX11_purges 70 = .ok (.invokevirtual 43, 3) := by decide +kernel
theorem dX11_purges_73 : decode cX11_purges 73 = .ok (.aload_n 0, 1) := by decide +kernel
theorem dX11_purges_74 : decode cX11_purges 74 = .ok (.bipush 18, 2) := by decide +kernel
theorem dX11_purges_76 : decode cX11_purges 76 = .ok (.iconst 0, 1) := by decide +kernel
theorem dX11_purges_77 : decode cX11_purges 77 = .ok (.invokevirtual 43, 3) := by decide +kernel
theorem dX11_purges_80 : decode cX11_purges 80 = .ok (.aload_n 0, 1) := by decide +kernel
theorem dX11_purges_81 : decode cX11_purges 81 = .ok (.bipush 24, 2) := by decide +kernel
theorem dX11_purges_83 : decode cX11_purges 83 = .ok (.iconst 1, 1) := by decide +kernel
theorem dX11_purges_84 : decode cX11_purges 84 = .ok (.invokevirtual 69, 3) := by decide +kernel
theorem dX11_purges_87 : decode cX11_purges 87 = .ok (.aload_n 0, 1) := by decide +kernel
theorem dX11_purges_88 : decode cX11_purges 88 = .ok (.iconst 3, 1) := by decide +kernel
theorem dX11_purges_89 : decode cX11_purges 89 = .ok (.aload_n 0, 1) := by decide +kernel
theorem dX11_purges_90 : decode cX11_purges 90 = .ok (.iconst 1, 1) := by decide +kernel
theorem dX11_purges_91 : decode cX11_purges 91 = .ok (.invokevirtual 47, 3) := by decide +kernel
theorem dX11_purges_94 : decode cX11_purges 94 = .ok (.invokevirtual 72, 3) := by decide +kernel
theorem dX11_purges_97 : decode cX11_purges 97 = .ok (.aload_n 0, 1) := by decide +kernel
theorem dX11_purges_98 : decode cX11_purges 98 = .ok (.iconst 1, 1) := by decide +kernel
theorem dX11_purges_99 : decode cX11_purges 99 = .ok (.putfield 82, 3) := by decide +kernel
theorem dX11_purges_102 : decode cX11_purges 102 = .ok (.return_, 1) := by decide +kernel
theorem dX11_puts_0 : decode cX11_puts 0 = .ok (.aload_n 0, 1) := by decide +kernel
theorem dX11_puts_1 : decode cX11_puts 1 = .ok (.getfield 7, 3) := by decide +kernel
theorem dX11_puts_4 : decode cX11_puts 4 = .ok (.iload_n 1, 1) := by decide +kernel
theorem dX11_puts_5 : decode cX11_puts 5 = .ok (.iload_n 2, 1) := by decide +kernel
theorem dX11_puts_6 : decode cX11_puts 6 = .ok (.iastore, 1) := by decide +kernel
theorem dX11_puts_7 : decode cX11_puts 7 = .ok (.return_, 1) := by decide +kernel
theorem dX11_quiet_0 : decode cX11_quiet 0 = .ok (.aload_n 0, 1) := by decide +kernel
theorem dX11_quiet_1 : decode cX11_quiet 1 = .ok (.aload_n 0, 1) := by decide +kernel
theorem dX11_quiet_2 : decode cX11_quiet 2 = .ok (.iconst 0, 1) := by decide +kernel
theorem dX11_quiet_3 : decode cX11_quiet 3 = .ok (.iload_n 1, 1) := by decide +kernel
theorem dX11_quiet_4 : decode cX11_quiet 4 = .ok (.invokevirtual 332, 3) := by decide +kernel
theorem dX11_quiet_7 : decode cX11_quiet 7 = .ok (.invokevirtual 336, 3) := by decide +kernel
theorem dX11_quiet_10 : decode cX11_quiet 10 = .ok (.ireturn, 1) := by decide +kernel
theorem dX11_raise_0 : decode cX11_raise 0 = .ok (.iload_n 2, 1) := by decide +kernel
theorem dX11_raise_1 : decode cX11_raise 1 = .ok (.ifCond .lt 12, 3) := by decide +kernel
theorem dX11_raise_4 : decode cX11_raise 4 = .ok (.iload_n 3, 1) := by decide +kernel
theorem dX11_raise_5 : decode cX11_raise 5 = .ok (.iconst 0, 1) := by decide +kernel
theorem dX11_raise_6 : decode cX11_raise 6 = .ok (.iconst 1, 1) := by decide +kernel
theorem dX11_raise_7 : decode cX11_raise 7 = .ok (.invokestatic 228, 3) := by decide +kernel
theorem dX11_raise_10 : decode cX11_raise 10 = .ok (.ifCond .ne 7, 3) := by decide +kernel
theorem dX11_raise_13 : decode cX11_raise 13 = .ok (.iconst 1, 1) := by decide +kernel
theorem dX11_raise_14 : decode cX11_raise 14 = .ok (.goto 8, 3) := by decide +kernel
theorem dX11_raise_17 : decode cX11_raise 17 = .ok (.aload_n 0, 1) := by decide +kernel
theorem dX11_raise_18 : decode cX11_raise 18 = .ok (.iload_n 1, 1) := by decide +kernel
theorem dX11_raise_19 : decode cX11_raise 19 = .ok (.invokevirtual 288, 3) := by decide +kernel
theorem dX11_raise_22 : decode cX11_raise 22 = .ok (.istore 4, 2) := by decide +kernel
theorem dX11_raise_24 : decode cX11_raise 24 = .ok (.iload 4, 2) := by decide +kernel
theorem dX11_raise_26 : decode cX11_raise 26 = .ok (.ifCond .ne 18, 3) := by decide +kernel
theorem dX11_raise_29 : decode cX11_raise 29 = .ok (.iload_n 2, 1) := by decide +kernel
theorem dX11_raise_30 : decode cX11_raise 30 = .ok (.aload_n 0, 1) := by decide +kernel
theorem dX11_raise_31 : decode cX11_raise 31 = .ok (.bipush 88, 2) := by decide +kernel
theorem dX11_raise_33 : decode cX11_raise 33 = .ok (.iload_n 1, 1) := by decide +kernel
theorem dX11_raise_34 : decode cX11_raise 34 = .ok (.iadd, 1) := by decide +kernel
theorem dX11_raise_35 : decode cX11_raise 35 = .ok (.invokevirtual 47, 3) := by decide +kernel
theorem dX11_raise_38 : decode cX11_raise 38 = .ok (.if_icmp .lt 6, 3) := by decide +kernel
theorem dX11_raise_41 : decode cX11_raise 41 = .ok (.iconst 5, 1) := by decide +kernel
theorem dX11_raise_42 : decode cX11_raise 42 = .ok (.istore 4, 2) := by decide +kernel
theorem dX11_raise_44 : decode cX11_raise 44 = .ok (.iload 4, 2) := by decide +kernel
theorem dX11_raise_46 : decode cX11_raise 46 = .ok (.ifCond .le 12, 3) := by decide +kernel
theorem dX11_raise_49 : decode cX11_raise 49 = .ok (.aload_n 0, 1) := by decide +kernel
theorem dX11_raise_50 : decode cX11_raise 50 = .ok (.iload 4, 2) := by decide +kernel
theorem dX11_raise_52 : decode cX11_raise 52 = .ok (.invokevirtual 267, 3) := by decide +kernel
theorem dX11_raise_55 : decode cX11_raise 55 = .ok (.goto 29, 3) := by decide +kernel
theorem dX11_raise_58 : decode cX11_raise 58 = .ok (.aload_n 0, 1) := by decide +kernel
theorem dX11_raise_59 : decode cX11_raise 59 = .ok (.aload_n 0, 1) := by decide +kernel
theorem dX11_raise_60 : decode cX11_raise 60 = .ok (.iload_n 1, 1) := by decide +kernel
theorem dX11_raise_61 : decode cX11_raise 61 = .ok (.aload_n 0, 1) := by decide +kernel
theorem dX11_raise_62 : decode cX11_raise 62 = .ok (.bipush 88, 2) := by decide +kernel
theorem dX11_raise_64 : decode cX11_raise 64 = .ok (.iload_n 1, 1) := by decide +kernel
theorem dX11_raise_65 : decode cX11_raise 65 = .ok (.iadd, 1) := by decide +kernel
theorem dX11_raise_66 : decode cX11_raise 66 = .ok (.invokevirtual 47, 3) := by decide +kernel
theorem dX11_raise_69 : decode cX11_raise 69 = .ok (.iconst 1, 1) := by decide +kernel
theorem dX11_raise_70 : decode cX11_raise 70 = .ok (.isub, 1) := by decide +kernel
theorem dX11_raise_71 : decode cX11_raise 71 = .ok (.iload_n 2, 1) := by decide +kernel
theorem dX11_raise_72 : decode cX11_raise 72 = .ok (.isub, 1) := by decide +kernel
theorem dX11_raise_73 : decode cX11_raise 73 = .ok (.invokestatic 91, 3) := by decide +kernel
theorem dX11_raise_76 : decode cX11_raise 76 = .ok (.iload_n 3, 1) := by decide +kernel
theorem dX11_raise_77 : decode cX11_raise 77 = .ok (.iadd, 1) := by decide +kernel
theorem dX11_raise_78 : decode cX11_raise 78 = .ok (.invokevirtual 47, 3) := by decide +kernel
theorem dX11_raise_81 : decode cX11_raise 81 = .ok (.invokevirtual 276, 3) := by decide +kernel
theorem dX11_raise_84 : decode cX11_raise 84 = .ok (.ireturn, 1) := by decide +kernel
theorem dX11_raiseAt_0 : decode cX11_raiseAt 0 = .ok (.sipush 288, 3) := by decide +kernel
theorem dX11_raiseAt_3 : decode cX11_raiseAt 3 = .ok (.iconst 2, 1) := by decide +kernel
theorem dX11_raiseAt_4 : decode cX11_raiseAt 4 = .ok (.bipush 8, 2) := by decide +kernel
theorem dX11_raiseAt_6 : decode cX11_raiseAt 6 = .ok (.iload_n 0, 1) := by decide +kernel
theorem dX11_raiseAt_7 : decode cX11_raiseAt 7 = .ok (.imul, 1) := by decide +kernel
theorem dX11_raiseAt_8 : decode cX11_raiseAt 8 = .ok (.iload_n 1, 1) := by decide +kernel
theorem dX11_raiseAt_9 : decode cX11_raiseAt 9 = .ok (.iadd, 1) := by decide +kernel
theorem dX11_raiseAt_10 : decode cX11_raiseAt 10 = .ok (.imul, 1) := by decide +kernel
theorem dX11_raiseAt_11 : decode cX11_raiseAt 11 = .ok (.iadd, 1) := by decide +kernel
theorem dX11_raiseAt_12 : decode cX11_raiseAt 12 = .ok (.ireturn, 1) := by decide +kernel
theorem dX11_ranks_0 : decode cX11_ranks 0 = .ok (.iload_n 1, 1) := by decide +kernel
theorem dX11_ranks_1 : decode cX11_ranks 1 = .ok (.iconst 0, 1) := by decide +kernel
theorem dX11_ranks_2 : decode cX11_ranks 2 = .ok (.bipush 7, 2) := by decide +kernel
theorem dX11_ranks_4 : decode cX11_ranks 4 = .ok (.invokestatic 228, 3) := by decide +kernel
theorem dX11_ranks_7 : decode cX11_ranks 7 = .ok (.ifCond .eq 12, 3) := by decide +kernel
theorem dX11_ranks_10 : decode cX11_ranks 10 = .ok (.iload_n 2, 1) := by decide +kernel
theorem dX11_ranks_11 : decode cX11_ranks 11 = .ok (.iconst 0, 1) := by decide +kernel
theorem dX11_ranks_12 : decode cX11_ranks 12 = .ok (.iconst 2, 1) := by decide +kernel
theorem dX11_ranks_13 : decode cX11_ranks 13 = .ok (.invokestatic 228, 3) := by decide +kernel
theorem dX11_ranks_16 : decode cX11_ranks 16 = .ok (.ifCond .ne 9, 3) := by decide +kernel
theorem dX11_ranks_19 : decode cX11_ranks 19 = .ok (.aload_n 0, 1) := by decide +kernel
theorem dX11_ranks_20 : decode cX11_ranks 20 = .ok (.iconst 1, 1) := by decide +kernel
theorem dX11_ranks_21 : decode cX11_ranks 21 = .ok (.invokevirtual 267, 3) := by decide +kernel
theorem dX11_ranks_24 : decode cX11_ranks 24 = .ok (.ireturn, 1) := by decide +kernel
theorem dX11_ranks_25 : decode cX11_ranks 25 = .ok (.iload_n 2, 1) := by decide +kernel
theorem dX11_ranks_26 : decode cX11_ranks 26 = .ok (.ifCond .le 24, 3) := by decide +kernel
theorem dX11_ranks_29 : decode cX11_ranks 29 = .ok (.aload_n 0, 1) := by decide +kernel
theorem dX11_ranks_30 : decode cX11_ranks 30 = .ok (.aload_n 0, 1) := by decide +kernel
theorem dX11_ranks_31 : decode cX11_ranks 31 = .ok (.sipush 584, 3) := by decide +kernel
theorem dX11_ranks_34 : decode cX11_ranks 34 = .ok (.bipush 8, 2) := by decide +kernel
theorem dX11_ranks_36 : decode cX11_ranks 36 = .ok (.iload_n 2, 1) := by decide +kernel
theorem dX11_ranks_37 : decode cX11_ranks 37 = .ok (.iconst 1, 1) := by decide +kernel
theorem dX11_ranks_38 : decode cX11_ranks 38 = .ok (.isub, 1) := by decide +kernel
theorem dX11_ranks_39 : decode cX11_ranks 39 = .ok (.imul, 1) := by decide +kernel
theorem dX11_ranks_40 : decode cX11_ranks 40 = .ok (.iadd, 1) := by decide +kernel
theorem dX11_ranks_41 : decode cX11_ranks 41 = .ok (.iload_n 1, 1) := by decide +kernel
theorem dX11_ranks_42 : decode cX11_ranks 42 = .ok (.iadd, 1) := by decide +kernel
theorem dX11_ranks_43 : decode cX11_ranks 43 = .ok (.invokevirtual 47, 3) := by decide +kernel
theorem dX11_ranks_46 : decode cX11_ranks 46 = .ok (.invokevirtual 276, 3) := by decide +kernel
theorem dX11_ranks_49 : decode cX11_ranks 49 = .ok (.ireturn, 1) := by decide +kernel
theorem dX11_ranks_50 : decode cX11_ranks 50 = .ok (.iconst 0, 1) := by decide +kernel
theorem dX11_ranks_51 : decode cX11_ranks 51 = .ok (.istore_n 3, 1) := by decide +kernel
theorem dX11_ranks_52 : decode cX11_ranks 52 = .ok (.iconst 0, 1) := by decide +kernel
theorem dX11_ranks_53 : decode cX11_ranks 53 = .ok (.istore 4, 2) := by decide +kernel
theorem dX11_ranks_55 : decode cX11_ranks 55 = .ok (.iload 4, 2) := by decide +kernel
theorem dX11_ranks_57 : decode cX11_ranks 57 = .ok (.aload_n 0, 1) := by decide +kernel
theorem dX11_ranks_58 : decode cX11_ranks 58 = .ok (.iconst 0, 1) := by decide +kernel
theorem dX11_ranks_59 : decode cX11_ranks 59 = .ok (.invokevirtual 47, 3) := by decide +kernel
theorem dX11_ranks_62 : decode cX11_ranks 62 = .ok (.if_icmp .ge 57, 3) := by decide +kernel
theorem dX11_ranks_65 : decode cX11_ranks 65 = .ok (.iconst 0, 1) := by decide +kernel
theorem dX11_ranks_66 : decode cX11_ranks 66 = .ok (.istore 5, 2) := by decide +kernel
theorem dX11_ranks_68 : decode cX11_ranks 68 = .ok (.iload 5, 2) := by decide +kernel
theorem dX11_ranks_70 : decode cX11_ranks 70 = .ok (.aload_n 0, 1) := by decide +kernel
theorem dX11_ranks_71 : decode cX11_ranks 71 = .ok (.bipush 80, 2) := by decide +kernel
theorem dX11_ranks_73 : decode cX11_ranks 73 = .ok (.iload 4, 2) := by decide +kernel
theorem dX11_ranks_75 : decode cX11_ranks 75 = .ok (.iadd, 1) := by decide +kernel
theorem dX11_ranks_76 : decode cX11_ranks 76 = .ok (.invokevirtual 47, 3) := by decide +kernel
theorem dX11_ranks_79 : decode cX11_ranks 79 = .ok (.if_icmp .ge 34, 3) := by decide +kernel
theorem dX11_ranks_82 : decode cX11_ranks 82 = .ok (.iload_n 3, 1) := by decide +kernel
theorem dX11_ranks_83 : decode cX11_ranks 83 = .ok (.aload_n 0, 1) := by decide +kernel
theorem dX11_ranks_84 : decode cX11_ranks 84 = .ok (.iload 4, 2) := by decide +kernel
theorem dX11_ranks_86 : decode cX11_ranks 86 = .ok (.iload 5, 2) := by decide +kernel
theorem dX11_ranks_88 : decode cX11_ranks 88 = .ok (.invokestatic 62, 3) := by decide +kernel
theorem dX11_ranks_91 : decode cX11_ranks 91 = .ok (.iconst 2, 1) := by decide +kernel
theorem dX11_ranks_92 : decode cX11_ranks 92 = .ok (.iadd, 1) := by decide +kernel
theorem dX11_ranks_93 : decode cX11_ranks 93 = .ok (.invokevirtual 47, 3) := by decide +kernel
theorem dX11_ranks_96 : decode cX11_ranks 96 = .ok (.iload_n 1, 1) := by decide +kernel
theorem dX11_ranks_97 : decode cX11_ranks 97 = .ok (.if_icmp .ne 7, 3) := by decide +kernel
theorem dX11_ranks_100 : decode cX11_ranks 100 = .ok (.iconst 1, 1) := by decide +kernel
theorem dX11_ranks_101 : decode cX11_ranks 101 = .ok (.goto 4, 3) := by decide +kernel
theorem dX11_ranks_104 : decode cX11_ranks 104 = .ok (.iconst 0, 1) := by decide +kernel
theorem dX11_ranks_105 : decode cX11_ranks 105 = .ok (.iadd, 1) := by decide +kernel
theorem dX11_ranks_106 : decode cX11_ranks 106 = .ok (.istore_n 3, 1) := by decide +kernel
theorem dX11_ranks_107 : decode cX11_ranks 107 = .ok (.iinc 5 1, 3) := by decide +kernel
theorem dX11_ranks_110 : decode cX11_ranks 110 = .ok (.goto (-42), 3) := by decide +kernel
theorem dX11_ranks_113 : decode cX11_ranks 113 = .ok (.iinc 4 1, 3) := by decide +kernel
theorem dX11_ranks_116 : decode cX11_ranks 116 = .ok (.goto (-61), 3) := by decide +kernel
theorem dX11_ranks_119 : decode cX11_ranks 119 = .ok (.aload_n 0, 1) := by decide +kernel
theorem dX11_ranks_120 : decode cX11_ranks 120 = .ok (.iload_n 3, 1) := by decide +kernel
theorem dX11_ranks_121 : decode cX11_ranks 121 = .ok (.invokevirtual 276, 3) := by decide +kernel
theorem dX11_ranks_124 : decode cX11_ranks 124 = .ok (.ireturn, 1) := by decide +kernel
theorem dX11_reaches_0 : decode cX11_reaches 0 = .ok (.aload_n 0, 1) := by decide +kernel
theorem dX11_reaches_1 : decode cX11_reaches 1 = .ok (.iload_n 2, 1) := by decide +kernel
theorem dX11_reaches_2 : decode cX11_reaches 2 = .ok (.invokevirtual 322, 3) := by decide +kernel
theorem dX11_reaches_5 : decode cX11_reaches 5 = .ok (.iconst 0, 1) := by decide +kernel
theorem dX11_reaches_6 : decode cX11_reaches 6 = .ok (.istore_n 3, 1) := by decide +kernel
theorem dX11_reaches_7 : decode cX11_reaches 7 = .ok (.iload_n 3, 1) := by decide +kernel
theorem dX11_reaches_8 : decode cX11_reaches 8 = .ok (.sipush 3000, 3) := by decide +kernel
theorem dX11_reaches_11 : decode cX11_reaches 11 = .ok (.if_icmp .ge 25, 3) := by decide +kernel
theorem dX11_reaches_14 : decode cX11_reaches 14 = .ok (.aload_n 0, 1) := by decide +kernel
theorem dX11_reaches_15 : decode cX11_reaches 15 = .ok (.iload_n 1, 1) := by decide +kernel
theorem dX11_reaches_16 : decode cX11_reaches 16 = .ok (.invokevirtual 326, 3) := by decide +kernel
theorem dX11_reaches_19 : decode cX11_reaches 19 = .ok (.ifCond .ne 17, 3) := by decide +kernel
theorem dX11_reaches_22 : decode cX11_reaches 22 = .ok (.aload_n 0, 1) := by decide +kernel
theorem dX11_reaches_23 : decode cX11_reaches 23 = .ok (.invokevirtual 297, 3) := by decide +kernel
theorem dX11_reaches_26 : decode cX11_reaches 26 = .ok (.aload_n 0, 1) := by decide +kernel
theorem dX11_reaches_27 : decode cX11_reaches 27 = .ok (.invokevirtual 319, 3) := by decide +kernel
theorem dX11_reaches_30 : decode cX11_reaches 30 = .ok (.iinc 3 1, 3) := by decide +kernel
theorem dX11_reaches_33 : decode cX11_reaches 33 = .ok (.goto (-26), 3) := by decide +kernel
theorem dX11_reaches_36 : decode cX11_reaches 36 = .ok (.aload_n 0, 1) := by decide +kernel
theorem dX11_reaches_37 : decode cX11_reaches 37 = .ok (.iload_n 1, 1) := by decide +kernel
theorem dX11_reaches_38 : decode cX11_reaches 38 = .ok (.invokevirtual 326, 3) := by decide +kernel
theorem dX11_reaches_41 : decode cX11_reaches 41 = .ok (.istore 4, 2) := by decide +kernel
theorem dX11_reaches_43 : decode cX11_reaches 43 = .ok (.aload_n 0, 1) := by decide +kernel
theorem dX11_reaches_44 : decode cX11_reaches 44 = .ok (.invokevirtual 329, 3) := by decide +kernel
theorem dX11_reaches_47 : decode cX11_reaches 47 = .ok (.iload 4, 2) := by decide +kernel
theorem dX11_reaches_49 : decode cX11_reaches 49 = .ok (.ifCond .eq 7, 3) := by decide +kernel
theorem dX11_reaches_52 : decode cX11_reaches 52 = .ok (.iload_n 3, 1) := by decide +kernel
theorem dX11_reaches_53 : decode cX11_reaches 53 = .ok (.goto 4, 3) := by decide +kernel
theorem dX11_reaches_56 : decode cX11_reaches 56 = .ok (.iconst (-1), 1) := by decide +kernel
theorem dX11_reaches_57 : decode cX11_reaches 57 = .ok (.ireturn, 1) := by decide +kernel
theorem dX11_refuse_0 : decode cX11_refuse 0 = .ok (.aload_n 0, 1) := by decide +kernel
theorem dX11_refuse_1 : decode cX11_refuse 1 = .ok (.iload_n 1, 1) := by decide +kernel
theorem dX11_refuse_2 : decode cX11_refuse 2 = .ok (.putfield 40, 3) := by decide +kernel
theorem dX11_refuse_5 : decode cX11_refuse 5 = .ok (.iconst (-1), 1) := by decide +kernel
theorem dX11_refuse_6 : decode cX11_refuse 6 = .ok (.ireturn, 1) := by decide +kernel
theorem dX11_run_0 : decode cX11_run 0 = .ok (.iload_n 1, 1) := by decide +kernel
theorem dX11_run_1 : decode cX11_run 1 = .ok (.iconst 1, 1) := by decide +kernel
theorem dX11_run_2 : decode cX11_run 2 = .ok (.sipush 500, 3) := by decide +kernel
theorem dX11_run_5 : decode cX11_run 5 = .ok (.invokestatic 228, 3) := by decide +kernel
theorem dX11_run_8 : decode cX11_run 8 = .ok (.ifCond .eq 24, 3) := by decide +kernel
theorem dX11_run_11 : decode cX11_run 11 = .ok (.iload_n 2, 1) := by decide +kernel
theorem dX11_run_12 : decode cX11_run 12 = .ok (.iconst 0, 1) := by decide +kernel
theorem dX11_run_13 : decode cX11_run 13 = .ok (.sipush 9999, 3) := by decide +kernel
theorem dX11_run_16 : decode cX11_run 16 = .ok (.invokestatic 228, 3) := by decide +kernel
theorem dX11_run_19 : decode cX11_run 19 = .ok (.ifCond .eq 13, 3) := by decide +kernel
theorem dX11_run_22 : decode cX11_run 22 = .ok (.iload_n 3, 1) := by decide +kernel
theorem dX11_run_23 : decode cX11_run 23 = .ok (.iconst 0, 1) := by decide +kernel
theorem dX11_run_24 : decode cX11_run 24 = .ok (.bipush 16, 2) := by decide +kernel
theorem dX11_run_26 : decode cX11_run 26 = .ok (.invokestatic 228, 3) := by decide +kernel
theorem dX11_run_29 : decode cX11_run 29 = .ok (.ifCond .ne 9, 3) := by decide +kernel
theorem dX11_run_32 : decode cX11_run 32 = .ok (.aload_n 0, 1) := by decide +kernel
theorem dX11_run_33 : decode cX11_run 33 = .ok (.iconst 1, 1) := by decide +kernel
theorem dX11_run_34 : decode cX11_run 34 = .ok (.invokevirtual 267, 3) := by decide +kernel
theorem dX11_run_37 : decode cX11_run 37 = .ok (.ireturn, 1) := by decide +kernel
theorem dX11_run_38 : decode cX11_run 38 = .ok (.iconst 0, 1) := by decide +kernel
theorem dX11_run_39 : decode cX11_run 39 = .ok (.istore 4, 2) := by decide +kernel
theorem dX11_run_41 : decode cX11_run 41 = .ok (.aload_n 0, 1) := by decide +kernel
theorem dX11_run_42 : decode cX11_run 42 = .ok (.iload_n 2, 1) := by decide +kernel
theorem dX11_run_43 : decode cX11_run 43 = .ok (.putfield 300, 3) := by decide +kernel
theorem dX11_run_46 : decode cX11_run 46 = .ok (.iconst 0, 1) := by decide +kernel
theorem dX11_run_47 : decode cX11_run 47 = .ok (.istore 5, 2) := by decide +kernel
theorem dX11_run_49 : decode cX11_run 49 = .ok (.iload 5, 2) := by decide +kernel
theorem dX11_run_51 : decode cX11_run 51 = .ok (.iload_n 1, 1) := by decide +kernel
theorem dX11_run_52 : decode cX11_run 52 = .ok (.if_icmp .ge 36, 3) := by decide +kernel
theorem dX11_run_55 : decode cX11_run 55 = .ok (.aload_n 0, 1) := by decide +kernel
theorem dX11_run_56 : decode cX11_run 56 = .ok (.iload_n 3, 1) := by decide +kernel
theorem dX11_run_57 : decode cX11_run 57 = .ok (.invokevirtual 307, 3) := by decide +kernel
theorem dX11_run_60 : decode cX11_run 60 = .ok (.aload_n 0, 1) := by decide +kernel
theorem dX11_run_61 : decode cX11_run 61 = .ok (.invokevirtual 297, 3) := by decide +kernel
theorem dX11_run_64 : decode cX11_run 64 = .ok (.iload 4, 2) := by decide +kernel
theorem dX11_run_66 : decode cX11_run 66 = .ok (.aload_n 0, 1) := by decide +kernel
theorem dX11_run_67 : decode cX11_run 67 = .ok (.getfield 112, 3) := by decide +kernel
theorem dX11_run_70 : decode cX11_run 70 = .ok (.iconst (-1), 1) := by decide +kernel
theorem dX11_run_71 : decode cX11_run 71 = .ok (.if_icmp .ne 7, 3) := by decide +kernel
theorem dX11_run_74 : decode cX11_run 74 = .ok (.iconst 0, 1) := by decide +kernel
theorem dX11_run_75 : decode cX11_run 75 = .ok (.goto 4, 3) := by decide +kernel
theorem dX11_run_78 : decode cX11_run 78 = .ok (.iconst 1, 1) := by decide +kernel
theorem dX11_run_79 : decode cX11_run 79 = .ok (.iadd, 1) := by decide +kernel
theorem dX11_run_80 : decode cX11_run 80 = .ok (.istore 4, 2) := by decide +kernel
theorem dX11_run_82 : decode cX11_run 82 = .ok (.iinc 5 1, 3) := by decide +kernel
theorem dX11_run_85 : decode cX11_run 85 = .ok (.goto (-36), 3) := by decide +kernel
theorem dX11_run_88 : decode cX11_run 88 = .ok (.aload_n 0, 1) := by decide +kernel
theorem dX11_run_89 : decode cX11_run 89 = .ok (.iload 4, 2) := by decide +kernel
theorem dX11_run_91 : decode cX11_run 91 = .ok (.invokevirtual 276, 3) := by decide +kernel
theorem dX11_run_94 : decode cX11_run 94 = .ok (.ireturn, 1) := by decide +kernel
theorem dX11_send_0 : decode cX11_send 0 = .ok (.iload_n 3, 1) := by decide +kernel
theorem dX11_send_1 : decode cX11_send 1 = .ok (.iconst 0, 1) := by decide +kernel
theorem dX11_send_2 : decode cX11_send 2 = .ok (.bipush 7, 2) := by decide +kernel
theorem dX11_send_4 : decode cX11_send 4 = .ok (.invokestatic 228, 3) := by decide +kernel
theorem dX11_send_7 : decode cX11_send 7 = .ok (.ifCond .ne 9, 3) := by decide +kernel
theorem dX11_send_10 : decode cX11_send 10 = .ok (.aload_n 0, 1) := by decide +kernel
theorem dX11_send_11 : decode cX11_send 11 = .ok (.iconst 1, 1) := by decide +kernel
theorem dX11_send_12 : decode cX11_send 12 = .ok (.invokevirtual 267, 3) := by decide +kernel
theorem dX11_send_15 : decode cX11_send 15 = .ok (.ireturn, 1) := by decide +kernel
theorem dX11_send_16 : decode cX11_send 16 = .ok (.aload_n 0, 1) := by decide +kernel
theorem dX11_send_17 : decode cX11_send 17 = .ok (.iload_n 1, 1) := by decide +kernel
theorem dX11_send_18 : decode cX11_send 18 = .ok (.invokevirtual 51, 3) := by decide +kernel
theorem dX11_send_21 : decode cX11_send 21 = .ok (.ifCond .eq 11, 3) := by decide +kernel
theorem dX11_send_24 : decode cX11_send 24 = .ok (.aload_n 0, 1) := by decide +kernel
theorem dX11_send_25 : decode cX11_send 25 = .ok (.iload_n 2, 1) := by decide +kernel
theorem dX11_send_26 : decode cX11_send 26 = .ok (.invokevirtual 51, 3) := by decide +kernel
theorem dX11_send_29 : decode cX11_send 29 = .ok (.ifCond .ne 9, 3) := by decide +kernel
theorem dX11_send_32 : decode cX11_send 32 = .ok (.aload_n 0, 1) := by decide +kernel
theorem dX11_send_33 : decode cX11_send 33 = .ok (.iconst 2, 1) := by decide +kernel
theorem dX11_send_34 : decode cX11_send 34 = .ok (.invokevirtual 267, 3) := by decide +kernel
theorem dX11_send_37 : decode cX11_send 37 = .ok (.ireturn, 1) := by decide +kernel
theorem dX11_send_38 : decode cX11_send 38 = .ok (.aload_n 0, 1) := by decide +kernel
theorem dX11_send_39 : decode cX11_send 39 = .ok (.bipush 80, 2) := by decide +kernel
theorem dX11_send_41 : decode cX11_send 41 = .ok (.iload_n 1, 1) := by decide +kernel
theorem dX11_send_42 : decode cX11_send 42 = .ok (.iadd, 1) := by decide +kernel
theorem dX11_send_43 : decode cX11_send 43 = .ok (.invokevirtual 47, 3) := by decide +kernel
theorem dX11_send_46 : decode cX11_send 46 = .ok (.bipush 6, 2) := by decide +kernel
theorem dX11_send_48 : decode cX11_send 48 = .ok (.if_icmp .ne 9, 3) := by decide +kernel
theorem dX11_send_51 : decode cX11_send 51 = .ok (.aload_n 0, 1) := by decide +kernel
theorem dX11_send_52 : decode cX11_send 52 = .ok (.iconst 3, 1) := by decide +kernel
theorem dX11_send_53 : decode cX11_send 53 = .ok (.invokevirtual 267, 3) := by decide +kernel
theorem dX11_send_56 : decode cX11_send 56 = .ok (.ireturn, 1) := by decide +kernel
theorem dX11_send_57 : decode cX11_send 57 = .ok (.iload_n 1, 1) := by decide +kernel
theorem dX11_send_58 : decode cX11_send 58 = .ok (.iload_n 2, 1) := by decide +kernel
theorem dX11_send_59 : decode cX11_send 59 = .ok (.if_icmp .ne 12, 3) := by decide +kernel
theorem dX11_send_62 : decode cX11_send 62 = .ok (.aload_n 0, 1) := by decide +kernel
theorem dX11_send_63 : decode cX11_send 63 = .ok (.bipush 8, 2) := by decide +kernel
theorem dX11_send_65 : decode cX11_send 65 = .ok (.invokevirtual 267, 3) := by decide +kernel
theorem dX11_send_68 : decode cX11_send 68 = .ok (.goto 14, 3) := by decide +kernel
theorem dX11_send_71 : decode cX11_send 71 = .ok (.aload_n 0, 1) := by decide +kernel
theorem dX11_send_72 : decode cX11_send 72 = .ok (.aload_n 0, 1) := by decide +kernel
theorem dX11_send_73 : decode cX11_send 73 = .ok (.iload_n 1, 1) := by decide +kernel
theorem dX11_send_74 : decode cX11_send 74 = .ok (.iload_n 2, 1) := by decide +kernel
theorem dX11_send_75 : decode cX11_send 75 = .ok (.iload_n 3, 1) := by decide +kernel
theorem dX11_send_76 : decode cX11_send 76 = .ok (.invokevirtual 247, 3) := by decide +kernel
theorem dX11_send_79 : decode cX11_send 79 = .ok (.invokevirtual 276, 3) := by decide +kernel
theorem dX11_send_82 : decode cX11_send 82 = .ok (.ireturn, 1) := by decide +kernel
theorem dX11_sends_0 : decode cX11_sends 0 = .ok (.iload_n 1, 1) := by decide +kernel
theorem dX11_sends_1 : decode cX11_sends 1 = .ok (.aload_n 0, 1) := by decide +kernel
theorem dX11_sends_2 : decode cX11_sends 2 = .ok (.bipush 80, 2) := by decide +kernel
theorem dX11_sends_4 : decode cX11_sends 4 = .ok (.iload_n 1, 1) := by decide +kernel
theorem dX11_sends_5 : decode cX11_sends 5 = .ok (.iadd, 1) := by decide +kernel
theorem dX11_sends_6 : decode cX11_sends 6 = .ok (.invokevirtual 47, 3) := by decide +kernel
theorem dX11_sends_9 : decode cX11_sends 9 = .ok (.invokestatic 62, 3) := by decide +kernel
theorem dX11_sends_12 : decode cX11_sends 12 = .ok (.istore 4, 2) := by decide +kernel
theorem dX11_sends_14 : decode cX11_sends 14 = .ok (.aload_n 0, 1) := by decide +kernel
theorem dX11_sends_15 : decode cX11_sends 15 = .ok (.iload 4, 2) := by decide +kernel
theorem dX11_sends_17 : decode cX11_sends 17 = .ok (.aload_n 0, 1) := by decide +kernel
theorem dX11_sends_18 : decode cX11_sends 18 = .ok (.iconst 2, 1) := by decide +kernel
theorem dX11_sends_19 : decode cX11_sends 19 = .ok (.invokevirtual 47, 3) := by decide +kernel
theorem dX11_sends_22 : decode cX11_sends 22 = .ok (.invokevirtual 43, 3) := by decide +kernel
theorem dX11_sends_25 : decode cX11_sends 25 = .ok (.aload_n 0, 1) := by decide +kernel
theorem dX11_sends_26 : decode cX11_sends 26 = .ok (.iload 4, 2) := by decide +kernel
theorem dX11_sends_28 : decode cX11_sends 28 = .ok (.iconst 1, 1) := by decide +kernel
theorem dX11_sends_29 : decode cX11_sends 29 = .ok (.iadd, 1) := by decide +kernel
theorem dX11_sends_30 : decode cX11_sends 30 = .ok (.iload_n 2, 1) := by decide +kernel
theorem dX11_sends_31 : decode cX11_sends 31 = .ok (.invokevirtual 43, 3) := by decide +kernel
theorem dX11_sends_34 : decode cX11_sends 34 = .ok (.aload_n 0, 1) := by decide +kernel
theorem dX11_sends_35 : decode cX11_sends 35 = .ok (.iload 4, 2) := by decide +kernel
theorem dX11_sends_37 : decode cX11_sends 37 = .ok (.iconst 2, 1) := by decide +kernel
theorem dX11_sends_38 : decode cX11_sends 38 = .ok (.iadd, 1) := by decide +kernel
theorem dX11_sends_39 : decode cX11_sends 39 = .ok (.iload_n 3, 1) := by decide +kernel
theorem dX11_sends_40 : decode cX11_sends 40 = .ok (.invokevirtual 43, 3) := by decide +kernel
theorem dX11_sends_43 : decode cX11_sends 43 = .ok (.aload_n 0, 1) := by decide +kernel
theorem dX11_sends_44 : decode cX11_sends 44 = .ok (.iload 4, 2) := by decide +kernel
theorem dX11_sends_46 : decode cX11_sends 46 = .ok (.iconst 3, 1) := by decide +kernel
theorem dX11_sends_47 : decode cX11_sends 47 = .ok (.iadd, 1) := by decide +kernel
theorem dX11_sends_48 : decode cX11_sends 48 = .ok (.aload_n 0, 1) := by decide +kernel
theorem dX11_sends_49 : decode cX11_sends 49 = .ok (.iconst 3, 1) := by decide +kernel
theorem dX11_sends_50 : decode cX11_sends 50 = .ok (.invokevirtual 47, 3) := by decide +kernel
theorem dX11_sends_53 : decode cX11_sends 53 = .ok (.invokevirtual 43, 3) := by decide +kernel
theorem dX11_sends_56 : decode cX11_sends 56 = .ok (.aload_n 0, 1) := by decide +kernel
theorem dX11_sends_57 : decode cX11_sends 57 = .ok (.bipush 80, 2) := by decide +kernel
theorem dX11_sends_59 : decode cX11_sends 59 = .ok (.iload_n 1, 1) := by decide +kernel
theorem dX11_sends_60 : decode cX11_sends 60 = .ok (.iadd, 1) := by decide +kernel
theorem dX11_sends_61 : decode cX11_sends 61 = .ok (.iconst 1, 1) := by decide +kernel
theorem dX11_sends_62 : decode cX11_sends 62 = .ok (.invokevirtual 69, 3) := by decide +kernel
theorem dX11_sends_65 : decode cX11_sends 65 = .ok (.aload_n 0, 1) := by decide +kernel
theorem dX11_sends_66 : decode cX11_sends 66 = .ok (.iconst 2, 1) := by decide +kernel
theorem dX11_sends_67 : decode cX11_sends 67 = .ok (.iconst 1, 1) := by decide +kernel
theorem dX11_sends_68 : decode cX11_sends 68 = .ok (.invokevirtual 69, 3) := by decide +kernel
theorem dX11_sends_71 : decode cX11_sends 71 = .ok (.aload_n 0, 1) := by decide +kernel
theorem dX11_sends_72 : decode cX11_sends 72 = .ok (.iconst 2, 1) := by decide +kernel
theorem dX11_sends_73 : decode cX11_sends 73 = .ok (.invokevirtual 47, 3) := by decide +kernel
theorem dX11_sends_76 : decode cX11_sends 76 = .ok (.iconst 1, 1) := by decide +kernel
theorem dX11_sends_77 : decode cX11_sends 77 = .ok (.isub, 1) := by decide +kernel
theorem dX11_sends_78 : decode cX11_sends 78 = .ok (.ireturn, 1) := by decide +kernel
theorem dX11_shed_0 : decode cX11_shed 0 = .ok (.iload_n 2, 1) := by decide +kernel
theorem dX11_shed_1 : decode cX11_shed 1 = .ok (.iconst 0, 1) := by decide +kernel
theorem dX11_shed_2 : decode cX11_shed 2 = .ok (.bipush 8, 2) := by decide +kernel
theorem dX11_shed_4 : decode cX11_shed 4 = .ok (.invokestatic 228, 3) := by decide +kernel
theorem dX11_shed_7 : decode cX11_shed 7 = .ok (.ifCond .ne 7, 3) := by decide +kernel
theorem dX11_shed_10 : decode cX11_shed 10 = .ok (.iconst 1, 1) := by decide +kernel
theorem dX11_shed_11 : decode cX11_shed 11 = .ok (.goto 8, 3) := by decide +kernel
theorem dX11_shed_14 : decode cX11_shed 14 = .ok (.aload_n 0, 1) := by decide +kernel
theorem dX11_shed_15 : decode cX11_shed 15 = .ok (.iload_n 1, 1) := by decide +kernel
theorem dX11_shed_16 : decode cX11_shed 16 = .ok (.invokevirtual 288, 3) := by decide +kernel
theorem dX11_shed_19 : decode cX11_shed 19 = .ok (.istore_n 3, 1) := by decide +kernel
theorem dX11_shed_20 : decode cX11_shed 20 = .ok (.iload_n 3, 1) := by decide +kernel
theorem dX11_shed_21 : decode cX11_shed 21 = .ok (.ifCond .le 9, 3) := by decide +kernel
theorem dX11_shed_24 : decode cX11_shed 24 = .ok (.aload_n 0, 1) := by decide +kernel
theorem dX11_shed_25 : decode cX11_shed 25 = .ok (.iload_n 3, 1) := by decide +kernel
theorem dX11_shed_26 : decode cX11_shed 26 = .ok (.invokevirtual 267, 3) := by decide +kernel
theorem dX11_shed_29 : decode cX11_shed 29 = .ok (.ireturn, 1) := by decide +kernel
theorem dX11_shed_30 : decode cX11_shed 30 = .ok (.iconst 0, 1) := by decide +kernel
theorem dX11_shed_31 : decode cX11_shed 31 = .ok (.istore 4, 2) := by decide +kernel
theorem dX11_shed_33 : decode cX11_shed 33 = .ok (.aload_n 0, 1) := by decide +kernel
theorem dX11_shed_34 : decode cX11_shed 34 = .ok (.bipush 80, 2) := by decide +kernel
theorem dX11_shed_36 : decode cX11_shed 36 = .ok (.iload_n 1, 1) := by decide +kernel
theorem dX11_shed_37 : decode cX11_shed 37 = .ok (.iadd, 1) := by decide +kernel
theorem dX11_shed_38 : decode cX11_shed 38 = .ok (.invokevirtual 47, 3) := by decide +kernel
theorem dX11_shed_41 : decode cX11_shed 41 = .ok (.iconst 1, 1) := by decide +kernel
theorem dX11_shed_42 : decode cX11_shed 42 = .ok (.isub, 1) := by decide +kernel
theorem dX11_shed_43 : decode cX11_shed 43 = .ok (.istore 5, 2) := by decide +kernel
theorem dX11_shed_45 : decode cX11_shed 45 = .ok (.iload 5, 2) := by decide +kernel
theorem dX11_shed_47 : decode cX11_shed 47 = .ok (.ifCond .lt 38, 3) := by decide +kernel
theorem dX11_shed_50 : decode cX11_shed 50 = .ok (.aload_n 0, 1) := by decide +kernel
theorem dX11_shed_51 : decode cX11_shed 51 = .ok (.iload_n 1, 1) := by decide +kernel
theorem dX11_shed_52 : decode cX11_shed 52 = .ok (.iload 5, 2) := by decide +kernel
theorem dX11_shed_54 : decode cX11_shed 54 = .ok (.invokestatic 62, 3) := by decide +kernel
theorem dX11_shed_57 : decode cX11_shed 57 = .ok (.iconst 2, 1) := by decide +kernel
theorem dX11_shed_58 : decode cX11_shed 58 = .ok (.iadd, 1) := by decide +kernel
theorem dX11_shed_59 : decode cX11_shed 59 = .ok (.invokevirtual 47, 3) := by decide +kernel
theorem dX11_shed_62 : decode cX11_shed 62 = .ok (.iload_n 2, 1) := by decide +kernel
theorem dX11_shed_63 : decode cX11_shed 63 = .ok (.if_icmp .lt 6, 3) := by decide +kernel
theorem dX11_shed_66 : decode cX11_shed 66 = .ok (.goto 13, 3) := by decide +kernel
theorem dX11_shed_69 : decode cX11_shed 69 = .ok (.aload_n 0, 1) := by decide +kernel
theorem dX11_shed_70 : decode cX11_shed 70 = .ok (.iload_n 1, 1) := by decide +kernel
theorem dX11_shed_71 : decode cX11_shed 71 = .ok (.iload 5, 2) := by decide +kernel
theorem dX11_shed_73 : decode cX11_shed 73 = .ok (.invokevirtual 109, 3) := by decide +kernel
theorem dX11_shed_76 : decode cX11_shed 76 = .ok (.iinc 4 1, 3) := by decide +kernel
theorem dX11_shed_79 : decode cX11_shed 79 = .ok (.iinc 5 (-1), 3) := by decide +kernel
theorem dX11_shed_82 : decode cX11_shed 82 = .ok (.goto (-37), 3) := by decide +kernel
theorem dX11_shed_85 : decode cX11_shed 85 = .ok (.aload_n 0, 1) := by decide +kernel
theorem dX11_shed_86 : decode cX11_shed 86 = .ok (.iload 4, 2) := by decide +kernel
theorem dX11_shed_88 : decode cX11_shed 88 = .ok (.invokevirtual 276, 3) := by decide +kernel
theorem dX11_shed_91 : decode cX11_shed 91 = .ok (.ireturn, 1) := by decide +kernel
theorem dX11_snap_0 : decode cX11_snap 0 = .ok (.iload_n 2, 1) := by decide +kernel
theorem dX11_snap_1 : decode cX11_snap 1 = .ok (.iconst 0, 1) := by decide +kernel
theorem dX11_snap_2 : decode cX11_snap 2 = .ok (.iconst 2, 1) := by decide +kernel
theorem dX11_snap_3 : decode cX11_snap 3 = .ok (.invokestatic 228, 3) := by decide +kernel
theorem dX11_snap_6 : decode cX11_snap 6 = .ok (.ifCond .ne 9, 3) := by decide +kernel
theorem dX11_snap_9 : decode cX11_snap 9 = .ok (.aload_n 0, 1) := by decide +kernel
theorem dX11_snap_10 : decode cX11_snap 10 = .ok (.iconst 1, 1) := by decide +kernel
theorem dX11_snap_11 : decode cX11_snap 11 = .ok (.invokevirtual 294, 3) := by decide +kernel
theorem dX11_snap_14 : decode cX11_snap 14 = .ok (.ireturn, 1) := by decide +kernel
theorem dX11_snap_15 : decode cX11_snap 15 = .ok (.aload_n 0, 1) := by decide +kernel
theorem dX11_snap_16 : decode cX11_snap 16 = .ok (.iload_n 1, 1) := by decide +kernel
theorem dX11_snap_17 : decode cX11_snap 17 = .ok (.invokevirtual 51, 3) := by decide +kernel
theorem dX11_snap_20 : decode cX11_snap 20 = .ok (.ifCond .ne 9, 3) := by decide +kernel
theorem dX11_snap_23 : decode cX11_snap 23 = .ok (.aload_n 0, 1) := by decide +kernel
theorem dX11_snap_24 : decode cX11_snap 24 = .ok (.iconst 2, 1) := by decide +kernel
theorem dX11_snap_25 : decode cX11_snap 25 = .ok (.invokevirtual 294, 3) := by decide +kernel
theorem dX11_snap_28 : decode cX11_snap 28 = .ok (.ireturn, 1) := by decide +kernel
theorem dX11_snap_29 : decode cX11_snap 29 = .ok (.aload_n 0, 1) := by decide +kernel
theorem dX11_snap_30 : decode cX11_snap 30 = .ok (.bipush 16, 2) := by decide +kernel
theorem dX11_snap_32 : decode cX11_snap 32 = .ok (.invokevirtual 47, 3) := by decide +kernel
theorem dX11_snap_35 : decode cX11_snap 35 = .ok (.iconst (-1), 1) := by decide +kernel
theorem dX11_snap_36 : decode cX11_snap 36 = .ok (.if_icmp .eq 9, 3) := by decide +kernel
theorem dX11_snap_39 : decode cX11_snap 39 = .ok (.aload_n 0, 1) := by decide +kernel
theorem dX11_snap_40 : decode cX11_snap 40 = .ok (.iconst 3, 1) := by decide +kernel
theorem dX11_snap_41 : decode cX11_snap 41 = .ok (.invokevirtual 294, 3) := by decide +kernel
theorem dX11_snap_44 : decode cX11_snap 44 = .ok (.ireturn, 1) := by decide +kernel
theorem dX11_snap_45 : decode cX11_snap 45 = .ok (.aload_n 0, 1) := by decide +kernel
theorem dX11_snap_46 : decode cX11_snap 46 = .ok (.bipush 16, 2) := by decide +kernel
theorem dX11_snap_48 : decode cX11_snap 48 = .ok (.iload_n 1, 1) := by decide +kernel
theorem dX11_snap_49 : decode cX11_snap 49 = .ok (.invokevirtual 43, 3) := by decide +kernel
theorem dX11_snap_52 : decode cX11_snap 52 = .ok (.aload_n 0, 1) := by decide +kernel
theorem dX11_snap_53 : decode cX11_snap 53 = .ok (.bipush 17, 2) := by decide +kernel
theorem dX11_snap_55 : decode cX11_snap 55 = .ok (.iload_n 2, 1) := by decide +kernel
theorem dX11_snap_56 : decode cX11_snap 56 = .ok (.invokevirtual 43, 3) := by decide +kernel
theorem dX11_snap_59 : decode cX11_snap 59 = .ok (.aload_n 0, 1) := by decide +kernel
theorem dX11_snap_60 : decode cX11_snap 60 = .ok (.invokevirtual 291, 3) := by decide +kernel
theorem dX11_snap_63 : decode cX11_snap 63 = .ok (.aload_n 0, 1) := by decide +kernel
theorem dX11_snap_64 : decode cX11_snap 64 = .ok (.iconst 0, 1) := by decide +kernel
theorem dX11_snap_65 : decode cX11_snap 65 = .ok (.invokevirtual 294, 3) := by decide +kernel
theorem dX11_snap_68 : decode cX11_snap 68 = .ok (.ireturn, 1) := by decide +kernel
theorem dX11_stale_0 : decode cX11_stale 0 = .ok (.iconst 0, 1) := by decide +kernel
theorem dX11_stale_1 : decode cX11_stale 1 = .ok (.istore_n 1, 1) := by decide +kernel
theorem dX11_stale_2 : decode cX11_stale 2 = .ok (.iconst 0, 1) := by decide +kernel
theorem dX11_stale_3 : decode cX11_stale 3 = .ok (.istore_n 2, 1) := by decide +kernel
theorem dX11_stale_4 : decode cX11_stale 4 = .ok (.iload_n 2, 1) := by decide +kernel
theorem dX11_stale_5 : decode cX11_stale 5 = .ok (.aload_n 0, 1) := by decide +kernel
theorem dX11_stale_6 : decode cX11_stale 6 = .ok (.iconst 0, 1) := by decide +kernel
theorem dX11_stale_7 : decode cX11_stale 7 = .ok (.invokevirtual 47, 3) := by decide +kernel
theorem dX11_stale_10 : decode cX11_stale 10 = .ok (.if_icmp .ge 44, 3) := by decide +kernel
theorem dX11_stale_13 : decode cX11_stale 13 = .ok (.iload_n 1, 1) := by decide +kernel
theorem dX11_stale_14 : decode cX11_stale 14 = .ok (.aload_n 0, 1) := by decide +kernel
theorem dX11_stale_15 : decode cX11_stale 15 = .ok (.iload_n 2, 1) := by decide +kernel
theorem dX11_stale_16 : decode cX11_stale 16 = .ok (.invokevirtual 55, 3) := by decide +kernel
theorem dX11_stale_19 : decode cX11_stale 19 = .ok (.ifCond .eq 26, 3) := by decide +kernel
theorem dX11_stale_22 : decode cX11_stale 22 = .ok (.aload_n 0, 1) := by decide +kernel
theorem dX11_stale_23 : decode cX11_stale 23 = .ok (.bipush 56, 2) := by decide +kernel
theorem dX11_stale_25 : decode cX11_stale 25 = .ok (.iload_n 2, 1) := by decide +kernel
theorem dX11_stale_26 : decode cX11_stale 26 = .ok (.iadd, 1) := by decide +kernel
theorem dX11_stale_27 : decode cX11_stale 27 = .ok (.invokevirtual 47, 3) := by decide +kernel
theorem dX11_stale_30 : decode cX11_stale 30 = .ok (.aload_n 0, 1) := by decide +kernel
theorem dX11_stale_31 : decode cX11_stale 31 = .ok (.iload_n 2, 1) := by decide +kernel
theorem dX11_stale_32 : decode cX11_stale 32 = .ok (.iconst (-1), 1) := by decide +kernel
theorem dX11_stale_33 : decode cX11_stale 33 = .ok (.invokevirtual 121, 3) := by decide +kernel
theorem dX11_stale_36 : decode cX11_stale 36 = .ok (.if_icmp .eq 9, 3) := by decide +kernel
theorem dX11_stale_39 : decode cX11_stale 39 = .ok (.iconst 1, 1) := by decide +kernel
theorem dX11_stale_40 : decode cX11_stale 40 = .ok (.iload_n 2, 1) := by decide +kernel
theorem dX11_stale_41 : decode cX11_stale 41 = .ok (.ishl, 1) := by decide +kernel
theorem dX11_stale_42 : decode cX11_stale 42 = .ok (.goto 4, 3) := by decide +kernel
theorem dX11_stale_45 : decode cX11_stale 45 = .ok (.iconst 0, 1) := by decide +kernel
theorem dX11_stale_46 : decode cX11_stale 46 = .ok (.ior, 1) := by decide +kernel
theorem dX11_stale_47 : decode cX11_stale 47 = .ok (.istore_n 1, 1) := by decide +kernel
theorem dX11_stale_48 : decode cX11_stale 48 = .ok (.iinc 2 1, 3) := by decide +kernel
theorem dX11_stale_51 : decode cX11_stale 51 = .ok (.goto (-47), 3) := by decide +kernel
theorem dX11_stale_54 : decode cX11_stale 54 = .ok (.aload_n 0, 1) := by decide +kernel
theorem dX11_stale_55 : decode cX11_stale 55 = .ok (.iload_n 1, 1) := by decide +kernel
theorem dX11_stale_56 : decode cX11_stale 56 = .ok (.invokevirtual 276, 3) := by decide +kernel
theorem dX11_stale_59 : decode cX11_stale 59 = .ok (.ireturn, 1) := by decide +kernel
theorem dX11_station_0 : decode cX11_station 0 = .ok (.iload_n 2, 1) := by decide +kernel
theorem dX11_station_1 : decode cX11_station 1 = .ok (.iconst 0, 1) := by decide +kernel
theorem dX11_station_2 : decode cX11_station 2 = .ok (.bipush 9, 2) := by decide +kernel
theorem dX11_station_4 : decode cX11_station 4 = .ok (.invokestatic 228, 3) := by decide +kernel
theorem dX11_station_7 : decode cX11_station 7 = .ok (.ifCond .ne 7, 3) := by decide +kernel
theorem dX11_station_10 : decode cX11_station 10 = .ok (.iconst 1, 1) := by decide +kernel
theorem dX11_station_11 : decode cX11_station 11 = .ok (.goto 8, 3) := by decide +kernel
theorem dX11_station_14 : decode cX11_station 14 = .ok (.aload_n 0, 1) := by decide +kernel
theorem dX11_station_15 : decode cX11_station 15 = .ok (.iload_n 1, 1) := by decide +kernel
theorem dX11_station_16 : decode cX11_station 16 = .ok (.invokevirtual 288, 3) := by decide +kernel
theorem dX11_station_19 : decode cX11_station 19 = .ok (.istore_n 3, 1) := by decide +kernel
theorem dX11_station_20 : decode cX11_station 20 = .ok (.iload_n 3, 1) := by decide +kernel
theorem dX11_station_21 : decode cX11_station 21 = .ok (.ifCond .le 9, 3) := by decide +kernel
theorem dX11_station_24 : decode cX11_station 24 = .ok (.aload_n 0, 1) := by decide +kernel
theorem dX11_station_25 : decode cX11_station 25 = .ok (.iload_n 3, 1) := by decide +kernel
theorem dX11_station_26 : decode cX11_station 26 = .ok (.invokevirtual 267, 3) := by decide +kernel
theorem dX11_station_29 : decode cX11_station 29 = .ok (.ireturn, 1) := by decide +kernel
theorem dX11_station_30 : decode cX11_station 30 = .ok (.aload_n 0, 1) := by decide +kernel
theorem dX11_station_31 : decode cX11_station 31 = .ok (.bipush 88, 2) := by decide +kernel
theorem dX11_station_33 : decode cX11_station 33 = .ok (.iload_n 1, 1) := by decide +kernel
theorem dX11_station_34 : decode cX11_station 34 = .ok (.iadd, 1) := by decide +kernel
theorem dX11_station_35 : decode cX11_station 35 = .ok (.invokevirtual 47, 3) := by decide +kernel
theorem dX11_station_38 : decode cX11_station 38 = .ok (.istore 4, 2) := by decide +kernel
theorem dX11_station_40 : decode cX11_station 40 = .ok (.iload_n 2, 1) := by decide +kernel
theorem dX11_station_41 : decode cX11_station 41 = .ok (.tableswitch 208 0 8 #[51, 64, 77, 90, 121, 128, 154, 182, 195], 51) := by decide +kernel
theorem dX11_station_92 : decode cX11_station 92 = .ok (.aload_n 0, 1) := by decide +kernel
theorem dX11_station_93 : decode cX11_station 93 = .ok (.aload_n 0, 1) := by decide +kernel
theorem dX11_station_94 : decode cX11_station 94 = .ok (.bipush 40, 2) := by decide +kernel
theorem dX11_station_96 : decode cX11_station 96 = .ok (.iload_n 1, 1) := by decide +kernel
theorem dX11_station_97 : decode cX11_station 97 = .ok (.iadd, 1) := by decide +kernel
theorem dX11_station_98 : decode cX11_station 98 = .ok (.invokevirtual 47, 3) := by decide +kernel
theorem dX11_station_101 : decode cX11_station 101 = .ok (.invokevirtual 276, 3) := by decide +kernel
theorem dX11_station_104 : decode cX11_station 104 = .ok (.ireturn, 1) := by decide +kernel
theorem dX11_station_105 : decode cX11_station 105 = .ok (.aload_n 0, 1) := by decide +kernel
theorem dX11_station_106 : decode cX11_station 106 = .ok (.aload_n 0, 1) := by decide +kernel
theorem dX11_station_107 : decode cX11_station 107 = .ok (.bipush 48, 2) := by decide +kernel
theorem dX11_station_109 : decode cX11_station 109 = .ok (.iload_n 1, 1) := by decide +kernel
theorem dX11_station_110 : decode cX11_station 110 = .ok (.iadd, 1) := by decide +kernel
theorem dX11_station_111 : decode cX11_station 111 = .ok (.invokevirtual 47, 3) := by decide +kernel
theorem dX11_station_114 : decode cX11_station 114 = .ok (.invokevirtual 276, 3) := by decide +kernel
theorem dX11_station_117 : decode cX11_station 117 = .ok (.ireturn, 1) := by decide +kernel
theorem dX11_station_118 : decode cX11_station 118 = .ok (.aload_n 0, 1) := by decide +kernel
theorem dX11_station_119 : decode cX11_station 119 = .ok (.aload_n 0, 1) := by decide +kernel
theorem dX11_station_120 : decode cX11_station 120 = .ok (.bipush 80, 2) := by decide +kernel
theorem dX11_station_122 : decode cX11_station 122 = .ok (.iload_n 1, 1) := by decide +kernel
theorem dX11_station_123 : decode cX11_station 123 = .ok (.iadd, 1) := by decide +kernel
theorem dX11_station_124 : decode cX11_station 124 = .ok (.invokevirtual 47, 3) := by decide +kernel
theorem dX11_station_127 : decode cX11_station 127 = .ok (.invokevirtual 276, 3) := by decide +kernel
theorem dX11_station_130 : decode cX11_station 130 = .ok (.ireturn, 1) := by decide +kernel
theorem dX11_station_131 : decode cX11_station 131 = .ok (.aload_n 0, 1) := by decide +kernel
theorem dX11_station_132 : decode cX11_station 132 = .ok (.aload_n 0, 1) := by decide +kernel
theorem dX11_station_133 : decode cX11_station 133 = .ok (.iload_n 1, 1) := by decide +kernel
theorem dX11_station_134 : decode cX11_station 134 = .ok (.invokevirtual 66, 3) := by decide +kernel
theorem dX11_station_137 : decode cX11_station 137 = .ok (.iconst (-1), 1) := by decide +kernel
theorem dX11_station_138 : decode cX11_station 138 = .ok (.if_icmp .ne 7, 3) := by decide +kernel
theorem dX11_station_141 : decode cX11_station 141 = .ok (.iconst (-1), 1) := by decide +kernel
theorem dX11_station_142 : decode cX11_station 142 = .ok (.goto 16, 3) := by decide +kernel
theorem dX11_station_145 : decode cX11_station 145 = .ok (.aload_n 0, 1) := by decide +kernel
theorem dX11_station_146 : decode cX11_station 146 = .ok (.iload_n 1, 1) := by decide +kernel
theorem dX11_station_147 : decode cX11_station 147 = .ok (.aload_n 0, 1) := by decide +kernel
theorem dX11_station_148 : decode cX11_station 148 = .ok (.iload_n 1, 1) := by decide +kernel
theorem dX11_station_149 : decode cX11_station 149 = .ok (.invokevirtual 66, 3) := by decide +kernel
theorem dX11_station_152 : decode cX11_station 152 = .ok (.invokestatic 62, 3) := by decide +kernel
theorem dX11_station_155 : decode cX11_station 155 = .ok (.invokevirtual 47, 3) := by decide +kernel
theorem dX11_station_158 : decode cX11_station 158 = .ok (.invokevirtual 276, 3) := by decide +kernel
theorem dX11_station_161 : decode cX11_station 161 = .ok (.ireturn, 1) := by decide +kernel
theorem dX11_station_162 : decode cX11_station 162 = .ok (.aload_n 0, 1) := by decide +kernel
theorem dX11_station_163 : decode cX11_station 163 = .ok (.iload 4, 2) := by decide +kernel
theorem dX11_station_165 : decode cX11_station 165 = .ok (.invokevirtual 276, 3) := by decide +kernel
theorem dX11_station_168 : decode cX11_station 168 = .ok (.ireturn, 1) := by decide +kernel
theorem dX11_station_169 : decode cX11_station 169 = .ok (.aload_n 0, 1) := by decide +kernel
theorem dX11_station_170 : decode cX11_station 170 = .ok (.iload 4, 2) := by decide +kernel
theorem dX11_station_172 : decode cX11_station 172 = .ok (.ifCond .ne 7, 3) := by decide +kernel
theorem dX11_station_175 : decode cX11_station 175 = .ok (.iconst (-1), 1) := by decide +kernel
theorem dX11_station_176 : decode cX11_station 176 = .ok (.goto 15, 3) := by decide +kernel
theorem dX11_station_179 : decode cX11_station 179 = .ok (.aload_n 0, 1) := by decide +kernel
theorem dX11_station_180 : decode cX11_station 180 = .ok (.iload_n 1, 1) := by decide +kernel
theorem dX11_station_181 : decode cX11_station 181 = .ok (.iload 4, 2) := by decide +kernel
theorem dX11_station_183 : decode cX11_station 183 = .ok (.iconst 1, 1) := by decide +kernel
theorem dX11_station_184 : decode cX11_station 184 = .ok (.isub, 1) := by decide +kernel
theorem dX11_station_185 : decode cX11_station 185 = .ok (.invokestatic 91, 3) := by decide +kernel
theorem dX11_station_188 : decode cX11_station 188 = .ok (.invokevirtual 47, 3) := by decide +kernel
theorem dX11_station_191 : decode cX11_station 191 = .ok (.invokevirtual 276, 3) := by decide +kernel
theorem dX11_station_194 : decode cX11_station 194 = .ok (.ireturn, 1) := by decide +kernel
theorem dX11_station_195 : decode cX11_station 195 = .ok (.aload_n 0, 1) := by decide +kernel
theorem dX11_station_196 : decode cX11_station 196 = .ok (.iload 4, 2) := by decide +kernel
theorem dX11_station_198 : decode cX11_station 198 = .ok (.ifCond .ne 7, 3) := by decide +kernel
theorem dX11_station_201 : decode cX11_station 201 = .ok (.iconst (-1), 1) := by decide +kernel
theorem dX11_station_202 : decode cX11_station 202 = .ok (.goto 17, 3) := by decide +kernel
theorem dX11_station_205 : decode cX11_station 205 = .ok (.aload_n 0, 1) := by decide +kernel
theorem dX11_station_206 : decode cX11_station 206 = .ok (.iload_n 1, 1) := by decide +kernel
theorem dX11_station_207 : decode cX11_station 207 = .ok (.iload 4, 2) := by decide +kernel
theorem dX11_station_209 : decode cX11_station 209 = .ok (.iconst 1, 1) := by decide +kernel
theorem dX11_station_210 : decode cX11_station 210 = .ok (.isub, 1) := by decide +kernel
theorem dX11_station_211 : decode cX11_station 211 = .ok (.invokestatic 91, 3) := by decide +kernel
theorem dX11_station_214 : decode cX11_station 214 = .ok (.iconst 1, 1) := by decide +kernel
theorem dX11_station_215 : decode cX11_station 215 = .ok (.iadd, 1) := by decide +kernel
theorem dX11_station_216 : decode cX11_station 216 = .ok (.invokevirtual 47, 3) := by decide +kernel
theorem dX11_station_219 : decode cX11_station 219 = .ok (.invokevirtual 276, 3) := by decide +kernel
theorem dX11_station_222 : decode cX11_station 222 = .ok (.ireturn, 1) := by decide +kernel
theorem dX11_station_223 : decode cX11_station 223 = .ok (.aload_n 0, 1) := by decide +kernel
theorem dX11_station_224 : decode cX11_station 224 = .ok (.aload_n 0, 1) := by decide +kernel
theorem dX11_station_225 : decode cX11_station 225 = .ok (.bipush 56, 2) := by decide +kernel
theorem dX11_station_227 : decode cX11_station 227 = .ok (.iload_n 1, 1) := by decide +kernel
theorem dX11_station_228 : decode cX11_station 228 = .ok (.iadd, 1) := by decide +kernel
theorem dX11_station_229 : decode cX11_station 229 = .ok (.invokevirtual 47, 3) := by decide +kernel
theorem dX11_station_232 : decode cX11_station 232 = .ok (.invokevirtual 276, 3) := by decide +kernel
theorem dX11_station_235 : decode cX11_station 235 = .ok (.ireturn, 1) := by decide +kernel
theorem dX11_station_236 : decode cX11_station 236 = .ok (.aload_n 0, 1) := by decide +kernel
theorem dX11_station_237 : decode cX11_station 237 = .ok (.aload_n 0, 1) := by decide +kernel
theorem dX11_station_238 : decode cX11_station 238 = .ok (.bipush 64, 2) := by decide +kernel
theorem dX11_station_240 : decode cX11_station 240 = .ok (.iload_n 1, 1) := by decide +kernel
theorem dX11_station_241 : decode cX11_station 241 = .ok (.iadd, 1) := by decide +kernel
theorem dX11_station_242 : decode cX11_station 242 = .ok (.invokevirtual 47, 3) := by decide +kernel
theorem dX11_station_245 : decode cX11_station 245 = .ok (.invokevirtual 276, 3) := by decide +kernel
theorem dX11_station_248 : decode cX11_station 248 = .ok (.ireturn, 1) := by decide +kernel
theorem dX11_station_249 : decode cX11_station 249 = .ok (.aload_n 0, 1) := by decide +kernel
theorem dX11_station_250 : decode cX11_station 250 = .ok (.aload_n 0, 1) := by decide +kernel
theorem dX11_station_251 : decode cX11_station 251 = .ok (.bipush 72, 2) := by decide +kernel
theorem dX11_station_253 : decode cX11_station 253 = .ok (.iload_n 1, 1) := by decide +kernel
theorem dX11_station_254 : decode cX11_station 254 = .ok (.iadd, 1) := by decide +kernel
theorem dX11_station_255 : decode cX11_station 255 = .ok (.invokevirtual 47, 3) := by decide +kernel
theorem dX11_station_258 : decode cX11_station 258 = .ok (.invokevirtual 276, 3) := by decide +kernel
theorem dX11_station_261 : decode cX11_station 261 = .ok (.ireturn, 1) := by decide +kernel
theorem dX11_stationHere_0 : decode cX11_stationHere 0 = .ok (.aload_n 0, 1) := by decide +kernel
theorem dX11_stationHere_1 : decode cX11_stationHere 1 = .ok (.invokevirtual 219, 3) := by decide +kernel
theorem dX11_stationHere_4 : decode cX11_stationHere 4 = .ok (.ifCond .ne 11, 3) := by decide +kernel
theorem dX11_stationHere_7 : decode cX11_stationHere 7 = .ok (.aload_n 0, 1) := by decide +kernel
theorem dX11_stationHere_8 : decode cX11_stationHere 8 = .ok (.iconst 2, 1) := by decide +kernel
theorem dX11_stationHere_9 : decode cX11_stationHere 9 = .ok (.invokevirtual 222, 3) := by decide +kernel
theorem dX11_stationHere_12 : decode cX11_stationHere 12 = .ok (.pop, 1) := by decide +kernel
theorem dX11_stationHere_13 : decode cX11_stationHere 13 = .ok (.iconst (-1), 1) := by decide +kernel
theorem dX11_stationHere_14 : decode cX11_stationHere 14 = .ok (.ireturn, 1) := by decide +kernel
theorem dX11_stationHere_15 : decode cX11_stationHere 15 = .ok (.aload_n 0, 1) := by decide +kernel
theorem dX11_stationHere_16 : decode cX11_stationHere 16 = .ok (.invokevirtual 225, 3) := by decide +kernel
theorem dX11_stationHere_19 : decode cX11_stationHere 19 = .ok (.istore_n 1, 1) := by decide +kernel
theorem dX11_stationHere_20 : decode cX11_stationHere 20 = .ok (.iload_n 1, 1) := by decide +kernel
theorem dX11_stationHere_21 : decode cX11_stationHere 21 = .ok (.iconst (-1), 1) := by decide +kernel
theorem dX11_stationHere_22 : decode cX11_stationHere 22 = .ok (.if_icmp .ne 9, 3) := by decide +kernel
theorem dX11_stationHere_25 : decode cX11_stationHere 25 = .ok (.aload_n 0, 1) := by decide +kernel
theorem dX11_stationHere_26 : decode cX11_stationHere 26 = .ok (.iconst 3, 1) := by decide +kernel
theorem dX11_stationHere_27 : decode cX11_stationHere 27 = .ok (.invokevirtual 222, 3) := by decide +kernel
theorem dX11_stationHere_30 : decode cX11_stationHere 30 = .ok (.pop, 1) := by decide +kernel
theorem dX11_stationHere_31 : decode cX11_stationHere 31 = .ok (.iload_n 1, 1) := by decide +kernel
theorem dX11_stationHere_32 : decode cX11_stationHere 32 = .ok (.ireturn, 1) := by decide +kernel
theorem dX11_status_0 : decode cX11_status 0 = .ok (.aload_n 0, 1) := by decide +kernel
theorem dX11_status_1 : decode cX11_status 1 = .ok (.getfield 40, 3) := by decide +kernel
theorem dX11_status_4 : decode cX11_status 4 = .ok (.ireturn, 1) := by decide +kernel
theorem dX11_take_0 : decode cX11_take 0 = .ok (.iload_n 1, 1) := by decide +kernel
theorem dX11_take_1 : decode cX11_take 1 = .ok (.ifCond .ge 9, 3) := by decide +kernel
theorem dX11_take_4 : decode cX11_take 4 = .ok (.aload_n 0, 1) := by decide +kernel
theorem dX11_take_5 : decode cX11_take 5 = .ok (.iconst 1, 1) := by decide +kernel
theorem dX11_take_6 : decode cX11_take 6 = .ok (.invokevirtual 267, 3) := by decide +kernel
theorem dX11_take_9 : decode cX11_take 9 = .ok (.ireturn, 1) := by decide +kernel
theorem dX11_take_10 : decode cX11_take 10 = .ok (.iconst 0, 1) := by decide +kernel
theorem dX11_take_11 : decode cX11_take 11 = .ok (.istore_n 2, 1) := by decide +kernel
theorem dX11_take_12 : decode cX11_take 12 = .ok (.iload_n 2, 1) := by decide +kernel
theorem dX11_take_13 : decode cX11_take 13 = .ok (.aload_n 0, 1) := by decide +kernel
theorem dX11_take_14 : decode cX11_take 14 = .ok (.iconst 0, 1) := by decide +kernel
theorem dX11_take_15 : decode cX11_take 15 = .ok (.invokevirtual 47, 3) := by decide +kernel
theorem dX11_take_18 : decode cX11_take 18 = .ok (.if_icmp .ge 57, 3) := by decide +kernel
theorem dX11_take_21 : decode cX11_take 21 = .ok (.iconst 0, 1) := by decide +kernel
theorem dX11_take_22 : decode cX11_take 22 = .ok (.istore_n 3, 1) := by decide +kernel
theorem dX11_take_23 : decode cX11_take 23 = .ok (.iload_n 3, 1) := by decide +kernel
theorem dX11_take_24 : decode cX11_take 24 = .ok (.aload_n 0, 1) := by decide +kernel
theorem dX11_take_25 : decode cX11_take 25 = .ok (.bipush 80, 2) := by decide +kernel
theorem dX11_take_27 : decode cX11_take 27 = .ok (.iload_n 2, 1) := by decide +kernel
theorem dX11_take_28 : decode cX11_take 28 = .ok (.iadd, 1) := by decide +kernel
theorem dX11_take_29 : decode cX11_take 29 = .ok (.invokevirtual 47, 3) := by decide +kernel
theorem dX11_take_32 : decode cX11_take 32 = .ok (.if_icmp .ge 37, 3) := by decide +kernel
theorem dX11_take_35 : decode cX11_take 35 = .ok (.aload_n 0, 1) := by decide +kernel
theorem dX11_take_36 : decode cX11_take 36 = .ok (.iload_n 2, 1) := by decide +kernel
theorem dX11_take_37 : decode cX11_take 37 = .ok (.iload_n 3, 1) := by decide +kernel
theorem dX11_take_38 : decode cX11_take 38 = .ok (.invokestatic 62, 3) := by decide +kernel
theorem dX11_take_41 : decode cX11_take 41 = .ok (.invokevirtual 47, 3) := by decide +kernel
theorem dX11_take_44 : decode cX11_take 44 = .ok (.iload_n 1, 1) := by decide +kernel
theorem dX11_take_45 : decode cX11_take 45 = .ok (.if_icmp .eq 6, 3) := by decide +kernel
theorem dX11_take_48 : decode cX11_take 48 = .ok (.goto 15, 3) := by decide +kernel
theorem dX11_take_51 : decode cX11_take 51 = .ok (.aload_n 0, 1) := by decide +kernel
theorem dX11_take_52 : decode cX11_take 52 = .ok (.iload_n 2, 1) := by decide +kernel
theorem dX11_take_53 : decode cX11_take 53 = .ok (.iload_n 3, 1) := by decide +kernel
theorem dX11_take_54 : decode cX11_take 54 = .ok (.invokevirtual 109, 3) := by decide +kernel
theorem dX11_take_57 : decode cX11_take 57 = .ok (.aload_n 0, 1) := by decide +kernel
theorem dX11_take_58 : decode cX11_take 58 = .ok (.iload_n 2, 1) := by decide +kernel
theorem dX11_take_59 : decode cX11_take 59 = .ok (.invokevirtual 276, 3) := by decide +kernel
theorem dX11_take_62 : decode cX11_take 62 = .ok (.ireturn, 1) := by decide +kernel
theorem dX11_take_63 : decode cX11_take 63 = .ok (.iinc 3 1, 3) := by decide +kernel
theorem dX11_take_66 : decode cX11_take 66 = .ok (.goto (-43), 3) := by decide +kernel
theorem dX11_take_69 : decode cX11_take 69 = .ok (.iinc 2 1, 3) := by decide +kernel
theorem dX11_take_72 : decode cX11_take 72 = .ok (.goto (-60), 3) := by decide +kernel
theorem dX11_take_75 : decode cX11_take 75 = .ok (.aload_n 0, 1) := by decide +kernel
theorem dX11_take_76 : decode cX11_take 76 = .ok (.iconst 5, 1) := by decide +kernel
theorem dX11_take_77 : decode cX11_take 77 = .ok (.invokevirtual 267, 3) := by decide +kernel
theorem dX11_take_80 : decode cX11_take 80 = .ok (.ireturn, 1) := by decide +kernel
theorem dX11_takes_0 : decode cX11_takes 0 = .ok (.aload_n 0, 1) := by decide +kernel
theorem dX11_takes_1 : decode cX11_takes 1 = .ok (.bipush 80, 2) := by decide +kernel
theorem dX11_takes_3 : decode cX11_takes 3 = .ok (.iload_n 1, 1) := by decide +kernel
theorem dX11_takes_4 : decode cX11_takes 4 = .ok (.iadd, 1) := by decide +kernel
theorem dX11_takes_5 : decode cX11_takes 5 = .ok (.iconst (-1), 1) := by decide +kernel
theorem dX11_takes_6 : decode cX11_takes 6 = .ok (.invokevirtual 69, 3) := by decide +kernel
theorem dX11_takes_9 : decode cX11_takes 9 = .ok (.iload_n 1, 1) := by decide +kernel
theorem dX11_takes_10 : decode cX11_takes 10 = .ok (.iload_n 2, 1) := by decide +kernel
theorem dX11_takes_11 : decode cX11_takes 11 = .ok (.invokestatic 62, 3) := by decide +kernel
theorem dX11_takes_14 : decode cX11_takes 14 = .ok (.istore_n 3, 1) := by decide +kernel
theorem dX11_takes_15 : decode cX11_takes 15 = .ok (.iload_n 3, 1) := by decide +kernel
theorem dX11_takes_16 : decode cX11_takes 16 = .ok (.iload_n 1, 1) := by decide +kernel
theorem dX11_takes_17 : decode cX11_takes 17 = .ok (.aload_n 0, 1) := by decide +kernel
theorem dX11_takes_18 : decode cX11_takes 18 = .ok (.bipush 80, 2) := by decide +kernel
theorem dX11_takes_20 : decode cX11_takes 20 = .ok (.iload_n 1, 1) := by decide +kernel
theorem dX11_takes_21 : decode cX11_takes 21 = .ok (.iadd, 1) := by decide +kernel
theorem dX11_takes_22 : decode cX11_takes 22 = .ok (.invokevirtual 47, 3) := by decide +kernel
theorem dX11_takes_25 : decode cX11_takes 25 = .ok (.invokestatic 62, 3) := by decide +kernel
theorem dX11_takes_28 : decode cX11_takes 28 = .ok (.if_icmp .ge 21, 3) := by decide +kernel
theorem dX11_takes_31 : decode cX11_takes 31 = .ok (.aload_n 0, 1) := by decide +kernel
theorem dX11_takes_32 : decode cX11_takes 32 = .ok (.iload_n 3, 1) := by decide +kernel
theorem dX11_takes_33 : decode cX11_takes 33 = .ok (.aload_n 0, 1) := by decide +kernel
theorem dX11_takes_34 : decode cX11_takes 34 = .ok (.iload_n 3, 1) := by decide +kernel
theorem dX11_takes_35 : decode cX11_takes 35 = .ok (.iconst 4, 1) := by decide +kernel
theorem dX11_takes_36 : decode cX11_takes 36 = .ok (.iadd, 1) := by decide +kernel
theorem dX11_takes_37 : decode cX11_takes 37 = .ok (.invokevirtual 47, 3) := by decide +kernel
theorem dX11_takes_40 : decode cX11_takes 40 = .ok (.invokevirtual 43, 3) := by decide +kernel
theorem dX11_takes_43 : decode cX11_takes 43 = .ok (.iinc 3 1, 3) := by decide +kernel
theorem dX11_takes_46 : decode cX11_takes 46 = .ok (.goto (-31), 3) := by decide +kernel
theorem dX11_takes_49 : decode cX11_takes 49 = .ok (.return_, 1) := by decide +kernel
theorem dX11_tick_0 : decode cX11_tick 0 = .ok (.iload_n 1, 1) := by decide +kernel
theorem dX11_tick_1 : decode cX11_tick 1 = .ok (.iconst 1, 1) := by decide +kernel
theorem dX11_tick_2 : decode cX11_tick 2 = .ok (.sipush 500, 3) := by decide +kernel
theorem dX11_tick_5 : decode cX11_tick 5 = .ok (.invokestatic 228, 3) := by decide +kernel
theorem dX11_tick_8 : decode cX11_tick 8 = .ok (.ifCond .ne 9, 3) := by decide +kernel
theorem dX11_tick_11 : decode cX11_tick 11 = .ok (.aload_n 0, 1) := by decide +kernel
theorem dX11_tick_12 : decode cX11_tick 12 = .ok (.iconst 1, 1) := by decide +kernel
theorem dX11_tick_13 : decode cX11_tick 13 = .ok (.invokevirtual 267, 3) := by decide +kernel
theorem dX11_tick_16 : decode cX11_tick 16 = .ok (.ireturn, 1) := by decide +kernel
theorem dX11_tick_17 : decode cX11_tick 17 = .ok (.iconst 0, 1) := by decide +kernel
theorem dX11_tick_18 : decode cX11_tick 18 = .ok (.istore_n 2, 1) := by decide +kernel
theorem dX11_tick_19 : decode cX11_tick 19 = .ok (.iload_n 2, 1) := by decide +kernel
theorem dX11_tick_20 : decode cX11_tick 20 = .ok (.iload_n 1, 1) := by decide +kernel
theorem dX11_tick_21 : decode cX11_tick 21 = .ok (.if_icmp .ge 13, 3) := by decide +kernel
theorem dX11_tick_24 : decode cX11_tick 24 = .ok (.aload_n 0, 1) := by decide +kernel
theorem dX11_tick_25 : decode cX11_tick 25 = .ok (.invokevirtual 297, 3) := by decide +kernel
theorem dX11_tick_28 : decode cX11_tick 28 = .ok (.iinc 2 1, 3) := by decide +kernel
theorem dX11_tick_31 : decode cX11_tick 31 = .ok (.goto (-12), 3) := by decide +kernel
theorem dX11_tick_34 : decode cX11_tick 34 = .ok (.aload_n 0, 1) := by decide +kernel
theorem dX11_tick_35 : decode cX11_tick 35 = .ok (.aload_n 0, 1) := by decide +kernel
theorem dX11_tick_36 : decode cX11_tick 36 = .ok (.iconst 3, 1) := by decide +kernel
theorem dX11_tick_37 : decode cX11_tick 37 = .ok (.invokevirtual 47, 3) := by decide +kernel
theorem dX11_tick_40 : decode cX11_tick 40 = .ok (.invokevirtual 276, 3) := by decide +kernel
theorem dX11_tick_43 : decode cX11_tick 43 = .ok (.ireturn, 1) := by decide +kernel
theorem dX11_ticks_0 : decode cX11_ticks 0 = .ok (.aload_n 0, 1) := by decide +kernel
theorem dX11_ticks_1 : decode cX11_ticks 1 = .ok (.iconst (-1), 1) := by decide +kernel
theorem dX11_ticks_2 : decode cX11_ticks 2 = .ok (.putfield 112, 3) := by decide +kernel
theorem dX11_ticks_5 : decode cX11_ticks 5 = .ok (.aload_n 0, 1) := by decide +kernel
theorem dX11_ticks_6 : decode cX11_ticks 6 = .ok (.iconst (-1), 1) := by decide +kernel
theorem dX11_ticks_7 : decode cX11_ticks 7 = .ok (.putfield 143, 3) := by decide +kernel
theorem dX11_ticks_10 : decode cX11_ticks 10 = .ok (.aload_n 0, 1) := by decide +kernel
theorem dX11_ticks_11 : decode cX11_ticks 11 = .ok (.iconst 0, 1) := by decide +kernel
theorem dX11_ticks_12 : decode cX11_ticks 12 = .ok (.putfield 82, 3) := by decide +kernel
theorem dX11_ticks_15 : decode cX11_ticks 15 = .ok (.aload_n 0, 1) := by decide +kernel
theorem dX11_ticks_16 : decode cX11_ticks 16 = .ok (.iconst 3, 1) := by decide +kernel
theorem dX11_ticks_17 : decode cX11_ticks 17 = .ok (.iconst 1, 1) := by decide +kernel
theorem dX11_ticks_18 : decode cX11_ticks 18 = .ok (.invokevirtual 69, 3) := by decide +kernel
theorem dX11_ticks_21 : decode cX11_ticks 21 = .ok (.aload_n 0, 1) := by decide +kernel
theorem dX11_ticks_22 : decode cX11_ticks 22 = .ok (.iconst 5, 1) := by decide +kernel
theorem dX11_ticks_23 : decode cX11_ticks 23 = .ok (.invokevirtual 47, 3) := by decide +kernel
theorem dX11_ticks_26 : decode cX11_ticks 26 = .ok (.ifCond .ne 10, 3) := by decide +kernel
theorem dX11_ticks_29 : decode cX11_ticks 29 = .ok (.aload_n 0, 1) := by decide +kernel
theorem dX11_ticks_30 : decode cX11_ticks 30 = .ok (.invokevirtual 162, 3) := by decide +kernel
theorem dX11_ticks_33 : decode cX11_ticks 33 = .ok (.goto 7, 3) := by decide +kernel
theorem dX11_ticks_36 : decode cX11_ticks 36 = .ok (.aload_n 0, 1) := by decide +kernel
theorem dX11_ticks_37 : decode cX11_ticks 37 = .ok (.invokevirtual 165, 3) := by decide +kernel
theorem dX11_ticks_40 : decode cX11_ticks 40 = .ok (.return_, 1) := by decide +kernel
theorem dX11_tokenAt_0 : decode cX11_tokenAt 0 = .ok (.aload_n 0, 1) := by decide +kernel
theorem dX11_tokenAt_1 : decode cX11_tokenAt 1 = .ok (.iload_n 1, 1) := by decide +kernel
theorem dX11_tokenAt_2 : decode cX11_tokenAt 2 = .ok (.invokevirtual 100, 3) := by decide +kernel
theorem dX11_tokenAt_5 : decode cX11_tokenAt 5 = .ok (.istore_n 2, 1) := by decide +kernel
theorem dX11_tokenAt_6 : decode cX11_tokenAt 6 = .ok (.iload_n 2, 1) := by decide +kernel
theorem dX11_tokenAt_7 : decode cX11_tokenAt 7 = .ok (.iconst (-1), 1) := by decide +kernel
theorem dX11_tokenAt_8 : decode cX11_tokenAt 8 = .ok (.if_icmp .eq 75, 3) := by decide +kernel
theorem dX11_tokenAt_11 : decode cX11_tokenAt 11 = .ok (.aload_n 0, 1) := by decide +kernel
theorem dX11_tokenAt_12 : decode cX11_tokenAt 12 = .ok (.bipush 8, 2) := by decide +kernel
theorem dX11_tokenAt_14 : decode cX11_tokenAt 14 = .ok (.invokevirtual 47, 3) := by decide +kernel
theorem dX11_tokenAt_17 : decode cX11_tokenAt 17 = .ok (.aload_n 0, 1) := by decide +kernel
theorem dX11_tokenAt_18 : decode cX11_tokenAt 18 = .ok (.iload_n 2, 1) := by decide +kernel
theorem dX11_tokenAt_19 : decode cX11_tokenAt 19 = .ok (.invokevirtual 47, 3) := by decide +kernel
theorem dX11_tokenAt_22 : decode cX11_tokenAt 22 = .ok (.if_icmp .le 36, 3) := by decide +kernel
theorem dX11_tokenAt_25 : decode cX11_tokenAt 25 = .ok (.aload_n 0, 1) := by decide +kernel
theorem dX11_tokenAt_26 : decode cX11_tokenAt 26 = .ok (.aload_n 0, 1) := by decide +kernel
theorem dX11_tokenAt_27 : decode cX11_tokenAt 27 = .ok (.bipush 8, 2) := by decide +kernel
theorem dX11_tokenAt_29 : decode cX11_tokenAt 29 = .ok (.invokevirtual 47, 3) := by decide +kernel
theorem dX11_tokenAt_32 : decode cX11_tokenAt 32 = .ok (.invokevirtual 103, 3) := by decide +kernel
theorem dX11_tokenAt_35 : decode cX11_tokenAt 35 = .ok (.aload_n 0, 1) := by decide +kernel
theorem dX11_tokenAt_36 : decode cX11_tokenAt 36 = .ok (.iload_n 2, 1) := by decide +kernel
theorem dX11_tokenAt_37 : decode cX11_tokenAt 37 = .ok (.iconst 1, 1) := by decide +kernel
theorem dX11_tokenAt_38 : decode cX11_tokenAt 38 = .ok (.iadd, 1) := by decide +kernel
theorem dX11_tokenAt_39 : decode cX11_tokenAt 39 = .ok (.aload_n 0, 1) := by decide +kernel
theorem dX11_tokenAt_40 : decode cX11_tokenAt 40 = .ok (.bipush 8, 2) := by decide +kernel
theorem dX11_tokenAt_42 : decode cX11_tokenAt 42 = .ok (.invokevirtual 47, 3) := by decide +kernel
theorem dX11_tokenAt_45 : decode cX11_tokenAt 45 = .ok (.invokevirtual 43, 3) := by decide +kernel
theorem dX11_tokenAt_48 : decode cX11_tokenAt 48 = .ok (.aload_n 0, 1) := by decide +kernel
theorem dX11_tokenAt_49 : decode cX11_tokenAt 49 = .ok (.bipush 8, 2) := by decide +kernel
theorem dX11_tokenAt_51 : decode cX11_tokenAt 51 = .ok (.iconst 0, 1) := by decide +kernel
theorem dX11_tokenAt_52 : decode cX11_tokenAt 52 = .ok (.invokevirtual 43, 3) := by decide +kernel
theorem dX11_tokenAt_55 : decode cX11_tokenAt 55 = .ok (.goto 21, 3) := by decide +kernel
theorem dX11_tokenAt_58 : decode cX11_tokenAt 58 = .ok (.aload_n 0, 1) := by decide +kernel
theorem dX11_tokenAt_59 : decode cX11_tokenAt 59 = .ok (.aload_n 0, 1) := by decide +kernel
theorem dX11_tokenAt_60 : decode cX11_tokenAt 60 = .ok (.iload_n 2, 1) := by decide +kernel
theorem dX11_tokenAt_61 : decode cX11_tokenAt 61 = .ok (.invokevirtual 47, 3) := by decide +kernel
theorem dX11_tokenAt_64 : decode cX11_tokenAt 64 = .ok (.invokevirtual 103, 3) := by decide +kernel
theorem dX11_tokenAt_67 : decode cX11_tokenAt 67 = .ok (.aload_n 0, 1) := by decide +kernel
theorem dX11_tokenAt_68 : decode cX11_tokenAt 68 = .ok (.bipush 88, 2) := by decide +kernel
theorem dX11_tokenAt_70 : decode cX11_tokenAt 70 = .ok (.iload_n 1, 1) := by decide +kernel
theorem dX11_tokenAt_71 : decode cX11_tokenAt 71 = .ok (.iadd, 1) := by decide +kernel
theorem dX11_tokenAt_72 : decode cX11_tokenAt 72 = .ok (.iconst (-1), 1) := by decide +kernel
theorem dX11_tokenAt_73 : decode cX11_tokenAt 73 = .ok (.invokevirtual 69, 3) := by decide +kernel
theorem dX11_tokenAt_76 : decode cX11_tokenAt 76 = .ok (.aload_n 0, 1) := by decide +kernel
theorem dX11_tokenAt_77 : decode cX11_tokenAt 77 = .ok (.bipush 9, 2) := by decide +kernel
theorem dX11_tokenAt_79 : decode cX11_tokenAt 79 = .ok (.iconst 0, 1) := by decide +kernel
theorem dX11_tokenAt_80 : decode cX11_tokenAt 80 = .ok (.invokevirtual 43, 3) := by decide +kernel
theorem dX11_tokenAt_83 : decode cX11_tokenAt 83 = .ok (.aload_n 0, 1) := by decide +kernel
theorem dX11_tokenAt_84 : decode cX11_tokenAt 84 = .ok (.iload_n 1, 1) := by decide +kernel
theorem dX11_tokenAt_85 : decode cX11_tokenAt 85 = .ok (.invokevirtual 66, 3) := by decide +kernel
theorem dX11_tokenAt_88 : decode cX11_tokenAt 88 = .ok (.iconst (-1), 1) := by decide +kernel
theorem dX11_tokenAt_89 : decode cX11_tokenAt 89 = .ok (.if_icmp .eq 17, 3) := by decide +kernel
theorem dX11_tokenAt_92 : decode cX11_tokenAt 92 = .ok (.aload_n 0, 1) := by decide +kernel
theorem dX11_tokenAt_93 : decode cX11_tokenAt 93 = .ok (.iload_n 1, 1) := by decide +kernel
theorem dX11_tokenAt_94 : decode cX11_tokenAt 94 = .ok (.invokevirtual 97, 3) := by decide +kernel
theorem dX11_tokenAt_97 : decode cX11_tokenAt 97 = .ok (.aload_n 0, 1) := by decide +kernel
theorem dX11_tokenAt_98 : decode cX11_tokenAt 98 = .ok (.bipush 7, 2) := by decide +kernel
theorem dX11_tokenAt_100 : decode cX11_tokenAt 100 = .ok (.invokevirtual 47, 3) := by decide +kernel
theorem dX11_tokenAt_103 : decode cX11_tokenAt 103 = .ok (.if_icmp .ge 9, 3) := by decide +kernel
theorem dX11_tokenAt_106 : decode cX11_tokenAt 106 = .ok (.aload_n 0, 1) := by decide +kernel
theorem dX11_tokenAt_107 : decode cX11_tokenAt 107 = .ok (.iload_n 1, 1) := by decide +kernel
theorem dX11_tokenAt_108 : decode cX11_tokenAt 108 = .ok (.invokevirtual 106, 3) := by decide +kernel
theorem dX11_tokenAt_111 : decode cX11_tokenAt 111 = .ok (.return_, 1) := by decide +kernel
theorem dX11_tokenAt_112 : decode cX11_tokenAt 112 = .ok (.aload_n 0, 1) := by decide +kernel
theorem dX11_tokenAt_113 : decode cX11_tokenAt 113 = .ok (.iload_n 1, 1) := by decide +kernel
theorem dX11_tokenAt_114 : decode cX11_tokenAt 114 = .ok (.invokevirtual 66, 3) := by decide +kernel
theorem dX11_tokenAt_117 : decode cX11_tokenAt 117 = .ok (.istore_n 3, 1) := by decide +kernel
theorem dX11_tokenAt_118 : decode cX11_tokenAt 118 = .ok (.aload_n 0, 1) := by decide +kernel
theorem dX11_tokenAt_119 : decode cX11_tokenAt 119 = .ok (.iconst 5, 1) := by decide +kernel
theorem dX11_tokenAt_120 : decode cX11_tokenAt 120 = .ok (.iconst 2, 1) := by decide +kernel
theorem dX11_tokenAt_121 : decode cX11_tokenAt 121 = .ok (.invokevirtual 43, 3) := by decide +kernel
theorem dX11_tokenAt_124 : decode cX11_tokenAt 124 = .ok (.aload_n 0, 1) := by decide +kernel
theorem dX11_tokenAt_125 : decode cX11_tokenAt 125 = .ok (.bipush 10, 2) := by decide +kernel
theorem dX11_tokenAt_127 : decode cX11_tokenAt 127 = .ok (.iload_n 1, 1) := by decide +kernel
theorem dX11_tokenAt_128 : decode cX11_tokenAt 128 = .ok (.invokevirtual 43, 3) := by decide +kernel
theorem dX11_tokenAt_131 : decode cX11_tokenAt 131 = .ok (.iconst 0, 1) := by decide +kernel
theorem dX11_tokenAt_132 : decode cX11_tokenAt 132 = .ok (.istore 4, 2) := by decide +kernel
theorem dX11_tokenAt_134 : decode cX11_tokenAt 134 = .ok (.iload 4, 2) := by decide +kernel
theorem dX11_tokenAt_136 : decode cX11_tokenAt 136 = .ok (.iconst 4, 1) := by decide +kernel
theorem dX11_tokenAt_137 : decode cX11_tokenAt 137 = .ok (.if_icmp .ge 59, 3) := by decide +kernel
theorem dX11_tokenAt_140 : decode cX11_tokenAt 140 = .ok (.aload_n 0, 1) := by decide +kernel
theorem dX11_tokenAt_141 : decode cX11_tokenAt 141 = .ok (.iload 4, 2) := by decide +kernel
theorem dX11_tokenAt_143 : decode cX11_tokenAt 143 = .ok (.ifCond .ne 8, 3) := by decide +kernel
theorem dX11_tokenAt_146 : decode cX11_tokenAt 146 = .ok (.bipush 14, 2) := by decide +kernel
theorem dX11_tokenAt_148 : decode cX11_tokenAt 148 = .ok (.goto 27, 3) := by decide +kernel
theorem dX11_tokenAt_151 : decode cX11_tokenAt 151 = .ok (.iload 4, 2) := by decide +kernel
theorem dX11_tokenAt_153 : decode cX11_tokenAt 153 = .ok (.iconst 1, 1) := by decide +kernel
theorem dX11_tokenAt_154 : decode cX11_tokenAt 154 = .ok (.if_icmp .ne 8, 3) := by decide +kernel
theorem dX11_tokenAt_157 : decode cX11_tokenAt 157 = .ok (.bipush 11, 2) := by decide +kernel
theorem dX11_tokenAt_159 : decode cX11_tokenAt 159 = .ok (.goto 16, 3) := by decide +kernel
theorem dX11_tokenAt_162 : decode cX11_tokenAt 162 = .ok (.iload 4, 2) := by decide +kernel
theorem dX11_tokenAt_164 : decode cX11_tokenAt 164 = .ok (.iconst 2, 1) := by decide +kernel
theorem dX11_tokenAt_165 : decode cX11_tokenAt 165 = .ok (.if_icmp .ne 8, 3) := by decide +kernel
theorem dX11_tokenAt_168 : decode cX11_tokenAt 168 = .ok (.bipush 12, 2) := by decide +kernel
theorem dX11_tokenAt_170 : decode cX11_tokenAt 170 = .ok (.goto 5, 3) := by decide +kernel
theorem dX11_tokenAt_173 : decode cX11_tokenAt 173 = .ok (.bipush 15, 2) := by decide +kernel
theorem dX11_tokenAt_175 : decode cX11_tokenAt 175 = .ok (.aload_n 0, 1) := by decide +kernel
theorem dX11_tokenAt_176 : decode cX11_tokenAt 176 = .ok (.iload_n 1, 1) := by decide +kernel
theorem dX11_tokenAt_177 : decode cX11_tokenAt 177 = .ok (.iload_n 3, 1) := by decide +kernel
theorem dX11_tokenAt_178 : decode cX11_tokenAt 178 = .ok (.invokestatic 62, 3) := by decide +kernel
theorem dX11_tokenAt_181 : decode cX11_tokenAt 181 = .ok (.iload 4, 2) := by decide +kernel
theorem dX11_tokenAt_183 : decode cX11_tokenAt 183 = .ok (.iadd, 1) := by decide +kernel
theorem dX11_tokenAt_184 : decode cX11_tokenAt 184 = .ok (.invokevirtual 47, 3) := by decide +kernel
theorem dX11_tokenAt_187 : decode cX11_tokenAt 187 = .ok (.invokevirtual 43, 3) := by decide +kernel
theorem dX11_tokenAt_190 : decode cX11_tokenAt 190 = .ok (.iinc 4 1, 3) := by decide +kernel
theorem dX11_tokenAt_193 : decode cX11_tokenAt 193 = .ok (.goto (-59), 3) := by decide +kernel
theorem dX11_tokenAt_196 : decode cX11_tokenAt 196 = .ok (.aload_n 0, 1) := by decide +kernel
theorem dX11_tokenAt_197 : decode cX11_tokenAt 197 = .ok (.bipush 13, 2) := by decide +kernel
theorem dX11_tokenAt_199 : decode cX11_tokenAt 199 = .ok (.iconst 0, 1) := by decide +kernel
theorem dX11_tokenAt_200 : decode cX11_tokenAt 200 = .ok (.invokevirtual 43, 3) := by decide +kernel
theorem dX11_tokenAt_203 : decode cX11_tokenAt 203 = .ok (.aload_n 0, 1) := by decide +kernel
theorem dX11_tokenAt_204 : decode cX11_tokenAt 204 = .ok (.bipush 8, 2) := by decide +kernel
theorem dX11_tokenAt_206 : decode cX11_tokenAt 206 = .ok (.iconst 0, 1) := by decide +kernel
theorem dX11_tokenAt_207 : decode cX11_tokenAt 207 = .ok (.invokevirtual 43, 3) := by decide +kernel
theorem dX11_tokenAt_210 : decode cX11_tokenAt 210 = .ok (.aload_n 0, 1) := by decide +kernel
theorem dX11_tokenAt_211 : decode cX11_tokenAt 211 = .ok (.bipush 9, 2) := by decide +kernel
theorem dX11_tokenAt_213 : decode cX11_tokenAt 213 = .ok (.iconst 0, 1) := by decide +kernel
theorem dX11_tokenAt_214 : decode cX11_tokenAt 214 = .ok (.invokevirtual 43, 3) := by decide +kernel
theorem dX11_tokenAt_217 : decode cX11_tokenAt 217 = .ok (.aload_n 0, 1) := by decide +kernel
theorem dX11_tokenAt_218 : decode cX11_tokenAt 218 = .ok (.iload_n 1, 1) := by decide +kernel
theorem dX11_tokenAt_219 : decode cX11_tokenAt 219 = .ok (.iload_n 3, 1) := by decide +kernel
theorem dX11_tokenAt_220 : decode cX11_tokenAt 220 = .ok (.invokevirtual 109, 3) := by decide +kernel
theorem dX11_tokenAt_223 : decode cX11_tokenAt 223 = .ok (.return_, 1) := by decide +kernel
theorem dX11_topRaise_0 : decode cX11_topRaise 0 = .ok (.iload_n 1, 1) := by decide +kernel
theorem dX11_topRaise_1 : decode cX11_topRaise 1 = .ok (.aload_n 0, 1) := by decide +kernel
theorem dX11_topRaise_2 : decode cX11_topRaise 2 = .ok (.bipush 88, 2) := by decide +kernel
theorem dX11_topRaise_4 : decode cX11_topRaise 4 = .ok (.iload_n 1, 1) := by decide +kernel
theorem dX11_topRaise_5 : decode cX11_topRaise 5 = .ok (.iadd, 1) := by decide +kernel
theorem dX11_topRaise_6 : decode cX11_topRaise 6 = .ok (.invokevirtual 47, 3) := by decide +kernel
theorem dX11_topRaise_9 : decode cX11_topRaise 9 = .ok (.iconst 1, 1) := by decide +kernel
theorem dX11_topRaise_10 : decode cX11_topRaise 10 = .ok (.isub, 1) := by decide +kernel
theorem dX11_topRaise_11 : decode cX11_topRaise 11 = .ok (.invokestatic 91, 3) := by decide +kernel
theorem dX11_topRaise_14 : decode cX11_topRaise 14 = .ok (.istore_n 2, 1) := by decide +kernel
theorem dX11_topRaise_15 : decode cX11_topRaise 15 = .ok (.aload_n 0, 1) := by decide +kernel
theorem dX11_topRaise_16 : decode cX11_topRaise 16 = .ok (.bipush 88, 2) := by decide +kernel
theorem dX11_topRaise_18 : decode cX11_topRaise 18 = .ok (.iload_n 1, 1) := by decide +kernel
theorem dX11_topRaise_19 : decode cX11_topRaise 19 = .ok (.iadd, 1) := by decide +kernel
theorem dX11_topRaise_20 : decode cX11_topRaise 20 = .ok (.invokevirtual 47, 3) := by decide +kernel
theorem dX11_topRaise_23 : decode cX11_topRaise 23 = .ok (.ifCond .le 23, 3) := by decide +kernel
theorem dX11_topRaise_26 : decode cX11_topRaise 26 = .ok (.aload_n 0, 1) := by decide +kernel
theorem dX11_topRaise_27 : decode cX11_topRaise 27 = .ok (.iload_n 2, 1) := by decide +kernel
theorem dX11_topRaise_28 : decode cX11_topRaise 28 = .ok (.iconst 1, 1) := by decide +kernel
theorem dX11_topRaise_29 : decode cX11_topRaise 29 = .ok (.iadd, 1) := by decide +kernel
theorem dX11_topRaise_30 : decode cX11_topRaise 30 = .ok (.invokevirtual 47, 3) := by decide +kernel
theorem dX11_topRaise_33 : decode cX11_topRaise 33 = .ok (.aload_n 0, 1) := by decide +kernel
theorem dX11_topRaise_34 : decode cX11_topRaise 34 = .ok (.bipush 7, 2) := by decide +kernel
theorem dX11_topRaise_36 : decode cX11_topRaise 36 = .ok (.invokevirtual 47, 3) := by decide +kernel
theorem dX11_topRaise_39 : decode cX11_topRaise 39 = .ok (.if_icmp .ne 7, 3) := by decide +kernel
theorem dX11_topRaise_42 : decode cX11_topRaise 42 = .ok (.iload_n 2, 1) := by decide +kernel
theorem dX11_topRaise_43 : decode cX11_topRaise 43 = .ok (.goto 4, 3) := by decide +kernel
theorem dX11_topRaise_46 : decode cX11_topRaise 46 = .ok (.iconst (-1), 1) := by decide +kernel
theorem dX11_topRaise_47 : decode cX11_topRaise 47 = .ok (.ireturn, 1) := by decide +kernel
theorem dX11_turnsOff_0 : decode cX11_turnsOff 0 = .ok (.aload_n 0, 1) := by decide +kernel
theorem dX11_turnsOff_1 : decode cX11_turnsOff 1 = .ok (.bipush 48, 2) := by decide +kernel
theorem dX11_turnsOff_3 : decode cX11_turnsOff 3 = .ok (.iload_n 1, 1) := by decide +kernel
theorem dX11_turnsOff_4 : decode cX11_turnsOff 4 = .ok (.iadd, 1) := by decide +kernel
theorem dX11_turnsOff_5 : decode cX11_turnsOff 5 = .ok (.iconst 0, 1) := by decide +kernel
theorem dX11_turnsOff_6 : decode cX11_turnsOff 6 = .ok (.invokevirtual 43, 3) := by decide +kernel
theorem dX11_turnsOff_9 : decode cX11_turnsOff 9 = .ok (.aload_n 0, 1) := by decide +kernel
theorem dX11_turnsOff_10 : decode cX11_turnsOff 10 = .ok (.iload_n 1, 1) := by decide +kernel
theorem dX11_turnsOff_11 : decode cX11_turnsOff 11 = .ok (.invokevirtual 75, 3) := by decide +kernel
theorem dX11_turnsOff_14 : decode cX11_turnsOff 14 = .ok (.return_, 1) := by decide +kernel
theorem dX11_waitAll_0 : decode cX11_waitAll 0 = .ok (.iconst 0, 1) := by decide +kernel
theorem dX11_waitAll_1 : decode cX11_waitAll 1 = .ok (.istore_n 1, 1) := by decide +kernel
theorem dX11_waitAll_2 : decode cX11_waitAll 2 = .ok (.iconst 0, 1) := by decide +kernel
theorem dX11_waitAll_3 : decode cX11_waitAll 3 = .ok (.istore_n 2, 1) := by decide +kernel
theorem dX11_waitAll_4 : decode cX11_waitAll 4 = .ok (.iload_n 2, 1) := by decide +kernel
theorem dX11_waitAll_5 : decode cX11_waitAll 5 = .ok (.aload_n 0, 1) := by decide +kernel
theorem dX11_waitAll_6 : decode cX11_waitAll 6 = .ok (.iconst 0, 1) := by decide +kernel
theorem dX11_waitAll_7 : decode cX11_waitAll 7 = .ok (.invokevirtual 47, 3) := by decide +kernel
theorem dX11_waitAll_10 : decode cX11_waitAll 10 = .ok (.if_icmp .ge 20, 3) := by decide +kernel
theorem dX11_waitAll_13 : decode cX11_waitAll 13 = .ok (.iload_n 1, 1) := by decide +kernel
theorem dX11_waitAll_14 : decode cX11_waitAll 14 = .ok (.aload_n 0, 1) := by decide +kernel
theorem dX11_waitAll_15 : decode cX11_waitAll 15 = .ok (.bipush 80, 2) := by decide +kernel
theorem dX11_waitAll_17 : decode cX11_waitAll 17 = .ok (.iload_n 2, 1) := by decide +kernel
theorem dX11_waitAll_18 : decode cX11_waitAll 18 = .ok (.iadd, 1) := by decide +kernel
theorem dX11_waitAll_19 : decode cX11_waitAll 19 = .ok (.invokevirtual 47, 3) := by decide +kernel
theorem dX11_waitAll_22 : decode cX11_waitAll 22 = .ok (.iadd, 1) := by decide +kernel
theorem dX11_waitAll_23 : decode cX11_waitAll 23 = .ok (.istore_n 1, 1) := by decide +kernel
theorem dX11_waitAll_24 : decode cX11_waitAll 24 = .ok (.iinc 2 1, 3) := by decide +kernel
theorem dX11_waitAll_27 : decode cX11_waitAll 27 = .ok (.goto (-23), 3) := by decide +kernel
theorem dX11_waitAll_30 : decode cX11_waitAll 30 = .ok (.iload_n 1, 1) := by decide +kernel
theorem dX11_waitAll_31 : decode cX11_waitAll 31 = .ok (.ireturn, 1) := by decide +kernel
theorem dX11_waitAt_0 : decode cX11_waitAt 0 = .ok (.bipush 96, 2) := by decide +kernel
theorem dX11_waitAt_2 : decode cX11_waitAt 2 = .ok (.iconst 4, 1) := by decide +kernel
theorem dX11_waitAt_3 : decode cX11_waitAt 3 = .ok (.bipush 6, 2) := by decide +kernel
theorem dX11_waitAt_5 : decode cX11_waitAt 5 = .ok (.iload_n 0, 1) := by decide +kernel
theorem dX11_waitAt_6 : decode cX11_waitAt 6 = .ok (.imul, 1) := by decide +kernel
theorem dX11_waitAt_7 : decode cX11_waitAt 7 = .ok (.iload_n 1, 1) := by decide +kernel
theorem dX11_waitAt_8 : decode cX11_waitAt 8 = .ok (.iadd, 1) := by decide +kernel
theorem dX11_waitAt_9 : decode cX11_waitAt 9 = .ok (.imul, 1) := by decide +kernel
theorem dX11_waitAt_10 : decode cX11_waitAt 10 = .ok (.iadd, 1) := by decide +kernel
theorem dX11_waitAt_11 : decode cX11_waitAt 11 = .ok (.ireturn, 1) := by decide +kernel
theorem dX11_waiting_0 : decode cX11_waiting 0 = .ok (.iconst 0, 1) := by decide +kernel
theorem dX11_waiting_1 : decode cX11_waiting 1 = .ok (.istore_n 1, 1) := by decide +kernel
theorem dX11_waiting_2 : decode cX11_waiting 2 = .ok (.iconst 0, 1) := by decide +kernel
theorem dX11_waiting_3 : decode cX11_waiting 3 = .ok (.istore_n 2, 1) := by decide +kernel
theorem dX11_waiting_4 : decode cX11_waiting 4 = .ok (.iload_n 2, 1) := by decide +kernel
theorem dX11_waiting_5 : decode cX11_waiting 5 = .ok (.aload_n 0, 1) := by decide +kernel
theorem dX11_waiting_6 : decode cX11_waiting 6 = .ok (.iconst 0, 1) := by decide +kernel
theorem dX11_waiting_7 : decode cX11_waiting 7 = .ok (.invokevirtual 47, 3) := by decide +kernel
theorem dX11_waiting_10 : decode cX11_waiting 10 = .ok (.if_icmp .ge 47, 3) := by decide +kernel
theorem dX11_waiting_13 : decode cX11_waiting 13 = .ok (.iconst 0, 1) := by decide +kernel
theorem dX11_waiting_14 : decode cX11_waiting 14 = .ok (.istore_n 3, 1) := by decide +kernel
theorem dX11_waiting_15 : decode cX11_waiting 15 = .ok (.iload_n 3, 1) := by decide +kernel
theorem dX11_waiting_16 : decode cX11_waiting 16 = .ok (.aload_n 0, 1) := by decide +kernel
theorem dX11_waiting_17 : decode cX11_waiting 17 = .ok (.bipush 80, 2) := by decide +kernel
theorem dX11_waiting_19 : decode cX11_waiting 19 = .ok (.iload_n 2, 1) := by decide +kernel
theorem dX11_waiting_20 : decode cX11_waiting 20 = .ok (.iadd, 1) := by decide +kernel
theorem dX11_waiting_21 : decode cX11_waiting 21 = .ok (.invokevirtual 47, 3) := by decide +kernel
theorem dX11_waiting_24 : decode cX11_waiting 24 = .ok (.if_icmp .ge 27, 3) := by decide +kernel
theorem dX11_waiting_27 : decode cX11_waiting 27 = .ok (.aload_n 0, 1) := by decide +kernel
theorem dX11_waiting_28 : decode cX11_waiting 28 = .ok (.getfield 31, 3) := by decide +kernel
theorem dX11_waiting_31 : decode cX11_waiting 31 = .ok (.iload_n 1, 1) := by decide +kernel
theorem dX11_waiting_32 : decode cX11_waiting 32 = .ok (.aload_n 0, 1) := by decide +kernel
theorem dX11_waiting_33 : decode cX11_waiting 33 = .ok (.iload_n 2, 1) := by decide +kernel
theorem dX11_waiting_34 : decode cX11_waiting 34 = .ok (.iload_n 3, 1) := by decide +kernel
theorem dX11_waiting_35 : decode cX11_waiting 35 = .ok (.invokestatic 62, 3) := by decide +kernel
theorem dX11_waiting_38 : decode cX11_waiting 38 = .ok (.invokevirtual 47, 3) := by decide +kernel
theorem dX11_waiting_41 : decode cX11_waiting 41 = .ok (.iastore, 1) := by decide +kernel
theorem dX11_waiting_42 : decode cX11_waiting 42 = .ok (.iinc 1 1, 3) := by decide +kernel
theorem dX11_waiting_45 : decode cX11_waiting 45 = .ok (.iinc 3 1, 3) := by decide +kernel
theorem dX11_waiting_48 : decode cX11_waiting 48 = .ok (.goto (-33), 3) := by decide +kernel
theorem dX11_waiting_51 : decode cX11_waiting 51 = .ok (.iinc 2 1, 3) := by decide +kernel
theorem dX11_waiting_54 : decode cX11_waiting 54 = .ok (.goto (-50), 3) := by decide +kernel
theorem dX11_waiting_57 : decode cX11_waiting 57 = .ok (.iload_n 1, 1) := by decide +kernel
theorem dX11_waiting_58 : decode cX11_waiting 58 = .ok (.ireturn, 1) := by decide +kernel
theorem dX11_waits_0 : decode cX11_waits 0 = .ok (.iload_n 2, 1) := by decide +kernel
theorem dX11_waits_1 : decode cX11_waits 1 = .ok (.ifCond .lt 12, 3) := by decide +kernel
theorem dX11_waits_4 : decode cX11_waits 4 = .ok (.iload_n 3, 1) := by decide +kernel
theorem dX11_waits_5 : decode cX11_waits 5 = .ok (.iconst 0, 1) := by decide +kernel
theorem dX11_waits_6 : decode cX11_waits 6 = .ok (.iconst 2, 1) := by decide +kernel
theorem dX11_waits_7 : decode cX11_waits 7 = .ok (.invokestatic 228, 3) := by decide +kernel
theorem dX11_waits_10 : decode cX11_waits 10 = .ok (.ifCond .ne 7, 3) := by decide +kernel
theorem dX11_waits_13 : decode cX11_waits 13 = .ok (.iconst 1, 1) := by decide +kernel
theorem dX11_waits_14 : decode cX11_waits 14 = .ok (.goto 8, 3) := by decide +kernel
theorem dX11_waits_17 : decode cX11_waits 17 = .ok (.aload_n 0, 1) := by decide +kernel
theorem dX11_waits_18 : decode cX11_waits 18 = .ok (.iload_n 1, 1) := by decide +kernel
theorem dX11_waits_19 : decode cX11_waits 19 = .ok (.invokevirtual 288, 3) := by decide +kernel
theorem dX11_waits_22 : decode cX11_waits 22 = .ok (.istore 4, 2) := by decide +kernel
theorem dX11_waits_24 : decode cX11_waits 24 = .ok (.iload 4, 2) := by decide +kernel
theorem dX11_waits_26 : decode cX11_waits 26 = .ok (.ifCond .ne 18, 3) := by decide +kernel
theorem dX11_waits_29 : decode cX11_waits 29 = .ok (.iload_n 2, 1) := by decide +kernel
theorem dX11_waits_30 : decode cX11_waits 30 = .ok (.aload_n 0, 1) := by decide +kernel
theorem dX11_waits_31 : decode cX11_waits 31 = .ok (.bipush 80, 2) := by decide +kernel
theorem dX11_waits_33 : decode cX11_waits 33 = .ok (.iload_n 1, 1) := by decide +kernel
theorem dX11_waits_34 : decode cX11_waits 34 = .ok (.iadd, 1) := by decide +kernel
theorem dX11_waits_35 : decode cX11_waits 35 = .ok (.invokevirtual 47, 3) := by decide +kernel
theorem dX11_waits_38 : decode cX11_waits 38 = .ok (.if_icmp .lt 6, 3) := by decide +kernel
theorem dX11_waits_41 : decode cX11_waits 41 = .ok (.iconst 5, 1) := by decide +kernel
theorem dX11_waits_42 : decode cX11_waits 42 = .ok (.istore 4, 2) := by decide +kernel
theorem dX11_waits_44 : decode cX11_waits 44 = .ok (.iload 4, 2) := by decide +kernel
theorem dX11_waits_46 : decode cX11_waits 46 = .ok (.ifCond .le 12, 3) := by decide +kernel
theorem dX11_waits_49 : decode cX11_waits 49 = .ok (.aload_n 0, 1) := by decide +kernel
theorem dX11_waits_50 : decode cX11_waits 50 = .ok (.iload 4, 2) := by decide +kernel
theorem dX11_waits_52 : decode cX11_waits 52 = .ok (.invokevirtual 267, 3) := by decide +kernel
theorem dX11_waits_55 : decode cX11_waits 55 = .ok (.goto 18, 3) := by decide +kernel
theorem dX11_waits_58 : decode cX11_waits 58 = .ok (.aload_n 0, 1) := by decide +kernel
theorem dX11_waits_59 : decode cX11_waits 59 = .ok (.aload_n 0, 1) := by decide +kernel
theorem dX11_waits_60 : decode cX11_waits 60 = .ok (.iload_n 1, 1) := by decide +kernel
theorem dX11_waits_61 : decode cX11_waits 61 = .ok (.iload_n 2, 1) := by decide +kernel
theorem dX11_waits_62 : decode cX11_waits 62 = .ok (.invokestatic 62, 3) := by decide +kernel
theorem dX11_waits_65 : decode cX11_waits 65 = .ok (.iload_n 3, 1) := by decide +kernel
theorem dX11_waits_66 : decode cX11_waits 66 = .ok (.iadd, 1) := by decide +kernel
theorem dX11_waits_67 : decode cX11_waits 67 = .ok (.invokevirtual 47, 3) := by decide +kernel
theorem dX11_waits_70 : decode cX11_waits 70 = .ok (.invokevirtual 276, 3) := by decide +kernel
theorem dX11_waits_73 : decode cX11_waits 73 = .ok (.ireturn, 1) := by decide +kernel
theorem dX11_way_0 : decode cX11_way 0 = .ok (.iload_n 1, 1) := by decide +kernel
theorem dX11_way_1 : decode cX11_way 1 = .ok (.iconst 0, 1) := by decide +kernel
theorem dX11_way_2 : decode cX11_way 2 = .ok (.bipush 9, 2) := by decide +kernel
theorem dX11_way_4 : decode cX11_way 4 = .ok (.invokestatic 228, 3) := by decide +kernel
theorem dX11_way_7 : decode cX11_way 7 = .ok (.ifCond .ne 9, 3) := by decide +kernel
theorem dX11_way_10 : decode cX11_way 10 = .ok (.aload_n 0, 1) := by decide +kernel
theorem dX11_way_11 : decode cX11_way 11 = .ok (.iconst 1, 1) := by decide +kernel
theorem dX11_way_12 : decode cX11_way 12 = .ok (.invokevirtual 267, 3) := by decide +kernel
theorem dX11_way_15 : decode cX11_way 15 = .ok (.ireturn, 1) := by decide +kernel
theorem dX11_way_16 : decode cX11_way 16 = .ok (.iload_n 1, 1) := by decide +kernel
theorem dX11_way_17 : decode cX11_way 17 = .ok (.ifCond .ne 13, 3) := by decide +kernel
theorem dX11_way_20 : decode cX11_way 20 = .ok (.aload_n 0, 1) := by decide +kernel
theorem dX11_way_21 : decode cX11_way 21 = .ok (.aload_n 0, 1) := by decide +kernel
theorem dX11_way_22 : decode cX11_way 22 = .ok (.iconst 5, 1) := by decide +kernel
theorem dX11_way_23 : decode cX11_way 23 = .ok (.invokevirtual 47, 3) := by decide +kernel
theorem dX11_way_26 : decode cX11_way 26 = .ok (.invokevirtual 276, 3) := by decide +kernel
theorem dX11_way_29 : decode cX11_way 29 = .ok (.ireturn, 1) := by decide +kernel
theorem dX11_way_30 : decode cX11_way 30 = .ok (.aload_n 0, 1) := by decide +kernel
theorem dX11_way_31 : decode cX11_way 31 = .ok (.iconst 5, 1) := by decide +kernel
theorem dX11_way_32 : decode cX11_way 32 = .ok (.invokevirtual 47, 3) := by decide +kernel
theorem dX11_way_35 : decode cX11_way 35 = .ok (.ifCond .eq 17, 3) := by decide +kernel
theorem dX11_way_38 : decode cX11_way 38 = .ok (.iload_n 1, 1) := by decide +kernel
theorem dX11_way_39 : decode cX11_way 39 = .ok (.iconst 4, 1) := by decide +kernel
theorem dX11_way_40 : decode cX11_way 40 = .ok (.if_icmp .le 19, 3) := by decide +kernel
theorem dX11_way_43 : decode cX11_way 43 = .ok (.aload_n 0, 1) := by decide +kernel
theorem dX11_way_44 : decode cX11_way 44 = .ok (.iconst 5, 1) := by decide +kernel
theorem dX11_way_45 : decode cX11_way 45 = .ok (.invokevirtual 47, 3) := by decide +kernel
theorem dX11_way_48 : decode cX11_way 48 = .ok (.iconst 2, 1) := by decide +kernel
theorem dX11_way_49 : decode cX11_way 49 = .ok (.if_icmp .eq 10, 3) := by decide +kernel
theorem dX11_way_52 : decode cX11_way 52 = .ok (.aload_n 0, 1) := by decide +kernel
theorem dX11_way_53 : decode cX11_way 53 = .ok (.bipush 6, 2) := by decide +kernel
theorem dX11_way_55 : decode cX11_way 55 = .ok (.invokevirtual 267, 3) := by decide +kernel
theorem dX11_way_58 : decode cX11_way 58 = .ok (.ireturn, 1) := by decide +kernel
theorem dX11_way_59 : decode cX11_way 59 = .ok (.aload_n 0, 1) := by decide +kernel
theorem dX11_way_60 : decode cX11_way 60 = .ok (.aload_n 0, 1) := by decide +kernel
theorem dX11_way_61 : decode cX11_way 61 = .ok (.iload_n 1, 1) := by decide +kernel
theorem dX11_way_62 : decode cX11_way 62 = .ok (.iconst 5, 1) := by decide +kernel
theorem dX11_way_63 : decode cX11_way 63 = .ok (.if_icmp .ge 12, 3) := by decide +kernel
theorem dX11_way_66 : decode cX11_way 66 = .ok (.bipush 6, 2) := by decide +kernel
theorem dX11_way_68 : decode cX11_way 68 = .ok (.iload_n 1, 1) := by decide +kernel
theorem dX11_way_69 : decode cX11_way 69 = .ok (.iadd, 1) := by decide +kernel
theorem dX11_way_70 : decode cX11_way 70 = .ok (.iconst 1, 1) := by decide +kernel
theorem dX11_way_71 : decode cX11_way 71 = .ok (.isub, 1) := by decide +kernel
theorem dX11_way_72 : decode cX11_way 72 = .ok (.goto 9, 3) := by decide +kernel
theorem dX11_way_75 : decode cX11_way 75 = .ok (.bipush 10, 2) := by decide +kernel
theorem dX11_way_77 : decode cX11_way 77 = .ok (.iload_n 1, 1) := by decide +kernel
theorem dX11_way_78 : decode cX11_way 78 = .ok (.iadd, 1) := by decide +kernel
theorem dX11_way_79 : decode cX11_way 79 = .ok (.iconst 5, 1) := by decide +kernel
theorem dX11_way_80 : decode cX11_way 80 = .ok (.isub, 1) := by decide +kernel
theorem dX11_way_81 : decode cX11_way 81 = .ok (.invokevirtual 47, 3) := by decide +kernel
theorem dX11_way_84 : decode cX11_way 84 = .ok (.invokevirtual 276, 3) := by decide +kernel
theorem dX11_way_87 : decode cX11_way 87 = .ok (.ireturn, 1) := by decide +kernel
theorem dX11_when_0 : decode cX11_when 0 = .ok (.iload_n 1, 1) := by decide +kernel
theorem dX11_when_1 : decode cX11_when 1 = .ok (.ifCond .ge 9, 3) := by decide +kernel
theorem dX11_when_4 : decode cX11_when 4 = .ok (.aload_n 0, 1) := by decide +kernel
theorem dX11_when_5 : decode cX11_when 5 = .ok (.iconst 1, 1) := by decide +kernel
theorem dX11_when_6 : decode cX11_when 6 = .ok (.invokevirtual 267, 3) := by decide +kernel
theorem dX11_when_9 : decode cX11_when 9 = .ok (.ireturn, 1) := by decide +kernel
theorem dX11_when_10 : decode cX11_when 10 = .ok (.aload_n 0, 1) := by decide +kernel
theorem dX11_when_11 : decode cX11_when 11 = .ok (.iconst 5, 1) := by decide +kernel
theorem dX11_when_12 : decode cX11_when 12 = .ok (.invokevirtual 47, 3) := by decide +kernel
theorem dX11_when_15 : decode cX11_when 15 = .ok (.iconst 2, 1) := by decide +kernel
theorem dX11_when_16 : decode cX11_when 16 = .ok (.if_icmp .ne 17, 3) := by decide +kernel
theorem dX11_when_19 : decode cX11_when 19 = .ok (.aload_n 0, 1) := by decide +kernel
theorem dX11_when_20 : decode cX11_when 20 = .ok (.bipush 14, 2) := by decide +kernel
theorem dX11_when_22 : decode cX11_when 22 = .ok (.invokevirtual 47, 3) := by decide +kernel
theorem dX11_when_25 : decode cX11_when 25 = .ok (.iload_n 1, 1) := by decide +kernel
theorem dX11_when_26 : decode cX11_when 26 = .ok (.if_icmp .ne 7, 3) := by decide +kernel
theorem dX11_when_29 : decode cX11_when 29 = .ok (.iconst 1, 1) := by decide +kernel
theorem dX11_when_30 : decode cX11_when 30 = .ok (.goto 4, 3) := by decide +kernel
theorem dX11_when_33 : decode cX11_when 33 = .ok (.iconst 0, 1) := by decide +kernel
theorem dX11_when_34 : decode cX11_when 34 = .ok (.istore_n 3, 1) := by decide +kernel
theorem dX11_when_35 : decode cX11_when 35 = .ok (.aload_n 0, 1) := by decide +kernel
theorem dX11_when_36 : decode cX11_when 36 = .ok (.invokevirtual 339, 3) := by decide +kernel
theorem dX11_when_39 : decode cX11_when 39 = .ok (.iconst 1, 1) := by decide +kernel
theorem dX11_when_40 : decode cX11_when 40 = .ok (.isub, 1) := by decide +kernel
theorem dX11_when_41 : decode cX11_when 41 = .ok (.istore 4, 2) := by decide +kernel
theorem dX11_when_43 : decode cX11_when 43 = .ok (.iload 4, 2) := by decide +kernel
theorem dX11_when_45 : decode cX11_when 45 = .ok (.ifCond .lt 30, 3) := by decide +kernel
theorem dX11_when_48 : decode cX11_when 48 = .ok (.iload_n 3, 1) := by decide +kernel
theorem dX11_when_49 : decode cX11_when 49 = .ok (.ifCond .ne 14, 3) := by decide +kernel
theorem dX11_when_52 : decode cX11_when 52 = .ok (.aload_n 0, 1) := by decide +kernel
theorem dX11_when_53 : decode cX11_when 53 = .ok (.getfield 31, 3) := by decide +kernel
theorem dX11_when_56 : decode cX11_when 56 = .ok (.iload 4, 2) := by decide +kernel
theorem dX11_when_58 : decode cX11_when 58 = .ok (.iaload, 1) := by decide +kernel
theorem dX11_when_59 : decode cX11_when 59 = .ok (.iload_n 1, 1) := by decide +kernel
theorem dX11_when_60 : decode cX11_when 60 = .ok (.if_icmp .ne 7, 3) := by decide +kernel
theorem dX11_when_63 : decode cX11_when 63 = .ok (.iconst 1, 1) := by decide +kernel
theorem dX11_when_64 : decode cX11_when 64 = .ok (.goto 4, 3) := by decide +kernel
theorem dX11_when_67 : decode cX11_when 67 = .ok (.iconst 0, 1) := by decide +kernel
theorem dX11_when_68 : decode cX11_when 68 = .ok (.istore_n 3, 1) := by decide +kernel
theorem dX11_when_69 : decode cX11_when 69 = .ok (.iinc 4 (-1), 3) := by decide +kernel
theorem dX11_when_72 : decode cX11_when 72 = .ok (.goto (-29), 3) := by decide +kernel
theorem dX11_when_75 : decode cX11_when 75 = .ok (.iload_n 3, 1) := by decide +kernel
theorem dX11_when_76 : decode cX11_when 76 = .ok (.ifCond .ne 9, 3) := by decide +kernel
theorem dX11_when_79 : decode cX11_when 79 = .ok (.aload_n 0, 1) := by decide +kernel
theorem dX11_when_80 : decode cX11_when 80 = .ok (.iconst 5, 1) := by decide +kernel
theorem dX11_when_81 : decode cX11_when 81 = .ok (.invokevirtual 267, 3) := by decide +kernel
theorem dX11_when_84 : decode cX11_when 84 = .ok (.ireturn, 1) := by decide +kernel
theorem dX11_when_85 : decode cX11_when 85 = .ok (.aload_n 0, 1) := by decide +kernel
theorem dX11_when_86 : decode cX11_when 86 = .ok (.getfield 31, 3) := by decide +kernel
theorem dX11_when_89 : decode cX11_when 89 = .ok (.iconst 0, 1) := by decide +kernel
theorem dX11_when_90 : decode cX11_when 90 = .ok (.iload_n 1, 1) := by decide +kernel
theorem dX11_when_91 : decode cX11_when 91 = .ok (.iastore, 1) := by decide +kernel
theorem dX11_when_92 : decode cX11_when 92 = .ok (.aload_n 0, 1) := by decide +kernel
theorem dX11_when_93 : decode cX11_when 93 = .ok (.iconst 1, 1) := by decide +kernel
theorem dX11_when_94 : decode cX11_when 94 = .ok (.iload_n 2, 1) := by decide +kernel
theorem dX11_when_95 : decode cX11_when 95 = .ok (.iconst 0, 1) := by decide +kernel
theorem dX11_when_96 : decode cX11_when 96 = .ok (.invokevirtual 342, 3) := by decide +kernel
theorem dX11_when_99 : decode cX11_when 99 = .ok (.aload_n 0, 1) := by decide +kernel
theorem dX11_when_100 : decode cX11_when 100 = .ok (.getfield 34, 3) := by decide +kernel
theorem dX11_when_103 : decode cX11_when 103 = .ok (.iconst 0, 1) := by decide +kernel
theorem dX11_when_104 : decode cX11_when 104 = .ok (.iaload, 1) := by decide +kernel
theorem dX11_when_105 : decode cX11_when 105 = .ok (.ifCond .ne 12, 3) := by decide +kernel
theorem dX11_when_108 : decode cX11_when 108 = .ok (.aload_n 0, 1) := by decide +kernel
theorem dX11_when_109 : decode cX11_when 109 = .ok (.bipush 7, 2) := by decide +kernel
theorem dX11_when_111 : decode cX11_when 111 = .ok (.invokevirtual 267, 3) := by decide +kernel
theorem dX11_when_114 : decode cX11_when 114 = .ok (.goto 13, 3) := by decide +kernel
theorem dX11_when_117 : decode cX11_when 117 = .ok (.aload_n 0, 1) := by decide +kernel
theorem dX11_when_118 : decode cX11_when 118 = .ok (.aload_n 0, 1) := by decide +kernel
theorem dX11_when_119 : decode cX11_when 119 = .ok (.getfield 34, 3) := by decide +kernel
theorem dX11_when_122 : decode cX11_when 122 = .ok (.iconst 0, 1) := by decide +kernel
theorem dX11_when_123 : decode cX11_when 123 = .ok (.iaload, 1) := by decide +kernel
theorem dX11_when_124 : decode cX11_when 124 = .ok (.invokevirtual 276, 3) := by decide +kernel
theorem dX11_when_127 : decode cX11_when 127 = .ok (.ireturn, 1) := by decide +kernel
theorem dX11_wishes_0 : decode cX11_wishes 0 = .ok (.aload_n 0, 1) := by decide +kernel
theorem dX11_wishes_1 : decode cX11_wishes 1 = .ok (.getfield 94, 3) := by decide +kernel
theorem dX11_wishes_4 : decode cX11_wishes 4 = .ok (.ifCond .ne 28, 3) := by decide +kernel
theorem dX11_wishes_7 : decode cX11_wishes 7 = .ok (.aload_n 0, 1) := by decide +kernel
theorem dX11_wishes_8 : decode cX11_wishes 8 = .ok (.iload_n 1, 1) := by decide +kernel
theorem dX11_wishes_9 : decode cX11_wishes 9 = .ok (.invokevirtual 97, 3) := by decide +kernel
theorem dX11_wishes_12 : decode cX11_wishes 12 = .ok (.aload_n 0, 1) := by decide +kernel
theorem dX11_wishes_13 : decode cX11_wishes 13 = .ok (.bipush 8, 2) := by decide +kernel
theorem dX11_wishes_15 : decode cX11_wishes 15 = .ok (.invokevirtual 47, 3) := by decide +kernel
theorem dX11_wishes_18 : decode cX11_wishes 18 = .ok (.if_icmp .le 14, 3) := by decide +kernel
theorem dX11_wishes_21 : decode cX11_wishes 21 = .ok (.aload_n 0, 1) := by decide +kernel
theorem dX11_wishes_22 : decode cX11_wishes 22 = .ok (.bipush 8, 2) := by decide +kernel
theorem dX11_wishes_24 : decode cX11_wishes 24 = .ok (.aload_n 0, 1) := by decide +kernel
theorem dX11_wishes_25 : decode cX11_wishes 25 = .ok (.iload_n 1, 1) := by decide +kernel
theorem dX11_wishes_26 : decode cX11_wishes 26 = .ok (.invokevirtual 97, 3) := by decide +kernel
theorem dX11_wishes_29 : decode cX11_wishes 29 = .ok (.invokevirtual 43, 3) := by decide +kernel
theorem dX11_wishes_32 : decode cX11_wishes 32 = .ok (.return_, 1) := by decide +kernel
theorem dX11_wrongStation_0 : decode cX11_wrongStation 0 = .ok (.aload_n 0, 1) := by decide +kernel
theorem dX11_wrongStation_1 : decode cX11_wrongStation 1 = .ok (.iload_n 1, 1) := by decide +kernel
theorem dX11_wrongStation_2 : decode cX11_wrongStation 2 = .ok (.invokevirtual 51, 3) := by decide +kernel
theorem dX11_wrongStation_5 : decode cX11_wrongStation 5 = .ok (.ifCond .eq 7, 3) := by decide +kernel
theorem dX11_wrongStation_8 : decode cX11_wrongStation 8 = .ok (.iconst 0, 1) := by decide +kernel
theorem dX11_wrongStation_9 : decode cX11_wrongStation 9 = .ok (.goto 4, 3) := by decide +kernel
theorem dX11_wrongStation_12 : decode cX11_wrongStation 12 = .ok (.iconst 2, 1) := by decide +kernel
theorem dX11_wrongStation_13 : decode cX11_wrongStation 13 = .ok (.ireturn, 1) := by decide +kernel
