theorem mk_X5_isName : MK yX5_isName cX5_isName 1 (some .boolean) 0 := ⟨tb (i := 1276) (by decide +kernel), tb (i := 3) (by decide +kernel), by decide +kernel⟩
theorem mi_X5_isName : MI yX5_isName := ⟨tb (i := 1275) (by decide +kernel), pb (i := 23) (by decide +kernel)⟩
theorem mk_X7_findNode : MK yX7_findNode cX7_findNode 4 (some .int) 1 := ⟨tb (i := 1280) (by decide +kernel), tb (i := 4) (by decide +kernel), by decide +kernel⟩
theorem mi_X7_findNode : MI yX7_findNode := ⟨tb (i := 1278) (by decide +kernel), tb (i := 1279) (by decide +kernel)⟩
theorem mk_X5_addNode : MK yX5_addNode cX5_addNode 2 none 1 := ⟨tb (i := 1284) (by decide +kernel), tb (i := 3) (by decide +kernel), by decide +kernel⟩
theorem mi_X5_addNode : MI yX5_addNode := ⟨tb (i := 1283) (by decide +kernel), pb (i := 24) (by decide +kernel)⟩
theorem mk_X7_addNode : MK yX7_addNode cX7_addNode 6 none 2 := ⟨tb (i := 1288) (by decide +kernel), tb (i := 4) (by decide +kernel), by decide +kernel⟩
theorem mi_X7_addNode : MI yX7_addNode := ⟨tb (i := 1286) (by decide +kernel), tb (i := 1287) (by decide +kernel)⟩
theorem mk_X7_row : MK yX7_row cX7_row 2 (some (.array .int)) 1 := ⟨tb (i := 1292) (by decide +kernel), tb (i := 4) (by decide +kernel), by decide +kernel⟩
theorem mi_X7_row : MI yX7_row := ⟨tb (i := 1290) (by decide +kernel), tb (i := 1291) (by decide +kernel)⟩
theorem mk_X5_takeIn : MK yX5_takeIn cX5_takeIn 1 (some .int) 0 := ⟨tb (i := 1298) (by decide +kernel), tb (i := 3) (by decide +kernel), by decide +kernel⟩
theorem mi_X5_takeIn : MI yX5_takeIn := ⟨tb (i := 1297) (by decide +kernel), pb (i := 25) (by decide +kernel)⟩
theorem mk_X5_takeParentName : MK yX5_takeParentName cX5_takeParentName 2 (some .int) 0 := ⟨tb (i := 1302) (by decide +kernel), tb (i := 3) (by decide +kernel), by decide +kernel⟩
theorem mi_X5_takeParentName : MI yX5_takeParentName := ⟨tb (i := 1301) (by decide +kernel), pb (i := 26) (by decide +kernel)⟩
theorem mk_X5_takeSetting : MK yX5_takeSetting cX5_takeSetting 2 (some .int) 0 := ⟨tb (i := 1306) (by decide +kernel), tb (i := 3) (by decide +kernel), by decide +kernel⟩
theorem mi_X5_takeSetting : MI yX5_takeSetting := ⟨tb (i := 1305) (by decide +kernel), pb (i := 27) (by decide +kernel)⟩
theorem mk_X5_finishNode : MK yX5_finishNode cX5_finishNode 2 none 0 := ⟨tb (i := 1310) (by decide +kernel), tb (i := 3) (by decide +kernel), by decide +kernel⟩
theorem mi_X5_finishNode : MI yX5_finishNode := ⟨tb (i := 1309) (by decide +kernel), pb (i := 28) (by decide +kernel)⟩
theorem mk_X5_takeSettingValue : MK yX5_takeSettingValue cX5_takeSettingValue 3 (some .int) 0 := ⟨tb (i := 1315) (by decide +kernel), tb (i := 3) (by decide +kernel), by decide +kernel⟩
theorem mi_X5_takeSettingValue : MI yX5_takeSettingValue := ⟨tb (i := 1314) (by decide +kernel), pb (i := 29) (by decide +kernel)⟩
theorem mk_X5_numberFault : MK yX5_numberFault cX5_numberFault 2 (some .int) 1 := ⟨tb (i := 1319) (by decide +kernel), tb (i := 3) (by decide +kernel), by decide +kernel⟩
theorem mi_X5_numberFault : MI yX5_numberFault := ⟨tb (i := 1318) (by decide +kernel), pb (i := 30) (by decide +kernel)⟩
theorem mk_X5_takeLimit : MK yX5_takeLimit cX5_takeLimit 1 (some .int) 0 := ⟨tb (i := 1325) (by decide +kernel), tb (i := 3) (by decide +kernel), by decide +kernel⟩
theorem mi_X5_takeLimit : MI yX5_takeLimit := ⟨tb (i := 1324) (by decide +kernel), pb (i := 31) (by decide +kernel)⟩
theorem mk_X5_numberFault_ : MK yX5_numberFault_ cX5_numberFault_ 3 (some .int) 2 := ⟨tb (i := 1329) (by decide +kernel), tb (i := 3) (by decide +kernel), by decide +kernel⟩
theorem mi_X5_numberFault_ : MI yX5_numberFault_ := ⟨tb (i := 1328) (by decide +kernel), pb (i := 32) (by decide +kernel)⟩
theorem mk_X5_takeAge : MK yX5_takeAge cX5_takeAge 1 (some .int) 0 := ⟨tb (i := 1333) (by decide +kernel), tb (i := 3) (by decide +kernel), by decide +kernel⟩
theorem mi_X5_takeAge : MI yX5_takeAge := ⟨tb (i := 1332) (by decide +kernel), pb (i := 33) (by decide +kernel)⟩
theorem mk_X5_takeChangeTime : MK yX5_takeChangeTime cX5_takeChangeTime 1 (some .int) 0 := ⟨tb (i := 1337) (by decide +kernel), tb (i := 3) (by decide +kernel), by decide +kernel⟩
theorem mi_X5_takeChangeTime : MI yX5_takeChangeTime := ⟨tb (i := 1336) (by decide +kernel), pb (i := 34) (by decide +kernel)⟩
theorem mk_X5_takeChangeName : MK yX5_takeChangeName cX5_takeChangeName 1 (some .int) 0 := ⟨tb (i := 1341) (by decide +kernel), tb (i := 3) (by decide +kernel), by decide +kernel⟩
theorem mi_X5_takeChangeName : MI yX5_takeChangeName := ⟨tb (i := 1340) (by decide +kernel), pb (i := 35) (by decide +kernel)⟩
theorem mk_X5_takeChangeSetting : MK yX5_takeChangeSetting cX5_takeChangeSetting 1 (some .int) 0 := ⟨tb (i := 1345) (by decide +kernel), tb (i := 3) (by decide +kernel), by decide +kernel⟩
theorem mi_X5_takeChangeSetting : MI yX5_takeChangeSetting := ⟨tb (i := 1344) (by decide +kernel), pb (i := 36) (by decide +kernel)⟩
theorem mk_X5_takeChangeValue : MK yX5_takeChangeValue cX5_takeChangeValue 2 (some .int) 0 := ⟨tb (i := 1349) (by decide +kernel), tb (i := 3) (by decide +kernel), by decide +kernel⟩
theorem mi_X5_takeChangeValue : MI yX5_takeChangeValue := ⟨tb (i := 1348) (by decide +kernel), pb (i := 37) (by decide +kernel)⟩
theorem mk_X1_add : MK yX1_add cX1_add 5 none 4 := ⟨tb (i := 1353) (by decide +kernel), tb (i := 5) (by decide +kernel), by decide +kernel⟩
theorem mi_X1_add : MI yX1_add := ⟨tb (i := 1351) (by decide +kernel), tb (i := 1352) (by decide +kernel)⟩
theorem mk_X5_takeStatementEnd : MK yX5_takeStatementEnd cX5_takeStatementEnd 1 (some .int) 0 := ⟨tb (i := 1357) (by decide +kernel), tb (i := 3) (by decide +kernel), by decide +kernel⟩
theorem mi_X5_takeStatementEnd : MI yX5_takeStatementEnd := ⟨tb (i := 1356) (by decide +kernel), pb (i := 38) (by decide +kernel)⟩
theorem mk_X8_begin : MK yX8_begin cX8_begin 2 none 1 := ⟨tb (i := 1361) (by decide +kernel), tb (i := 8) (by decide +kernel), by decide +kernel⟩
theorem mi_X8_begin : MI yX8_begin := ⟨tb (i := 1359) (by decide +kernel), tb (i := 1360) (by decide +kernel)⟩
theorem mk_X11_copyRow : MK yX11_copyRow cX11_copyRow 2 none 2 := ⟨tb (i := 1364) (by decide +kernel), tb (i := 1) (by decide +kernel), by decide +kernel⟩
theorem ms_X11_copyRow : MS yX11_copyRow := tb (i := 1363) (by decide +kernel)
theorem mk_X0_begin : MK yX0_begin cX0_begin 2 none 1 := ⟨tb (i := 1370) (by decide +kernel), tb (i := 9) (by decide +kernel), by decide +kernel⟩
theorem mi_X0_begin : MI yX0_begin := ⟨tb (i := 1368) (by decide +kernel), tb (i := 1369) (by decide +kernel)⟩
theorem mk_X11_clearRow : MK yX11_clearRow cX11_clearRow 2 none 1 := ⟨tb (i := 1374) (by decide +kernel), tb (i := 1) (by decide +kernel), by decide +kernel⟩
theorem ms_X11_clearRow : MS yX11_clearRow := tb (i := 1373) (by decide +kernel)
theorem mk_X4_begin : MK yX4_begin cX4_begin 1 none 0 := ⟨tb (i := 1378) (by decide +kernel), tb (i := 10) (by decide +kernel), by decide +kernel⟩
theorem mi_X4_begin : MI yX4_begin := ⟨tb (i := 1376) (by decide +kernel), tb (i := 1377) (by decide +kernel)⟩
theorem mk_X2_begin : MK yX2_begin cX2_begin 1 none 0 := ⟨tb (i := 1383) (by decide +kernel), tb (i := 11) (by decide +kernel), by decide +kernel⟩
theorem mi_X2_begin : MI yX2_begin := ⟨tb (i := 1381) (by decide +kernel), tb (i := 1382) (by decide +kernel)⟩
theorem mk_X11_faultCode : MK yX11_faultCode cX11_faultCode 1 (some .int) 0 := ⟨tb (i := 1388) (by decide +kernel), tb (i := 1) (by decide +kernel), by decide +kernel⟩
theorem mi_X11_faultCode : MI yX11_faultCode := ⟨tb (i := 1386) (by decide +kernel), tb (i := 1387) (by decide +kernel)⟩
theorem mk_X11_faultPosition : MK yX11_faultPosition cX11_faultPosition 1 (some .int) 0 := ⟨tb (i := 1392) (by decide +kernel), tb (i := 1) (by decide +kernel), by decide +kernel⟩
theorem mi_X11_faultPosition : MI yX11_faultPosition := ⟨tb (i := 1390) (by decide +kernel), tb (i := 1391) (by decide +kernel)⟩
theorem mk_L_same : MK yL_same cL_same 4 (some .boolean) 2 := ⟨tb (i := 1395) (by decide +kernel), tb (i := 0) (by decide +kernel), by decide +kernel⟩
theorem ms_L_same : MS yL_same := tb (i := 1394) (by decide +kernel)
theorem mk_X11_credit : MK yX11_credit cX11_credit 2 (some .int) 1 := ⟨tb (i := 1400) (by decide +kernel), tb (i := 1) (by decide +kernel), by decide +kernel⟩
theorem mi_X11_credit : MI yX11_credit := ⟨tb (i := 1398) (by decide +kernel), tb (i := 1399) (by decide +kernel)⟩
theorem mk_X11_headroom : MK yX11_headroom cX11_headroom 2 (some .int) 1 := ⟨tb (i := 1404) (by decide +kernel), tb (i := 1) (by decide +kernel), by decide +kernel⟩
theorem mi_X11_headroom : MI yX11_headroom := ⟨tb (i := 1402) (by decide +kernel), tb (i := 1403) (by decide +kernel)⟩
theorem mk_X11_lentCost : MK yX11_lentCost cX11_lentCost 2 (some .int) 1 := ⟨tb (i := 1408) (by decide +kernel), tb (i := 1) (by decide +kernel), by decide +kernel⟩
theorem mi_X11_lentCost : MI yX11_lentCost := ⟨tb (i := 1406) (by decide +kernel), tb (i := 1407) (by decide +kernel)⟩
theorem mk_X11_sentCost : MK yX11_sentCost cX11_sentCost 2 (some .int) 1 := ⟨tb (i := 1413) (by decide +kernel), tb (i := 1) (by decide +kernel), by decide +kernel⟩
theorem mi_X11_sentCost : MI yX11_sentCost := ⟨tb (i := 1411) (by decide +kernel), tb (i := 1412) (by decide +kernel)⟩
theorem mk_X11_queueLength : MK yX11_queueLength cX11_queueLength 2 (some .int) 1 := ⟨tb (i := 1417) (by decide +kernel), tb (i := 1) (by decide +kernel), by decide +kernel⟩
theorem mi_X11_queueLength : MI yX11_queueLength := ⟨tb (i := 1415) (by decide +kernel), tb (i := 1416) (by decide +kernel)⟩
theorem mk_X11_sentCount : MK yX11_sentCount cX11_sentCount 2 (some .int) 1 := ⟨tb (i := 1421) (by decide +kernel), tb (i := 1) (by decide +kernel), by decide +kernel⟩
theorem mi_X11_sentCount : MI yX11_sentCount := ⟨tb (i := 1419) (by decide +kernel), tb (i := 1420) (by decide +kernel)⟩
theorem mk_X11_borrowedCost : MK yX11_borrowedCost cX11_borrowedCost 2 (some .int) 1 := ⟨tb (i := 1425) (by decide +kernel), tb (i := 1) (by decide +kernel), by decide +kernel⟩
theorem mi_X11_borrowedCost : MI yX11_borrowedCost := ⟨tb (i := 1423) (by decide +kernel), tb (i := 1424) (by decide +kernel)⟩
theorem mk_X11_droppedCount : MK yX11_droppedCount cX11_droppedCount 2 (some .int) 1 := ⟨tb (i := 1429) (by decide +kernel), tb (i := 1) (by decide +kernel), by decide +kernel⟩
theorem mi_X11_droppedCount : MI yX11_droppedCount := ⟨tb (i := 1427) (by decide +kernel), tb (i := 1428) (by decide +kernel)⟩
theorem mk_Jx4a65c_size_8abf5 : MK yJx4a65c_size_8abf5 cJx4a65c_size_8abf5 1 (some .int) 0 := ⟨tb (i := 1435) (by decide +kernel), tb (i := 20) (by decide +kernel), by decide +kernel⟩
theorem mi_Jx4a65c_size_8abf5 : MI yJx4a65c_size_8abf5 := ⟨tb (i := 1433) (by decide +kernel), tb (i := 1434) (by decide +kernel)⟩
theorem mk_L_tree : MK yL_tree cL_tree 8 (some .boolean) 2 := ⟨tb (i := 1438) (by decide +kernel), tb (i := 0) (by decide +kernel), by decide +kernel⟩
theorem ms_L_tree : MS yL_tree := tb (i := 1437) (by decide +kernel)
theorem mk_X11_parent : MK yX11_parent cX11_parent 2 (some .int) 1 := ⟨tb (i := 1442) (by decide +kernel), tb (i := 1) (by decide +kernel), by decide +kernel⟩
theorem mi_X11_parent : MI yX11_parent := ⟨tb (i := 1440) (by decide +kernel), tb (i := 1441) (by decide +kernel)⟩
theorem mk_X11_child : MK yX11_child cX11_child 3 (some .int) 2 := ⟨tb (i := 1446) (by decide +kernel), tb (i := 1) (by decide +kernel), by decide +kernel⟩
theorem mi_X11_child : MI yX11_child := ⟨tb (i := 1444) (by decide +kernel), tb (i := 1445) (by decide +kernel)⟩
theorem mk_X7_childOf : MK yX7_childOf cX7_childOf 5 (some .int) 2 := ⟨tb (i := 1450) (by decide +kernel), tb (i := 4) (by decide +kernel), by decide +kernel⟩
theorem mi_X7_childOf : MI yX7_childOf := ⟨tb (i := 1448) (by decide +kernel), tb (i := 1449) (by decide +kernel)⟩
theorem mk_X11_depth : MK yX11_depth cX11_depth 2 (some .int) 1 := ⟨tb (i := 1455) (by decide +kernel), tb (i := 1) (by decide +kernel), by decide +kernel⟩
theorem mi_X11_depth : MI yX11_depth := ⟨tb (i := 1453) (by decide +kernel), tb (i := 1454) (by decide +kernel)⟩
theorem mk_X11_rate : MK yX11_rate cX11_rate 2 (some .int) 1 := ⟨tb (i := 1459) (by decide +kernel), tb (i := 1) (by decide +kernel), by decide +kernel⟩
theorem mi_X11_rate : MI yX11_rate := ⟨tb (i := 1457) (by decide +kernel), tb (i := 1458) (by decide +kernel)⟩
theorem mk_X11_ceiling : MK yX11_ceiling cX11_ceiling 2 (some .int) 1 := ⟨tb (i := 1463) (by decide +kernel), tb (i := 1) (by decide +kernel), by decide +kernel⟩
theorem mi_X11_ceiling : MI yX11_ceiling := ⟨tb (i := 1461) (by decide +kernel), tb (i := 1462) (by decide +kernel)⟩
theorem mk_X11_burst : MK yX11_burst cX11_burst 2 (some .int) 1 := ⟨tb (i := 1467) (by decide +kernel), tb (i := 1) (by decide +kernel), by decide +kernel⟩
theorem mi_X11_burst : MI yX11_burst := ⟨tb (i := 1465) (by decide +kernel), tb (i := 1466) (by decide +kernel)⟩
theorem mk_X11_creditLimit : MK yX11_creditLimit cX11_creditLimit 2 (some .int) 1 := ⟨tb (i := 1471) (by decide +kernel), tb (i := 1) (by decide +kernel), by decide +kernel⟩
theorem mi_X11_creditLimit : MI yX11_creditLimit := ⟨tb (i := 1469) (by decide +kernel), tb (i := 1470) (by decide +kernel)⟩
theorem mk_X11_weight : MK yX11_weight cX11_weight 2 (some .int) 1 := ⟨tb (i := 1475) (by decide +kernel), tb (i := 1) (by decide +kernel), by decide +kernel⟩
theorem mi_X11_weight : MI yX11_weight := ⟨tb (i := 1473) (by decide +kernel), tb (i := 1474) (by decide +kernel)⟩
theorem mk_X11_priority : MK yX11_priority cX11_priority 2 (some .int) 1 := ⟨tb (i := 1479) (by decide +kernel), tb (i := 1) (by decide +kernel), by decide +kernel⟩
theorem mi_X11_priority : MI yX11_priority := ⟨tb (i := 1477) (by decide +kernel), tb (i := 1478) (by decide +kernel)⟩
theorem mk_X11_mayBorrow : MK yX11_mayBorrow cX11_mayBorrow 2 (some .boolean) 1 := ⟨tb (i := 1483) (by decide +kernel), tb (i := 1) (by decide +kernel), by decide +kernel⟩
theorem mi_X11_mayBorrow : MI yX11_mayBorrow := ⟨tb (i := 1481) (by decide +kernel), tb (i := 1482) (by decide +kernel)⟩
theorem mk_X11_isOversubscribed : MK yX11_isOversubscribed cX11_isOversubscribed 2 (some .boolean) 1 := ⟨tb (i := 1487) (by decide +kernel), tb (i := 1) (by decide +kernel), by decide +kernel⟩
theorem mi_X11_isOversubscribed : MI yX11_isOversubscribed := ⟨tb (i := 1485) (by decide +kernel), tb (i := 1486) (by decide +kernel)⟩
theorem mk_X8_childrenRate : MK yX8_childrenRate cX8_childrenRate 5 (some .int) 2 := ⟨tb (i := 1491) (by decide +kernel), tb (i := 8) (by decide +kernel), by decide +kernel⟩
theorem mi_X8_childrenRate : MI yX8_childrenRate := ⟨tb (i := 1489) (by decide +kernel), tb (i := 1490) (by decide +kernel)⟩
theorem mk_X11_pathCeiling : MK yX11_pathCeiling cX11_pathCeiling 2 (some .int) 1 := ⟨tb (i := 1495) (by decide +kernel), tb (i := 1) (by decide +kernel), by decide +kernel⟩
theorem mi_X11_pathCeiling : MI yX11_pathCeiling := ⟨tb (i := 1493) (by decide +kernel), tb (i := 1494) (by decide +kernel)⟩
theorem mk_X8_leastCeiling : MK yX8_leastCeiling cX8_leastCeiling 6 (some .int) 2 := ⟨tb (i := 1499) (by decide +kernel), tb (i := 8) (by decide +kernel), by decide +kernel⟩
theorem mi_X8_leastCeiling : MI yX8_leastCeiling := ⟨tb (i := 1497) (by decide +kernel), tb (i := 1498) (by decide +kernel)⟩
theorem mk_X11_nameLetter : MK yX11_nameLetter cX11_nameLetter 3 (some .int) 2 := ⟨tb (i := 1504) (by decide +kernel), tb (i := 1) (by decide +kernel), by decide +kernel⟩
theorem mi_X11_nameLetter : MI yX11_nameLetter := ⟨tb (i := 1502) (by decide +kernel), tb (i := 1503) (by decide +kernel)⟩
theorem mk_X11_letterOf : MK yX11_letterOf cX11_letterOf 3 (some .int) 2 := ⟨tb (i := 1507) (by decide +kernel), tb (i := 1) (by decide +kernel), by decide +kernel⟩
theorem ms_X11_letterOf : MS yX11_letterOf := tb (i := 1506) (by decide +kernel)
theorem mk_L_asked : MK yL_asked cL_asked 12 (some .boolean) 4 := ⟨tb (i := 1510) (by decide +kernel), tb (i := 0) (by decide +kernel), by decide +kernel⟩
theorem ms_L_asked : MS yL_asked := tb (i := 1509) (by decide +kernel)
theorem mk_X11_blockingNode : MK yX11_blockingNode cX11_blockingNode 3 (some .int) 2 := ⟨tb (i := 1514) (by decide +kernel), tb (i := 1) (by decide +kernel), by decide +kernel⟩
theorem mi_X11_blockingNode : MI yX11_blockingNode := ⟨tb (i := 1512) (by decide +kernel), tb (i := 1513) (by decide +kernel)⟩
theorem mk_X0_findBlocking : MK yX0_findBlocking cX0_findBlocking 6 (some .int) 3 := ⟨tb (i := 1518) (by decide +kernel), tb (i := 9) (by decide +kernel), by decide +kernel⟩
theorem mi_X0_findBlocking : MI yX0_findBlocking := ⟨tb (i := 1516) (by decide +kernel), tb (i := 1517) (by decide +kernel)⟩
theorem mk_X11_greatestCost : MK yX11_greatestCost cX11_greatestCost 3 (some .int) 1 := ⟨tb (i := 1522) (by decide +kernel), tb (i := 1) (by decide +kernel), by decide +kernel⟩
theorem mi_X11_greatestCost : MI yX11_greatestCost := ⟨tb (i := 1520) (by decide +kernel), tb (i := 1521) (by decide +kernel)⟩
theorem mk_X11_refusal : MK yX11_refusal cX11_refusal 3 (some .int) 2 := ⟨tb (i := 1526) (by decide +kernel), tb (i := 1) (by decide +kernel), by decide +kernel⟩
theorem mi_X11_refusal : MI yX11_refusal := ⟨tb (i := 1524) (by decide +kernel), tb (i := 1525) (by decide +kernel)⟩
theorem mk_X11_waitTime : MK yX11_waitTime cX11_waitTime 3 (some .int) 2 := ⟨tb (i := 1537) (by decide +kernel), tb (i := 1) (by decide +kernel), by decide +kernel⟩
theorem mi_X11_waitTime : MI yX11_waitTime := ⟨tb (i := 1535) (by decide +kernel), tb (i := 1536) (by decide +kernel)⟩
theorem mk_X8_ticksUntilLender : MK yX8_ticksUntilLender cX8_ticksUntilLender 13 (some .int) 3 := ⟨tb (i := 1541) (by decide +kernel), tb (i := 8) (by decide +kernel), by decide +kernel⟩
theorem mi_X8_ticksUntilLender : MI yX8_ticksUntilLender := ⟨tb (i := 1539) (by decide +kernel), tb (i := 1540) (by decide +kernel)⟩
theorem mk_X8_ticksUntil : MK yX8_ticksUntil cX8_ticksUntil 4 (some .int) 4 := ⟨tb (i := 1544) (by decide +kernel), tb (i := 8) (by decide +kernel), by decide +kernel⟩
theorem ms_X8_ticksUntil : MS yX8_ticksUntil := tb (i := 1543) (by decide +kernel)
theorem mk_L_back : MK yL_back cL_back 4 none 2 := ⟨tb (i := 1548) (by decide +kernel), tb (i := 0) (by decide +kernel), by decide +kernel⟩
theorem ms_L_back : MS yL_back := tb (i := 1547) (by decide +kernel)
theorem mk_X11_repeats : MK yX11_repeats cX11_repeats 3 (some .int) 2 := ⟨tb (i := 1553) (by decide +kernel), tb (i := 1) (by decide +kernel), by decide +kernel⟩
theorem mi_X11_repeats : MI yX11_repeats := ⟨tb (i := 1551) (by decide +kernel), tb (i := 1552) (by decide +kernel)⟩
theorem mk_X0_copyFrom : MK yX0_copyFrom cX0_copyFrom 2 none 1 := ⟨tb (i := 1557) (by decide +kernel), tb (i := 9) (by decide +kernel), by decide +kernel⟩
theorem mi_X0_copyFrom : MI yX0_copyFrom := ⟨tb (i := 1555) (by decide +kernel), tb (i := 1556) (by decide +kernel)⟩
theorem mk_X0_payOften : MK yX0_payOften cX0_payOften 6 (some .int) 3 := ⟨tb (i := 1561) (by decide +kernel), tb (i := 9) (by decide +kernel), by decide +kernel⟩
theorem mi_X0_payOften : MI yX0_payOften := ⟨tb (i := 1559) (by decide +kernel), tb (i := 1560) (by decide +kernel)⟩
theorem li_L_135 : LK RL 135 yX11_init := tb (i := 33) (by decide +kernel)
theorem li_X11_9 : LN RX11 9 yX9_init "RateLimiter" := nb (i := 41) (by decide +kernel)
theorem li_X11_18 : LN RX11 18 yX5_init "RateLimiter" := nb (i := 57) (by decide +kernel)
theorem li_X5_17 : LN RX5 17 yX7_init "RateLimiter" := nb (i := 63) (by decide +kernel)
theorem li_X7_49 : LN RX7 49 yX1_init "RateLimiter" := nb (i := 69) (by decide +kernel)
theorem li_X5_24 : LN RX5 24 yX6_init "RateLimiter" := nb (i := 178) (by decide +kernel)
theorem li_X11_25 : LN RX11 25 yX10_init "RateLimiter" := nb (i := 245) (by decide +kernel)
theorem li_X11_32 : LN RX11 32 yX7_init "RateLimiter" := nb (i := 259) (by decide +kernel)
theorem li_X11_39 : LN RX11 39 yX8_init "RateLimiter" := nb (i := 262) (by decide +kernel)
theorem li_X8_23 : LN RX8 23 yX0_init "RateLimiter" := nb (i := 268) (by decide +kernel)
theorem li_X8_30 : LN RX8 30 yX4_init "RateLimiter" := nb (i := 290) (by decide +kernel)
theorem li_X8_37 : LN RX8 37 yX2_init "RateLimiter" := nb (i := 316) (by decide +kernel)
theorem li_X8_44 : LN RX8 44 yX3_init "RateLimiter" := nb (i := 345) (by decide +kernel)
theorem li_L_136 : LK RL 136 yX11_nodeCount := tb (i := 432) (by decide +kernel)
theorem li_L_100 : LK RL 100 yX11_isLeaf := tb (i := 436) (by decide +kernel)
theorem li_X11_105 : LK RX11 105 yX7_hasLeaf := tb (i := 440) (by decide +kernel)
theorem li_X7_67 : LK RX7 67 yX7_hasNode := tb (i := 444) (by decide +kernel)
theorem li_L_56 : LK RL 56 yX11_time := tb (i := 448) (by decide +kernel)
theorem li_L_67 : LK RL 67 yX11_tokens := tb (i := 452) (by decide +kernel)
theorem li_X11_85 : LK RX11 85 yX7_hasNode := tb (i := 456) (by decide +kernel)
theorem li_L_139 : LK RL 139 yX11_lender := tb (i := 457) (by decide +kernel)
theorem li_X11_158 : LK RX11 158 yX11_isRequest := tb (i := 461) (by decide +kernel)
theorem li_X11_162 : LK RX11 162 yX0_findLender := tb (i := 465) (by decide +kernel)
theorem li_X0_46 : LK RX0 46 yX7_hasNode := tb (i := 469) (by decide +kernel)
theorem li_L_143 : LK RL 143 yX11_acquire := tb (i := 470) (by decide +kernel)
theorem li_X11_166 : LK RX11 166 yX8_send := tb (i := 474) (by decide +kernel)
theorem li_X8_91 : LK RX8 91 yX7_hasNode := tb (i := 478) (by decide +kernel)
theorem li_X8_101 : LK RX8 101 yX0_pay := tb (i := 479) (by decide +kernel)
theorem li_X0_43 : LK RX0 43 yJ9_min_7cf53 := tb (i := 483) (by decide +kernel)
theorem li_X8_105 : LK RX8 105 yX2_countSent := tb (i := 486) (by decide +kernel)
theorem li_X8_109 : LK RX8 109 yX3_add := tb (i := 490) (by decide +kernel)
theorem li_X3_32 : LK RX3 32 yX3_putFirst := tb (i := 494) (by decide +kernel)
theorem li_X3_36 : LK RX3 36 yJ9_min_7cf53 := tb (i := 500) (by decide +kernel)
theorem li_X11_170 : LK RX11 170 yX7_distance := tb (i := 501) (by decide +kernel)
theorem li_L_61 : LK RL 61 yX11_nextLeaf := tb (i := 505) (by decide +kernel)
theorem li_X11_197 : LK RX11 197 yX8_chooseLeaf := tb (i := 509) (by decide +kernel)
theorem li_X8_220 : LK RX8 220 yX8_frontDistance := tb (i := 513) (by decide +kernel)
theorem li_X8_213 : LK RX8 213 yX0_findLender := tb (i := 517) (by decide +kernel)
theorem li_X8_228 : LK RX8 228 yX7_distance := tb (i := 518) (by decide +kernel)
theorem li_X8_224 : LK RX8 224 yX8_precedes := tb (i := 519) (by decide +kernel)
theorem li_X8_234 : LK RX8 234 yX8_compareServed := tb (i := 523) (by decide +kernel)
theorem li_X8_240 : LK RX8 240 yJ13_compare_74951 := tb (i := 527) (by decide +kernel)
theorem li_L_146 : LK RL 146 yX11_advance := tb (i := 530) (by decide +kernel)
theorem li_X11_217 : LK RX11 217 yX11_canAdvance := tb (i := 534) (by decide +kernel)
theorem li_X11_220 : LK RX11 220 yX8_makeTicks := tb (i := 538) (by decide +kernel)
theorem li_X8_149 : LK RX8 149 yX8_makeTick := tb (i := 542) (by decide +kernel)
theorem li_X8_153 : LK RX8 153 yX8_makeChanges := tb (i := 546) (by decide +kernel)
theorem li_X8_180 : LK RX8 180 yX8_row := tb (i := 550) (by decide +kernel)
theorem li_X8_156 : LK RX8 156 yX0_refill := tb (i := 554) (by decide +kernel)
theorem li_X0_34 : LK RX0 34 yJ9_max_7cf53 := tb (i := 558) (by decide +kernel)
theorem li_X8_159 : LK RX8 159 yX8_dropOld := tb (i := 561) (by decide +kernel)
theorem li_X8_190 : LK RX8 190 yX8_isFrontOld := tb (i := 565) (by decide +kernel)
theorem li_X8_194 : LK RX8 194 yX4_removeFront := tb (i := 569) (by decide +kernel)
theorem li_X4_36 : LK RX4 36 yX4_moveUp := tb (i := 573) (by decide +kernel)
theorem li_X8_162 : LK RX8 162 yX8_dispatch := tb (i := 578) (by decide +kernel)
theorem li_X8_207 : LK RX8 207 yX8_chooseLeaf := tb (i := 582) (by decide +kernel)
theorem li_X8_217 : LK RX8 217 yX8_send := tb (i := 583) (by decide +kernel)
theorem li_L_152 : LK RL 152 yX11_fairness := tb (i := 584) (by decide +kernel)
theorem li_X11_257 : LK RX11 257 yX11_quotient := tb (i := 589) (by decide +kernel)
theorem li_L_149 : LK RL 149 yX11_mostServed := tb (i := 593) (by decide +kernel)
theorem li_X11_263 : LK RX11 263 yX8_compareServed := tb (i := 597) (by decide +kernel)
theorem li_L_194 : LK RL 194 yX11_loggedLeaf := tb (i := 598) (by decide +kernel)
theorem li_X11_278 : LK RX11 278 yX11_logEntry := tb (i := 602) (by decide +kernel)
theorem li_L_197 : LK RL 197 yX11_loggedCost := tb (i := 606) (by decide +kernel)
theorem li_L_200 : LK RL 200 yX11_loggedLender := tb (i := 610) (by decide +kernel)
theorem li_L_203 : LK RL 203 yX11_loggedTime := tb (i := 614) (by decide +kernel)
theorem li_L_155 : LK RL 155 yX11_setRate := tb (i := 618) (by decide +kernel)
theorem li_X11_301 : LK RX11 301 yX11_change := tb (i := 622) (by decide +kernel)
theorem li_X11_309 : LK RX11 309 yX11_isInRange := tb (i := 626) (by decide +kernel)
theorem li_X11_312 : LK RX11 312 yX8_row := tb (i := 633) (by decide +kernel)
theorem li_L_162 : LK RL 162 yX12_init := tb (i := 636) (by decide +kernel)
theorem li_X12_61 : LK RX12 61 yJx4a65c_init_da8c8 := tb (i := 642) (by decide +kernel)
theorem li_Jx4a65c_1 : LK RJx4a65c 1 yJxc12de_init_da8c8 := tb (i := 645) (by decide +kernel)
theorem li_Jxc12de_1 : LK RJxc12de 1 yJxa1e45_init_da8c8 := tb (i := 648) (by decide +kernel)
theorem li_X12_66 : LN RX12 66 yL_draw "RateLimiterLaw" := nb (i := 666) (by decide +kernel)
theorem li_L_8 : LK RL 8 yL_mixed := tb (i := 669) (by decide +kernel)
theorem li_X12_91 : LK RX12 91 yJx4a65c_add_9ea2d := tb (i := 673) (by decide +kernel)
theorem li_Jx4a65c_131 : LK RJx4a65c 131 yJx4a65c_add_72be8 := tb (i := 677) (by decide +kernel)
theorem li_Jx4a65c_129 : LK RJx4a65c 129 yJx4a65c_grow_d5877 := tb (i := 681) (by decide +kernel)
theorem li_Jx4a65c_69 : LK RJx4a65c 69 yJx4a65c_grow_92f84 := tb (i := 685) (by decide +kernel)
theorem li_Jx4a65c_73 : LK RJx4a65c 73 yJ8_newLength_cabcc := tb (i := 689) (by decide +kernel)
theorem li_J8_194 : LK RJ8 194 yJ9_max_7cf53 := tb (i := 692) (by decide +kernel)
theorem li_J8_201 : LK RJ8 201 yJ8_hugeLength_7cf53 := tb (i := 694) (by decide +kernel)
theorem li_Jx4a65c_66 : LK RJx4a65c 66 yJ7_copyOf_1904c := tb (i := 697) (by decide +kernel)
theorem li_J7_300 : LK RJ7 300 yJ7_copyOf_6403c := tb (i := 720) (by decide +kernel)
theorem li_J7_304 : LK RJ7 304 yJ9_min_7cf53 := tb (i := 726) (by decide +kernel)
theorem li_Jx4a65c_79 : LK RJx4a65c 79 yJ9_max_7cf53 := tb (i := 728) (by decide +kernel)
theorem li_L_187 : LK RL 187 yX12_steps := tb (i := 824) (by decide +kernel)
theorem li_X12_95 : LK RX12 95 yX12_steps := tb (i := 828) (by decide +kernel)
theorem li_L_186 : LK RL 186 yX12_lender := tb (i := 829) (by decide +kernel)
theorem li_L_190 : LK RL 190 yX12_send := tb (i := 833) (by decide +kernel)
theorem li_X12_99 : LK RX12 99 yX12_lender := tb (i := 837) (by decide +kernel)
theorem li_X12_102 : LK RX12 102 yJ9_min_7cf53 := tb (i := 838) (by decide +kernel)
theorem li_X12_107 : LK RX12 107 yJ9_max_7cf53 := tb (i := 839) (by decide +kernel)
theorem li_L_206 : LK RL 206 yX12_tick := tb (i := 840) (by decide +kernel)
theorem li_X12_126 : LK RX12 126 yX12_refill := tb (i := 844) (by decide +kernel)
theorem li_X12_110 : LK RX12 110 yJx4a65c_get_915e3 := tb (i := 848) (by decide +kernel)
theorem li_Jx4a65c_118 : LK RJx4a65c 118 yJ15_checkIndex_7cf53 := tb (i := 852) (by decide +kernel)
theorem li_J15_105 : LK RJ15 105 yJ3_checkIndex_8e157 := tb (i := 855) (by decide +kernel)
theorem li_Jx4a65c_123 : LK RJx4a65c 123 yJx4a65c_elementData_915e3 := tb (i := 858) (by decide +kernel)
theorem li_X12_114 : LK RX12 114 yJx4a65c_isEmpty_aae02 := tb (i := 862) (by decide +kernel)
theorem li_X12_129 : LK RX12 129 yJx4a65c_remove_915e3 := tb (i := 867) (by decide +kernel)
theorem li_Jx4a65c_144 : LK RJx4a65c 144 yJx4a65c_fastRemove_b59b0 := tb (i := 871) (by decide +kernel)
theorem li_X12_132 : LK RX12 132 yX12_first := tb (i := 876) (by decide +kernel)
theorem li_X12_119 : LK RX12 119 yX12_isAhead := tb (i := 880) (by decide +kernel)
theorem li_X12_136 : LK RX12 136 yX12_send := tb (i := 884) (by decide +kernel)
theorem li_L_175 : LK RL 175 yX12_anyLeaf := tb (i := 885) (by decide +kernel)
theorem li_X12_191 : LK RX12 191 yX12_isLeaf := tb (i := 889) (by decide +kernel)
theorem li_L_158 : LK RL 158 yL_cell := tb (i := 893) (by decide +kernel)
theorem li_L_179 : LK RL 179 yL_draw := tb (i := 896) (by decide +kernel)
theorem li_L_165 : LK RL 165 yL_stands := tb (i := 897) (by decide +kernel)
theorem li_L_33 : LK RL 33 yX12_text := tb (i := 900) (by decide +kernel)
theorem li_X12_148 : LK RX12 148 yJ4_init_da8c8 := tb (i := 906) (by decide +kernel)
theorem li_J4_1 : LK RJ4 1 yJ5_init_d00df := tb (i := 909) (by decide +kernel)
theorem li_J5_26 : LK RJ5 26 yJ2_newBytesFor_77867 := tb (i := 915) (by decide +kernel)
theorem li_J2_11 : LK RJ2 11 yJ2_newBytesLength_0f7a4 := tb (i := 918) (by decide +kernel)
theorem li_X12_151 : LK RX12 151 yJ4_append_15ec4 := tb (i := 936) (by decide +kernel)
theorem li_J4_29 : LK RJ4 29 yJ5_append_cf1ce := tb (i := 940) (by decide +kernel)
theorem li_J5_204 : LK RJ5 204 yJ5_appendNull_278bc := tb (i := 943) (by decide +kernel)
theorem li_J5_100 : LK RJ5 100 yJ5_ensureCapacityInternal_d00df := tb (i := 947) (by decide +kernel)
theorem li_J5_104 : LK RJ5 104 yJ5_newCapacity_0f7a4 := tb (i := 951) (by decide +kernel)
theorem li_J5_114 : LK RJ5 114 yJ8_newLength_cabcc := tb (i := 955) (by decide +kernel)
theorem li_J5_108 : LK RJ5 108 yJ7_copyOf_9075b := tb (i := 957) (by decide +kernel)
theorem li_J5_83 : LK RJ5 83 yJ5_isLatin1_aae02 := tb (i := 967) (by decide +kernel)
theorem li_J5_226 : LK RJ5 226 yJ2_putCharsAt_cd4e5 := tb (i := 972) (by decide +kernel)
theorem li_J2_96 : LK RJ2 96 yJ2_checkBoundsBeginEnd_d044e := tb (i := 975) (by decide +kernel)
theorem li_J2_48 : LK RJ2 48 yJ2_length_9d52b := tb (i := 978) (by decide +kernel)
theorem li_J2_241 : LK RJ2 241 yJ0_checkBoundsBeginEnd_23922 := tb (i := 981) (by decide +kernel)
theorem li_J0_1062 : LK RJ0 1062 yJ3_checkFromToIndex_8c36e := tb (i := 986) (by decide +kernel)
theorem li_J2_111 : LK RJ2 111 yJ2_putChar_b72d1 := tb (i := 989) (by decide +kernel)
theorem li_J5_32 : LK RJ5 32 yJ0_length_8abf5 := tb (i := 998) (by decide +kernel)
theorem li_J0_335 : LK RJ0 335 yJ0_coder_7d493 := tb (i := 1002) (by decide +kernel)
theorem li_J5_208 : LK RJ5 208 yJ5_putStringAt_47b60 := tb (i := 1007) (by decide +kernel)
theorem li_J5_397 : LK RJ5 397 yJ5_inflateIfNeededFor_a7421 := tb (i := 1011) (by decide +kernel)
theorem li_J5_40 : LK RJ5 40 yJ0_coder_7d493 := tb (i := 1015) (by decide +kernel)
theorem li_J5_195 : LK RJ5 195 yJ5_inflate_da8c8 := tb (i := 1016) (by decide +kernel)
theorem li_J5_125 : LK RJ5 125 yJ1_inflate_0e8fd := tb (i := 1020) (by decide +kernel)
theorem li_J1_240 : LK RJ1 240 yJ2_inflate_0e8fd := tb (i := 1023) (by decide +kernel)
theorem li_J2_173 : LK RJ2 173 yJ2_checkBoundsOffCount_d044e := tb (i := 1026) (by decide +kernel)
theorem li_J2_419 : LK RJ2 419 yJ0_checkBoundsOffCount_cabcc := tb (i := 1029) (by decide +kernel)
theorem li_J0_1065 : LK RJ0 1065 yJ3_checkFromIndexSize_8c36e := tb (i := 1032) (by decide +kernel)
theorem li_J5_399 : LK RJ5 399 yJ0_getBytes_840e7 := tb (i := 1035) (by decide +kernel)
theorem li_J0_106 : LK RJ0 106 yJ1_inflate_0e8fd := tb (i := 1040) (by decide +kernel)
theorem li_X12_155 : LK RX12 155 yJ4_append_cf468 := tb (i := 1041) (by decide +kernel)
theorem li_J4_50 : LK RJ4 50 yJ5_append_3fe6f := tb (i := 1045) (by decide +kernel)
theorem li_J5_191 : LK RJ5 191 yJ1_canEncode_fc78d := tb (i := 1048) (by decide +kernel)
theorem li_J5_197 : LK RJ5 197 yJ2_putCharSB_b72d1 := tb (i := 1051) (by decide +kernel)
theorem li_J2_67 : LK RJ2 67 yJ2_checkIndex_2214a := tb (i := 1054) (by decide +kernel)
theorem li_J2_414 : LK RJ2 414 yJ0_checkIndex_df160 := tb (i := 1057) (by decide +kernel)
theorem li_J0_1059 : LK RJ0 1059 yJ3_checkIndex_8e157 := tb (i := 1060) (by decide +kernel)
theorem li_X12_162 : LK RX12 162 yJ4_append_bf812 := tb (i := 1063) (by decide +kernel)
theorem li_J4_53 : LK RJ4 53 yJ5_append_c97b9 := tb (i := 1067) (by decide +kernel)
theorem li_J5_245 : LK RJ5 245 yJ6_stringSize_0f7a4 := tb (i := 1070) (by decide +kernel)
theorem li_J5_248 : LK RJ5 248 yJ6_getChars_ba4f3 := tb (i := 1073) (by decide +kernel)
theorem li_J5_251 : LK RJ5 251 yJ2_getChars_46870 := tb (i := 1080) (by decide +kernel)
theorem li_J2_393 : LK RJ2 393 yJ2_getChars_ba4f3 := tb (i := 1083) (by decide +kernel)
theorem li_X12_187 : LK RX12 187 yJ4_toString_0e30d := tb (i := 1099) (by decide +kernel)
theorem li_J4_137 : LK RJ4 137 yJ0_init_81219 := tb (i := 1105) (by decide +kernel)
theorem li_J0_489 : LK RJ0 489 yJ0_init_db425 := tb (i := 1108) (by decide +kernel)
theorem li_J0_552 : LK RJ0 552 yJ5_getValue_6d5f1 := tb (i := 1112) (by decide +kernel)
theorem li_J0_549 : LK RJ0 549 yJ5_length_8abf5 := tb (i := 1117) (by decide +kernel)
theorem li_J4_343 : LK RJ4 343 yJ5_length_8abf5 := tb (i := 1123) (by decide +kernel)
theorem li_J0_1047 : LK RJ0 1047 yJ5_isLatin1_aae02 := tb (i := 1125) (by decide +kernel)
theorem li_J0_54 : LK RJ0 54 yJ7_copyOfRange_39247 := tb (i := 1126) (by decide +kernel)
theorem li_J7_339 : LK RJ7 339 yJ7_copyOfRangeByte_39247 := tb (i := 1129) (by decide +kernel)
theorem li_J7_343 : LK RJ7 343 yJ7_checkLength_df160 := tb (i := 1132) (by decide +kernel)
theorem li_J0_1051 : LK RJ0 1051 yJ2_compress_39247 := tb (i := 1135) (by decide +kernel)
theorem li_J2_123 : LK RJ2 123 yJ2_compress_5af95 := tb (i := 1138) (by decide +kernel)
theorem li_J2_71 : LK RJ2 71 yJ2_getChar_3b067 := tb (i := 1141) (by decide +kernel)
theorem li_J2_126 : LK RJ2 126 yJ7_copyOfRange_39247 := tb (i := 1144) (by decide +kernel)
theorem li_J0_47 : LK RJ0 47 yJ2_coderFromArrayLen_85cad := tb (i := 1145) (by decide +kernel)
theorem li_L_39 : LK RL 39 yL_fill := tb (i := 1159) (by decide +kernel)
theorem li_L_14 : LK RL 14 yJ0_length_8abf5 := tb (i := 1162) (by decide +kernel)
theorem li_L_20 : LK RL 20 yJ0_charAt_5068e := tb (i := 1163) (by decide +kernel)
theorem li_J0_492 : LK RJ0 492 yJ0_isLatin1_aae02 := tb (i := 1167) (by decide +kernel)
theorem li_J0_495 : LK RJ0 495 yJ1_charAt_3b067 := tb (i := 1171) (by decide +kernel)
theorem li_J1_9 : LK RJ1 9 yJ0_checkIndex_df160 := tb (i := 1174) (by decide +kernel)
theorem li_J0_498 : LK RJ0 498 yJ2_charAt_3b067 := tb (i := 1175) (by decide +kernel)
theorem li_L_24 : LK RL 24 yX11_feed := tb (i := 1178) (by decide +kernel)
theorem li_X11_57 : LK RX11 57 yX9_append := tb (i := 1182) (by decide +kernel)
theorem li_L_30 : LK RL 30 yX11_truncate := tb (i := 1186) (by decide +kernel)
theorem li_L_43 : LK RL 43 yX11_load := tb (i := 1190) (by decide +kernel)
theorem li_X11_61 : LK RX11 61 yX5_read := tb (i := 1194) (by decide +kernel)
theorem li_X5_29 : LK RX5 29 yX5_begin := tb (i := 1198) (by decide +kernel)
theorem li_X5_52 : LK RX5 52 yX7_clear := tb (i := 1202) (by decide +kernel)
theorem li_X5_55 : LK RX5 55 yX6_begin := tb (i := 1206) (by decide +kernel)
theorem li_X5_32 : LK RX5 32 yX6_scan := tb (i := 1210) (by decide +kernel)
theorem li_X6_15 : LK RX6 15 yX6_skipSpaces := tb (i := 1214) (by decide +kernel)
theorem li_X6_25 : LK RX6 25 yX9_byteAt := tb (i := 1218) (by decide +kernel)
theorem li_X6_37 : LK RX6 37 yX6_isLetter := tb (i := 1222) (by decide +kernel)
theorem li_X6_41 : LK RX6 41 yX6_scanWord := tb (i := 1225) (by decide +kernel)
theorem li_X6_54 : LN RX6 54 yX11_withLetter "RateLimiter" := nb (i := 1229) (by decide +kernel)
theorem li_X6_58 : LN RX6 58 yX11_keywordOf "RateLimiter" := nb (i := 1232) (by decide +kernel)
theorem li_X11_347 : LK RX11 347 yX11_keywordText := tb (i := 1235) (by decide +kernel)
theorem li_X11_351 : LK RX11 351 yJ0_length_8abf5 := tb (i := 1251) (by decide +kernel)
theorem li_X11_356 : LK RX11 356 yJ0_charAt_5068e := tb (i := 1252) (by decide +kernel)
theorem li_X11_360 : LK RX11 360 yX11_withLetter := tb (i := 1253) (by decide +kernel)
theorem li_X6_44 : LK RX6 44 yX6_isDigit := tb (i := 1254) (by decide +kernel)
theorem li_X6_47 : LK RX6 47 yX6_scanNumber := tb (i := 1257) (by decide +kernel)
theorem li_X5_42 : LK RX5 42 yX5_take := tb (i := 1261) (by decide +kernel)
theorem li_X5_60 : LK RX5 60 yX5_takeStatement := tb (i := 1265) (by decide +kernel)
theorem li_X5_63 : LK RX5 63 yX5_takeNodeName := tb (i := 1269) (by decide +kernel)
theorem li_X5_117 : LK RX5 117 yX5_isName := tb (i := 1273) (by decide +kernel)
theorem li_X5_125 : LK RX5 125 yX7_findNode := tb (i := 1277) (by decide +kernel)
theorem li_X5_132 : LK RX5 132 yX5_addNode := tb (i := 1281) (by decide +kernel)
theorem li_X5_136 : LK RX5 136 yX7_addNode := tb (i := 1285) (by decide +kernel)
theorem li_X7_71 : LK RX7 71 yX7_row := tb (i := 1289) (by decide +kernel)
theorem li_X5_66 : LK RX5 66 yX5_takeIn := tb (i := 1295) (by decide +kernel)
theorem li_X5_69 : LK RX5 69 yX5_takeParentName := tb (i := 1299) (by decide +kernel)
theorem li_X5_72 : LK RX5 72 yX5_takeSetting := tb (i := 1303) (by decide +kernel)
theorem li_X5_142 : LK RX5 142 yX5_finishNode := tb (i := 1307) (by decide +kernel)
theorem li_X5_148 : LK RX5 148 yX7_hasNode := tb (i := 1311) (by decide +kernel)
theorem li_X5_75 : LK RX5 75 yX5_takeSettingValue := tb (i := 1312) (by decide +kernel)
theorem li_X5_163 : LK RX5 163 yX5_numberFault := tb (i := 1316) (by decide +kernel)
theorem li_X5_174 : LN RX5 174 yX11_isInRange "RateLimiter" := nb (i := 1320) (by decide +kernel)
theorem li_X5_167 : LK RX5 167 yX7_row := tb (i := 1321) (by decide +kernel)
theorem li_X5_78 : LK RX5 78 yX5_takeLimit := tb (i := 1322) (by decide +kernel)
theorem li_X5_181 : LK RX5 181 yX5_numberFault_ := tb (i := 1326) (by decide +kernel)
theorem li_X5_81 : LK RX5 81 yX5_takeAge := tb (i := 1330) (by decide +kernel)
theorem li_X5_84 : LK RX5 84 yX5_takeChangeTime := tb (i := 1334) (by decide +kernel)
theorem li_X5_87 : LK RX5 87 yX5_takeChangeName := tb (i := 1338) (by decide +kernel)
theorem li_X5_90 : LK RX5 90 yX5_takeChangeSetting := tb (i := 1342) (by decide +kernel)
theorem li_X5_93 : LK RX5 93 yX5_takeChangeValue := tb (i := 1346) (by decide +kernel)
theorem li_X5_190 : LK RX5 190 yX1_add := tb (i := 1350) (by decide +kernel)
theorem li_X5_96 : LK RX5 96 yX5_takeStatementEnd := tb (i := 1354) (by decide +kernel)
theorem li_X11_71 : LK RX11 71 yX8_begin := tb (i := 1358) (by decide +kernel)
theorem li_X8_56 : LN RX8 56 yX11_copyRow "RateLimiter" := nb (i := 1362) (by decide +kernel)
theorem li_X11_235 : LK RX11 235 yJ9_min_7cf53 := tb (i := 1365) (by decide +kernel)
theorem li_X8_62 : LK RX8 62 yX0_begin := tb (i := 1367) (by decide +kernel)
theorem li_X0_26 : LN RX0 26 yX11_copyRow "RateLimiter" := nb (i := 1371) (by decide +kernel)
theorem li_X0_30 : LN RX0 30 yX11_clearRow "RateLimiter" := nb (i := 1372) (by decide +kernel)
theorem li_X8_66 : LK RX8 66 yX4_begin := tb (i := 1375) (by decide +kernel)
theorem li_X4_24 : LN RX4 24 yX11_clearRow "RateLimiter" := nb (i := 1379) (by decide +kernel)
theorem li_X8_68 : LK RX8 68 yX2_begin := tb (i := 1380) (by decide +kernel)
theorem li_X2_27 : LN RX2 27 yX11_clearRow "RateLimiter" := nb (i := 1384) (by decide +kernel)
theorem li_L_50 : LK RL 50 yX11_faultCode := tb (i := 1385) (by decide +kernel)
theorem li_L_53 : LK RL 53 yX11_faultPosition := tb (i := 1389) (by decide +kernel)
theorem li_L_172 : LK RL 172 yL_same := tb (i := 1393) (by decide +kernel)
theorem li_L_64 : LK RL 64 yX12_first := tb (i := 1396) (by decide +kernel)
theorem li_L_73 : LK RL 73 yX11_credit := tb (i := 1397) (by decide +kernel)
theorem li_L_78 : LK RL 78 yX11_headroom := tb (i := 1401) (by decide +kernel)
theorem li_L_84 : LK RL 84 yX11_lentCost := tb (i := 1405) (by decide +kernel)
theorem li_L_90 : LK RL 90 yX12_isLeaf := tb (i := 1409) (by decide +kernel)
theorem li_L_94 : LK RL 94 yX11_sentCost := tb (i := 1410) (by decide +kernel)
theorem li_L_97 : LK RL 97 yX11_queueLength := tb (i := 1414) (by decide +kernel)
theorem li_L_104 : LK RL 104 yX11_sentCount := tb (i := 1418) (by decide +kernel)
theorem li_L_110 : LK RL 110 yX11_borrowedCost := tb (i := 1422) (by decide +kernel)
theorem li_L_116 : LK RL 116 yX11_droppedCount := tb (i := 1426) (by decide +kernel)
theorem li_L_126 : LK RL 126 yJx4a65c_get_915e3 := tb (i := 1430) (by decide +kernel)
theorem li_L_132 : LK RL 132 yJx4a65c_size_8abf5 := tb (i := 1432) (by decide +kernel)
theorem li_L_169 : LK RL 169 yL_tree := tb (i := 1436) (by decide +kernel)
theorem li_L_209 : LK RL 209 yX11_parent := tb (i := 1439) (by decide +kernel)
theorem li_L_217 : LK RL 217 yX11_child := tb (i := 1443) (by decide +kernel)
theorem li_X11_101 : LK RX11 101 yX7_childOf := tb (i := 1447) (by decide +kernel)
theorem li_L_223 : LK RL 223 yJ9_min_7cf53 := tb (i := 1451) (by decide +kernel)
theorem li_L_228 : LK RL 228 yX11_depth := tb (i := 1452) (by decide +kernel)
theorem li_L_231 : LK RL 231 yX11_rate := tb (i := 1456) (by decide +kernel)
theorem li_L_233 : LK RL 233 yX11_ceiling := tb (i := 1460) (by decide +kernel)
theorem li_L_235 : LK RL 235 yX11_burst := tb (i := 1464) (by decide +kernel)
theorem li_L_240 : LK RL 240 yX11_creditLimit := tb (i := 1468) (by decide +kernel)
theorem li_L_246 : LK RL 246 yX11_weight := tb (i := 1472) (by decide +kernel)
theorem li_L_251 : LK RL 251 yX11_priority := tb (i := 1476) (by decide +kernel)
theorem li_L_256 : LK RL 256 yX11_mayBorrow := tb (i := 1480) (by decide +kernel)
theorem li_L_263 : LK RL 263 yX11_isOversubscribed := tb (i := 1484) (by decide +kernel)
theorem li_X11_133 : LK RX11 133 yX8_childrenRate := tb (i := 1488) (by decide +kernel)
theorem li_L_266 : LK RL 266 yX11_pathCeiling := tb (i := 1492) (by decide +kernel)
theorem li_X11_137 : LK RX11 137 yX8_leastCeiling := tb (i := 1496) (by decide +kernel)
theorem li_X8_95 : LK RX8 95 yJ9_min_7cf53 := tb (i := 1500) (by decide +kernel)
theorem li_L_269 : LK RL 269 yX11_nameLetter := tb (i := 1501) (by decide +kernel)
theorem li_X11_93 : LK RX11 93 yX11_letterOf := tb (i := 1505) (by decide +kernel)
theorem li_L_182 : LK RL 182 yL_asked := tb (i := 1508) (by decide +kernel)
theorem li_L_272 : LK RL 272 yX11_blockingNode := tb (i := 1511) (by decide +kernel)
theorem li_X11_186 : LK RX11 186 yX0_findBlocking := tb (i := 1515) (by decide +kernel)
theorem li_L_275 : LK RL 275 yX11_greatestCost := tb (i := 1519) (by decide +kernel)
theorem li_L_278 : LK RL 278 yX11_refusal := tb (i := 1523) (by decide +kernel)
theorem li_L_286 : LK RL 286 yX12_refill := tb (i := 1533) (by decide +kernel)
theorem li_L_289 : LK RL 289 yX11_waitTime := tb (i := 1534) (by decide +kernel)
theorem li_X11_176 : LK RX11 176 yX8_ticksUntilLender := tb (i := 1538) (by decide +kernel)
theorem li_X8_129 : LK RX8 129 yX8_ticksUntil := tb (i := 1542) (by decide +kernel)
theorem li_X8_133 : LK RX8 133 yJ9_max_7cf53 := tb (i := 1545) (by decide +kernel)
theorem li_L_292 : LK RL 292 yL_back := tb (i := 1546) (by decide +kernel)
theorem li_L_296 : LK RL 296 yX11_repeats := tb (i := 1550) (by decide +kernel)
theorem li_X11_179 : LK RX11 179 yX0_copyFrom := tb (i := 1554) (by decide +kernel)
theorem li_X11_183 : LK RX11 183 yX0_payOften := tb (i := 1558) (by decide +kernel)
theorem li_X0_57 : LK RX0 57 yX0_findLender := tb (i := 1562) (by decide +kernel)
theorem li_X0_61 : LK RX0 61 yX0_pay := tb (i := 1563) (by decide +kernel)
theorem in_RateLimiterLaw : Cond.initialized "RateLimiterLaw" ∈ gwt := tb (i := 0) (by decide +kernel)
theorem in_RateLimiter : Cond.initialized "RateLimiter" ∈ gwt := tb (i := 1) (by decide +kernel)
theorem in_RateLimiter_Text : Cond.initialized "RateLimiter$Text" ∈ gwt := tb (i := 2) (by decide +kernel)
theorem in_RateLimiter_Reader : Cond.initialized "RateLimiter$Reader" ∈ gwt := tb (i := 3) (by decide +kernel)
theorem in_RateLimiter_Setup : Cond.initialized "RateLimiter$Setup" ∈ gwt := tb (i := 4) (by decide +kernel)
theorem in_RateLimiter_Changes : Cond.initialized "RateLimiter$Changes" ∈ gwt := tb (i := 5) (by decide +kernel)
theorem in_RateLimiter_Scanner : Cond.initialized "RateLimiter$Scanner" ∈ gwt := tb (i := 6) (by decide +kernel)
theorem in_RateLimiter_Writer : Cond.initialized "RateLimiter$Writer" ∈ gwt := tb (i := 7) (by decide +kernel)
theorem in_RateLimiter_State : Cond.initialized "RateLimiter$State" ∈ gwt := tb (i := 8) (by decide +kernel)
theorem in_RateLimiter_Accounts : Cond.initialized "RateLimiter$Accounts" ∈ gwt := tb (i := 9) (by decide +kernel)
theorem in_RateLimiter_Queues : Cond.initialized "RateLimiter$Queues" ∈ gwt := tb (i := 10) (by decide +kernel)
theorem in_RateLimiter_Counts : Cond.initialized "RateLimiter$Counts" ∈ gwt := tb (i := 11) (by decide +kernel)
theorem in_RateLimiter_Log : Cond.initialized "RateLimiter$Log" ∈ gwt := tb (i := 12) (by decide +kernel)
theorem in_java_lang_Math : Cond.initialized "java/lang/Math" ∈ gwt := tb (i := 13) (by decide +kernel)
theorem in_java_lang_System : Cond.initialized "java/lang/System" ∈ gwt := tb (i := 14) (by decide +kernel)
theorem in_java_lang_Number : Cond.initialized "java/lang/Number" ∈ gwt := tb (i := 15) (by decide +kernel)
theorem in_java_lang_Long : Cond.initialized "java/lang/Long" ∈ gwt := tb (i := 16) (by decide +kernel)
theorem in_RateLimiterLaw_Tree : Cond.initialized "RateLimiterLaw$Tree" ∈ gwt := tb (i := 17) (by decide +kernel)
theorem in_java_util_AbstractCollection : Cond.initialized "java/util/AbstractCollection" ∈ gwt := tb (i := 18) (by decide +kernel)
theorem in_java_util_AbstractList : Cond.initialized "java/util/AbstractList" ∈ gwt := tb (i := 19) (by decide +kernel)
theorem in_java_util_ArrayList : Cond.initialized "java/util/ArrayList" ∈ gwt := tb (i := 20) (by decide +kernel)
theorem in_jdk_internal_util_ArraysSupport : Cond.initialized "jdk/internal/util/ArraysSupport" ∈ gwt := tb (i := 21) (by decide +kernel)
theorem in_java_util_Arrays : Cond.initialized "java/util/Arrays" ∈ gwt := tb (i := 22) (by decide +kernel)
theorem in_java_lang_AbstractStringBuilder : Cond.initialized "java/lang/AbstractStringBuilder" ∈ gwt := tb (i := 23) (by decide +kernel)
theorem in_java_lang_StringBuilder : Cond.initialized "java/lang/StringBuilder" ∈ gwt := tb (i := 24) (by decide +kernel)
theorem in_java_lang_String : Cond.initialized "java/lang/String" ∈ gwt := tb (i := 25) (by decide +kernel)
theorem in_java_lang_StringUTF16 : Cond.initialized "java/lang/StringUTF16" ∈ gwt := tb (i := 26) (by decide +kernel)
theorem in_jdk_internal_util_Preconditions : Cond.initialized "jdk/internal/util/Preconditions" ∈ gwt := tb (i := 27) (by decide +kernel)
theorem in_java_lang_StringLatin1 : Cond.initialized "java/lang/StringLatin1" ∈ gwt := tb (i := 28) (by decide +kernel)
theorem in_java_lang_Integer : Cond.initialized "java/lang/Integer" ∈ gwt := tb (i := 29) (by decide +kernel)
theorem in_java_util_Objects : Cond.initialized "java/util/Objects" ∈ gwt := tb (i := 30) (by decide +kernel)
theorem cl_L_25 : Cond.classLink RL 25 RX11 ∈ gwt := tb (i := 31) (by decide +kernel)
theorem is_X11 : Cond.instantiable RX11 8 ∈ gwt := tb (i := 32) (by decide +kernel)
theorem cl_X11_7 : Cond.classLink RX11 7 RX9 ∈ gwt := tb (i := 39) (by decide +kernel)
theorem is_X9 : Cond.instantiable RX9 2 ∈ gwt := tb (i := 40) (by decide +kernel)
theorem ac_byte : Cond.arrayClass .byte ∈ gwt := tb (i := 54) (by decide +kernel)
theorem cl_X11_16 : Cond.classLink RX11 16 RX5 ∈ gwt := tb (i := 55) (by decide +kernel)
theorem is_X5 : Cond.instantiable RX5 11 ∈ gwt := tb (i := 56) (by decide +kernel)
theorem cl_X5_15 : Cond.classLink RX5 15 RX7 ∈ gwt := tb (i := 61) (by decide +kernel)
theorem is_X7 : Cond.instantiable RX7 15 ∈ gwt := tb (i := 62) (by decide +kernel)
theorem cl_X7_47 : Cond.classLink RX7 47 RX1 ∈ gwt := tb (i := 67) (by decide +kernel)
theorem is_X1 : Cond.instantiable RX1 5 ∈ gwt := tb (i := 68) (by decide +kernel)
theorem ac_long : Cond.arrayClass .long ∈ gwt := tb (i := 96) (by decide +kernel)
theorem ac_int : Cond.arrayClass .int ∈ gwt := tb (i := 97) (by decide +kernel)
theorem ac_boolean : Cond.arrayClass .boolean ∈ gwt := tb (i := 98) (by decide +kernel)
theorem cl_X5_22 : Cond.classLink RX5 22 RX6 ∈ gwt := tb (i := 176) (by decide +kernel)
theorem is_X6 : Cond.instantiable RX6 6 ∈ gwt := tb (i := 177) (by decide +kernel)
theorem cl_X11_23 : Cond.classLink RX11 23 RX10 ∈ gwt := tb (i := 243) (by decide +kernel)
theorem is_X10 : Cond.instantiable RX10 4 ∈ gwt := tb (i := 244) (by decide +kernel)
theorem cl_X11_30 : Cond.classLink RX11 30 RX7 ∈ gwt := tb (i := 258) (by decide +kernel)
theorem cl_X11_37 : Cond.classLink RX11 37 RX8 ∈ gwt := tb (i := 260) (by decide +kernel)
theorem is_X8 : Cond.instantiable RX8 9 ∈ gwt := tb (i := 261) (by decide +kernel)
theorem cl_X8_21 : Cond.classLink RX8 21 RX0 ∈ gwt := tb (i := 266) (by decide +kernel)
theorem is_X0 : Cond.instantiable RX0 3 ∈ gwt := tb (i := 267) (by decide +kernel)
theorem cl_X8_28 : Cond.classLink RX8 28 RX4 ∈ gwt := tb (i := 288) (by decide +kernel)
theorem is_X4 : Cond.instantiable RX4 5 ∈ gwt := tb (i := 289) (by decide +kernel)
theorem cl_X8_35 : Cond.classLink RX8 35 RX2 ∈ gwt := tb (i := 314) (by decide +kernel)
theorem is_X2 : Cond.instantiable RX2 5 ∈ gwt := tb (i := 315) (by decide +kernel)
theorem cl_X8_42 : Cond.classLink RX8 42 RX3 ∈ gwt := tb (i := 343) (by decide +kernel)
theorem is_X3 : Cond.instantiable RX3 5 ∈ gwt := tb (i := 344) (by decide +kernel)
theorem k2_X11_255 : Cond.constantLong RX11 255 (10) ∈ gwt := tb (i := 588) (by decide +kernel)
theorem k2_X11_261 : Cond.constantLong RX11 261 (1000) ∈ gwt := tb (i := 592) (by decide +kernel)
theorem cl_L_34 : Cond.classLink RL 34 RX12 ∈ gwt := tb (i := 634) (by decide +kernel)
theorem is_X12 : Cond.instantiable RX12 25 ∈ gwt := tb (i := 635) (by decide +kernel)
theorem cl_X12_59 : Cond.classLink RX12 59 RJx4a65c ∈ gwt := tb (i := 640) (by decide +kernel)
theorem is_Jx4a65c : Cond.instantiable RJx4a65c 3 ∈ gwt := tb (i := 641) (by decide +kernel)
theorem k1_L_7 : Cond.constant RL 7 (1103515245) ∈ gwt := tb (i := 672) (by decide +kernel)
theorem k1_J8_200 : Cond.constant RJ8 200 (2147483639) ∈ gwt := tb (i := 693) (by decide +kernel)
theorem cl_J7_110 : Cond.classLink RJ7 110 "[Ljava/lang/Object;" ∈ gwt := tb (i := 723) (by decide +kernel)
theorem cl_J7_2 : Cond.classLink RJ7 2 "java/lang/Object" ∈ gwt := tb (i := 725) (by decide +kernel)
theorem cl_Jx4a65c_7 : Cond.classLink RJx4a65c 7 "java/lang/Object" ∈ gwt := tb (i := 729) (by decide +kernel)
theorem cl_X12_118 : Cond.classLink RX12 118 "[I" ∈ gwt := tb (i := 866) (by decide +kernel)
theorem cl_X12_146 : Cond.classLink RX12 146 RJ4 ∈ gwt := tb (i := 904) (by decide +kernel)
theorem is_J4 : Cond.instantiable RJ4 4 ∈ gwt := tb (i := 905) (by decide +kernel)
theorem k1_J2_20 : Cond.constant RJ2 20 (1073741823) ∈ gwt := tb (i := 921) (by decide +kernel)
theorem k1_J5_39 : Cond.constant RJ5 39 (2147483647) ∈ gwt := tb (i := 956) (by decide +kernel)
theorem cl_J7_311 : Cond.classLink RJ7 311 "[B" ∈ gwt := tb (i := 966) (by decide +kernel)
theorem cl_J4_18 : Cond.classLink RJ4 18 RJ0 ∈ gwt := tb (i := 1103) (by decide +kernel)
theorem is_J0 : Cond.instantiable RJ0 4 ∈ gwt := tb (i := 1104) (by decide +kernel)
theorem cl_L_127 : Cond.classLink RL 127 RJx4a65c ∈ gwt := tb (i := 1431) (by decide +kernel)
theorem cl_L_281 : Cond.classLink RL 281 "[I" ∈ gwt := tb (i := 1527) (by decide +kernel)
theorem oi_X11_1 : Cond.methodLink RX11 1 objectInit ∈ gwt := tb (i := 36) (by decide +kernel)
theorem oi_X9_3 : Cond.methodLink RX9 3 objectInit ∈ gwt := tb (i := 44) (by decide +kernel)
theorem oi_X5_3 : Cond.methodLink RX5 3 objectInit ∈ gwt := tb (i := 60) (by decide +kernel)
theorem oi_X7_3 : Cond.methodLink RX7 3 objectInit ∈ gwt := tb (i := 66) (by decide +kernel)
theorem oi_X1_3 : Cond.methodLink RX1 3 objectInit ∈ gwt := tb (i := 72) (by decide +kernel)
theorem oi_X6_3 : Cond.methodLink RX6 3 objectInit ∈ gwt := tb (i := 181) (by decide +kernel)
theorem oi_X10_3 : Cond.methodLink RX10 3 objectInit ∈ gwt := tb (i := 248) (by decide +kernel)
theorem oi_X8_3 : Cond.methodLink RX8 3 objectInit ∈ gwt := tb (i := 265) (by decide +kernel)
theorem oi_X0_3 : Cond.methodLink RX0 3 objectInit ∈ gwt := tb (i := 271) (by decide +kernel)
theorem oi_X4_3 : Cond.methodLink RX4 3 objectInit ∈ gwt := tb (i := 293) (by decide +kernel)
theorem oi_X2_3 : Cond.methodLink RX2 3 objectInit ∈ gwt := tb (i := 319) (by decide +kernel)
theorem oi_X3_3 : Cond.methodLink RX3 3 objectInit ∈ gwt := tb (i := 348) (by decide +kernel)
theorem mm_X0_43 : Cond.methodLink RX0 43 Lib.Math.min.name ∈ gwt := tb (i := 483) (by decide +kernel)
theorem ay_X3_42 : Cond.methodLink RX3 42 arraycopyName ∈ gwt := tb (i := 497) (by decide +kernel)
theorem mm_X3_36 : Cond.methodLink RX3 36 Lib.Math.min.name ∈ gwt := tb (i := 500) (by decide +kernel)
theorem mm_X0_34 : Cond.methodLink RX0 34 Lib.Math.max.name ∈ gwt := tb (i := 558) (by decide +kernel)
theorem ay_X4_40 : Cond.methodLink RX4 40 arraycopyName ∈ gwt := tb (i := 577) (by decide +kernel)
theorem oi_X12_1 : Cond.methodLink RX12 1 objectInit ∈ gwt := tb (i := 639) (by decide +kernel)
theorem oi_Jxa1e45_1 : Cond.methodLink RJxa1e45 1 objectInit ∈ gwt := tb (i := 651) (by decide +kernel)
theorem mm_J8_194 : Cond.methodLink RJ8 194 Lib.Math.max.name ∈ gwt := tb (i := 692) (by decide +kernel)
theorem mm_J7_304 : Cond.methodLink RJ7 304 Lib.Math.min.name ∈ gwt := tb (i := 726) (by decide +kernel)
theorem ay_J7_150 : Cond.methodLink RJ7 150 arraycopyName ∈ gwt := tb (i := 727) (by decide +kernel)
theorem mm_Jx4a65c_79 : Cond.methodLink RJx4a65c 79 Lib.Math.max.name ∈ gwt := tb (i := 728) (by decide +kernel)
theorem mm_X12_102 : Cond.methodLink RX12 102 Lib.Math.min.name ∈ gwt := tb (i := 838) (by decide +kernel)
theorem mm_X12_107 : Cond.methodLink RX12 107 Lib.Math.max.name ∈ gwt := tb (i := 839) (by decide +kernel)
theorem ay_Jx4a65c_112 : Cond.methodLink RJx4a65c 112 arraycopyName ∈ gwt := tb (i := 875) (by decide +kernel)
theorem oi_J5_3 : Cond.methodLink RJ5 3 objectInit ∈ gwt := tb (i := 912) (by decide +kernel)
theorem ay_J0_212 : Cond.methodLink RJ0 212 arraycopyName ∈ gwt := tb (i := 1039) (by decide +kernel)
theorem oi_J0_1 : Cond.methodLink RJ0 1 objectInit ∈ gwt := tb (i := 1111) (by decide +kernel)
theorem mm_X11_235 : Cond.methodLink RX11 235 Lib.Math.min.name ∈ gwt := tb (i := 1365) (by decide +kernel)
theorem ay_X11_322 : Cond.methodLink RX11 322 arraycopyName ∈ gwt := tb (i := 1366) (by decide +kernel)
theorem mm_L_223 : Cond.methodLink RL 223 Lib.Math.min.name ∈ gwt := tb (i := 1451) (by decide +kernel)
theorem mm_X8_95 : Cond.methodLink RX8 95 Lib.Math.min.name ∈ gwt := tb (i := 1500) (by decide +kernel)
theorem mm_X8_133 : Cond.methodLink RX8 133 Lib.Math.max.name ∈ gwt := tb (i := 1545) (by decide +kernel)
theorem ay_L_299 : Cond.methodLink RL 299 arraycopyName ∈ gwt := tb (i := 1549) (by decide +kernel)
theorem mm_s_min : Cond.static Lib.Math.min.name ∈ gwt := tb (i := 484) (by decide +kernel)
theorem mm_c_min : Cond.code Lib.Math.min.name Lib.Math.min.code 2 (some .int) ∈ gwt := tb (i := 485) (by decide +kernel)
theorem mm_s_max : Cond.static Lib.Math.max.name ∈ gwt := tb (i := 559) (by decide +kernel)
theorem mm_c_max : Cond.code Lib.Math.max.name Lib.Math.max.code 2 (some .int) ∈ gwt := tb (i := 560) (by decide +kernel)
theorem ay_s : Cond.static arraycopyName ∈ gwt := tb (i := 498) (by decide +kernel)
theorem ay_n : Cond.native arraycopyName ∈ gwt := tb (i := 499) (by decide +kernel)
theorem oi_i : Cond.instanceMethod objectInit ∈ gwt := tb (i := 37) (by decide +kernel)
theorem oi_c : Cond.code objectInit ⟨#[0xb1]⟩ 1 none ∈ gwt := tb (i := 38) (by decide +kernel)
theorem gs_LEAST : Cond.fieldLink RX11 316 "RateLimiter" "LEAST" "[I" ∈ gwt := tb (i := 629) (by decide +kernel)
theorem gs_GREATEST : Cond.fieldLink RX11 319 "RateLimiter" "GREATEST" "[I" ∈ gwt := tb (i := 631) (by decide +kernel)
theorem gs_DEFAULTS : Cond.fieldLinkNest RX7 75 "RateLimiter" "DEFAULTS" "[I" "RateLimiter" ∈ nst := nb (i := 1293) (by decide +kernel)
