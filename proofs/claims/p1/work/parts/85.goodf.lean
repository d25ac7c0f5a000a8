
set_option maxRecDepth 100000 in
theorem gl_c_feed_19 : GoodIn lw_tbl (wsV RL 19 RX7 yX7_feed v_c_feed) := goodIn_app (goodIn_r _ [344, 345, 346, 111] (by decide +kernel) (by decide +kernel)) (goodIn_r _ [347, 307, 348, 349, 112, 351, 352, 353, 350, 319, 321, 323, 325, 327, 329, 331, 333, 335, 337, 339, 341, 154, 156, 354, 151, 150, 154, 156] (by decide +kernel) gw_c_feed)
set_option maxRecDepth 100000 in
theorem gl_d_feed_23 : GoodIn lw_tbl (wsV RL 23 RX8 yX8_feed v_d_feed) := goodIn_app (goodIn_r _ [1367, 1368, 1369, 119] (by decide +kernel) (by decide +kernel)) (goodIn_r _ [1370, 1255, 1256, 1371, 1372, 119, 1373, 1290, 1292, 1294, 1296, 1298, 1300, 1302, 1304, 1306, 1308, 1310, 1312, 1314, 1316, 1318, 1320, 1322, 1324, 1326, 1328, 1330, 1332, 1334, 1336, 1338, 1340, 1342, 1344, 1346, 1348, 1350, 1352, 1354, 1356, 1358, 1360, 1373, 1373, 1373, 1373, 1373, 1373, 1373, 1373, 1373, 1373, 1373, 1373, 1373, 1373, 1373, 1373, 1373, 1373, 1373] (by decide +kernel) gw_d_feed)
