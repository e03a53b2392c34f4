/-! what field and call instructions need of the tables, by program -/
theorem cw_15 : ∀ w ∈ u_ws RX12 TX12 72, w ∈ AW := aw_sub [1515, 1517, 1519, 1521, 1523, 1525, 1527, 1529, 1531, 1533, 1535, 1537, 1539, 1541, 1543, 1545, 1547, 1549, 1551, 1553, 1555, 1557, 1559, 1561, 1563, 1565, 1567, 1569, 1571, 1573, 1575, 1577, 1579, 1581, 1583, 1585, 1587, 1589, 1591, 1593, 1595, 1597, 1599, 1601, 1603, 1605, 1607, 1609, 1611, 1613, 1615, 1617, 1619, 1621, 1623, 1625, 1627, 1629, 1631, 1633, 1635, 1637, 1639, 1641, 1643, 1645, 1647, 1649, 1651, 1653, 1655, 1657] (by decide +kernel) (by decide +kernel)
theorem fw_X12_7 : FW RX12 7 15 4 2 true := ⟨RX12, TX12, 72, tyX12, rfl, cw_15, by decide, rfl, tyX12_ok, nmX12, rfl, rfl, fun _ => rfl, Or.inl (aw_i 1447 (by decide +kernel) rfl)⟩
theorem fw_X12_13 : FW RX12 13 15 5 2 true := ⟨RX12, TX12, 72, tyX12, rfl, cw_15, by decide, rfl, tyX12_ok, nmX12, rfl, rfl, fun _ => rfl, Or.inl (aw_i 1448 (by decide +kernel) rfl)⟩
theorem fw_X12_16 : FW RX12 16 15 6 2 true := ⟨RX12, TX12, 72, tyX12, rfl, cw_15, by decide, rfl, tyX12_ok, nmX12, rfl, rfl, fun _ => rfl, Or.inl (aw_i 1449 (by decide +kernel) rfl)⟩
theorem fw_X12_20 : FW RX12 20 15 8 2 true := ⟨RX12, TX12, 72, tyX12, rfl, cw_15, by decide, rfl, tyX12_ok, nmX12, rfl, rfl, fun _ => rfl, Or.inl (aw_i 1451 (by decide +kernel) rfl)⟩
theorem fw_X12_23 : FW RX12 23 15 9 2 true := ⟨RX12, TX12, 72, tyX12, rfl, cw_15, by decide, rfl, tyX12_ok, nmX12, rfl, rfl, fun _ => rfl, Or.inl (aw_i 1452 (by decide +kernel) rfl)⟩
theorem fw_X12_26 : FW RX12 26 15 10 2 true := ⟨RX12, TX12, 72, tyX12, rfl, cw_15, by decide, rfl, tyX12_ok, nmX12, rfl, rfl, fun _ => rfl, Or.inl (aw_i 1453 (by decide +kernel) rfl)⟩
theorem fw_X12_29 : FW RX12 29 15 11 2 true := ⟨RX12, TX12, 72, tyX12, rfl, cw_15, by decide, rfl, tyX12_ok, nmX12, rfl, rfl, fun _ => rfl, Or.inl (aw_i 1454 (by decide +kernel) rfl)⟩
theorem fw_X12_32 : FW RX12 32 15 12 2 true := ⟨RX12, TX12, 72, tyX12, rfl, cw_15, by decide, rfl, tyX12_ok, nmX12, rfl, rfl, fun _ => rfl, Or.inl (aw_i 1455 (by decide +kernel) rfl)⟩
theorem fw_X12_35 : FW RX12 35 15 13 2 true := ⟨RX12, TX12, 72, tyX12, rfl, cw_15, by decide, rfl, tyX12_ok, nmX12, rfl, rfl, fun _ => rfl, Or.inl (aw_i 1456 (by decide +kernel) rfl)⟩
theorem fw_X12_38 : FW RX12 38 15 14 2 true := ⟨RX12, TX12, 72, tyX12, rfl, cw_15, by decide, rfl, tyX12_ok, nmX12, rfl, rfl, fun _ => rfl, Or.inl (aw_i 1457 (by decide +kernel) rfl)⟩
theorem fw_X12_41 : FW RX12 41 15 15 2 true := ⟨RX12, TX12, 72, tyX12, rfl, cw_15, by decide, rfl, tyX12_ok, nmX12, rfl, rfl, fun _ => rfl, Or.inl (aw_i 1458 (by decide +kernel) rfl)⟩
theorem fw_X12_44 : FW RX12 44 15 16 2 true := ⟨RX12, TX12, 72, tyX12, rfl, cw_15, by decide, rfl, tyX12_ok, nmX12, rfl, rfl, fun _ => rfl, Or.inl (aw_i 1459 (by decide +kernel) rfl)⟩
theorem fw_X12_47 : FW RX12 47 15 17 2 true := ⟨RX12, TX12, 72, tyX12, rfl, cw_15, by decide, rfl, tyX12_ok, nmX12, rfl, rfl, fun _ => rfl, Or.inl (aw_i 1460 (by decide +kernel) rfl)⟩
theorem fw_X12_50 : FW RX12 50 15 18 2 true := ⟨RX12, TX12, 72, tyX12, rfl, cw_15, by decide, rfl, tyX12_ok, nmX12, rfl, rfl, fun _ => rfl, Or.inl (aw_i 1461 (by decide +kernel) rfl)⟩
theorem fw_X12_53 : FW RX12 53 15 19 2 true := ⟨RX12, TX12, 72, tyX12, rfl, cw_15, by decide, rfl, tyX12_ok, nmX12, rfl, rfl, fun _ => rfl, Or.inl (aw_i 1462 (by decide +kernel) rfl)⟩
theorem fw_X12_56 : FW RX12 56 15 20 2 true := ⟨RX12, TX12, 72, tyX12, rfl, cw_15, by decide, rfl, tyX12_ok, nmX12, rfl, rfl, fun _ => rfl, Or.inl (aw_i 1463 (by decide +kernel) rfl)⟩
theorem fw_X12_59 : FW RX12 59 15 21 2 true := ⟨RX12, TX12, 72, tyX12, rfl, cw_15, by decide, rfl, tyX12_ok, nmX12, rfl, rfl, fun _ => rfl, Or.inl (aw_i 1464 (by decide +kernel) rfl)⟩
theorem fw_X12_62 : FW RX12 62 15 22 2 true := ⟨RX12, TX12, 72, tyX12, rfl, cw_15, by decide, rfl, tyX12_ok, nmX12, rfl, rfl, fun _ => rfl, Or.inl (aw_i 1465 (by decide +kernel) rfl)⟩
theorem fw_X12_65 : FW RX12 65 15 23 2 true := ⟨RX12, TX12, 72, tyX12, rfl, cw_15, by decide, rfl, tyX12_ok, nmX12, rfl, rfl, fun _ => rfl, Or.inl (aw_i 1466 (by decide +kernel) rfl)⟩
theorem fw_X12_68 : FW RX12 68 15 25 2 true := ⟨RX12, TX12, 72, tyX12, rfl, cw_15, by decide, rfl, tyX12_ok, nmX12, rfl, rfl, fun _ => rfl, Or.inl (aw_i 1468 (by decide +kernel) rfl)⟩
theorem fw_X12_71 : FW RX12 71 15 26 2 true := ⟨RX12, TX12, 72, tyX12, rfl, cw_15, by decide, rfl, tyX12_ok, nmX12, rfl, rfl, fun _ => rfl, Or.inl (aw_i 1469 (by decide +kernel) rfl)⟩
theorem fw_X12_74 : FW RX12 74 15 27 2 true := ⟨RX12, TX12, 72, tyX12, rfl, cw_15, by decide, rfl, tyX12_ok, nmX12, rfl, rfl, fun _ => rfl, Or.inl (aw_i 1470 (by decide +kernel) rfl)⟩
theorem fw_X12_77 : FW RX12 77 15 29 2 true := ⟨RX12, TX12, 72, tyX12, rfl, cw_15, by decide, rfl, tyX12_ok, nmX12, rfl, rfl, fun _ => rfl, Or.inl (aw_i 1472 (by decide +kernel) rfl)⟩
theorem fw_X12_80 : FW RX12 80 15 30 2 true := ⟨RX12, TX12, 72, tyX12, rfl, cw_15, by decide, rfl, tyX12_ok, nmX12, rfl, rfl, fun _ => rfl, Or.inl (aw_i 1473 (by decide +kernel) rfl)⟩
theorem fw_X12_83 : FW RX12 83 15 31 2 true := ⟨RX12, TX12, 72, tyX12, rfl, cw_15, by decide, rfl, tyX12_ok, nmX12, rfl, rfl, fun _ => rfl, Or.inl (aw_i 1474 (by decide +kernel) rfl)⟩
theorem fw_X12_86 : FW RX12 86 15 32 2 true := ⟨RX12, TX12, 72, tyX12, rfl, cw_15, by decide, rfl, tyX12_ok, nmX12, rfl, rfl, fun _ => rfl, Or.inl (aw_i 1475 (by decide +kernel) rfl)⟩
theorem fw_X12_89 : FW RX12 89 15 33 2 true := ⟨RX12, TX12, 72, tyX12, rfl, cw_15, by decide, rfl, tyX12_ok, nmX12, rfl, rfl, fun _ => rfl, Or.inl (aw_i 1476 (by decide +kernel) rfl)⟩
theorem fw_X12_92 : FW RX12 92 15 35 2 true := ⟨RX12, TX12, 72, tyX12, rfl, cw_15, by decide, rfl, tyX12_ok, nmX12, rfl, rfl, fun _ => rfl, Or.inl (aw_i 1478 (by decide +kernel) rfl)⟩
theorem fw_X12_95 : FW RX12 95 15 36 2 true := ⟨RX12, TX12, 72, tyX12, rfl, cw_15, by decide, rfl, tyX12_ok, nmX12, rfl, rfl, fun _ => rfl, Or.inl (aw_i 1479 (by decide +kernel) rfl)⟩
theorem fw_X12_98 : FW RX12 98 15 37 2 true := ⟨RX12, TX12, 72, tyX12, rfl, cw_15, by decide, rfl, tyX12_ok, nmX12, rfl, rfl, fun _ => rfl, Or.inl (aw_i 1480 (by decide +kernel) rfl)⟩
theorem fw_X12_101 : FW RX12 101 15 38 2 true := ⟨RX12, TX12, 72, tyX12, rfl, cw_15, by decide, rfl, tyX12_ok, nmX12, rfl, rfl, fun _ => rfl, Or.inl (aw_i 1481 (by decide +kernel) rfl)⟩
theorem fw_X12_104 : FW RX12 104 15 39 2 true := ⟨RX12, TX12, 72, tyX12, rfl, cw_15, by decide, rfl, tyX12_ok, nmX12, rfl, rfl, fun _ => rfl, Or.inl (aw_i 1482 (by decide +kernel) rfl)⟩
theorem fw_X12_107 : FW RX12 107 15 40 2 true := ⟨RX12, TX12, 72, tyX12, rfl, cw_15, by decide, rfl, tyX12_ok, nmX12, rfl, rfl, fun _ => rfl, Or.inl (aw_i 1483 (by decide +kernel) rfl)⟩
theorem fw_X12_110 : FW RX12 110 15 41 2 true := ⟨RX12, TX12, 72, tyX12, rfl, cw_15, by decide, rfl, tyX12_ok, nmX12, rfl, rfl, fun _ => rfl, Or.inl (aw_i 1484 (by decide +kernel) rfl)⟩
theorem fw_X12_113 : FW RX12 113 15 42 2 true := ⟨RX12, TX12, 72, tyX12, rfl, cw_15, by decide, rfl, tyX12_ok, nmX12, rfl, rfl, fun _ => rfl, Or.inl (aw_i 1485 (by decide +kernel) rfl)⟩
theorem fw_X12_116 : FW RX12 116 15 43 2 true := ⟨RX12, TX12, 72, tyX12, rfl, cw_15, by decide, rfl, tyX12_ok, nmX12, rfl, rfl, fun _ => rfl, Or.inl (aw_i 1486 (by decide +kernel) rfl)⟩
theorem fw_X12_119 : FW RX12 119 15 46 2 true := ⟨RX12, TX12, 72, tyX12, rfl, cw_15, by decide, rfl, tyX12_ok, nmX12, rfl, rfl, fun _ => rfl, Or.inl (aw_i 1489 (by decide +kernel) rfl)⟩
theorem fw_X12_122 : FW RX12 122 15 47 2 true := ⟨RX12, TX12, 72, tyX12, rfl, cw_15, by decide, rfl, tyX12_ok, nmX12, rfl, rfl, fun _ => rfl, Or.inl (aw_i 1490 (by decide +kernel) rfl)⟩
theorem fw_X12_125 : FW RX12 125 15 48 2 true := ⟨RX12, TX12, 72, tyX12, rfl, cw_15, by decide, rfl, tyX12_ok, nmX12, rfl, rfl, fun _ => rfl, Or.inl (aw_i 1491 (by decide +kernel) rfl)⟩
theorem fw_X12_128 : FW RX12 128 15 49 2 true := ⟨RX12, TX12, 72, tyX12, rfl, cw_15, by decide, rfl, tyX12_ok, nmX12, rfl, rfl, fun _ => rfl, Or.inl (aw_i 1492 (by decide +kernel) rfl)⟩
theorem fw_X12_131 : FW RX12 131 15 50 2 true := ⟨RX12, TX12, 72, tyX12, rfl, cw_15, by decide, rfl, tyX12_ok, nmX12, rfl, rfl, fun _ => rfl, Or.inl (aw_i 1493 (by decide +kernel) rfl)⟩
theorem fw_X12_134 : FW RX12 134 15 51 2 true := ⟨RX12, TX12, 72, tyX12, rfl, cw_15, by decide, rfl, tyX12_ok, nmX12, rfl, rfl, fun _ => rfl, Or.inl (aw_i 1494 (by decide +kernel) rfl)⟩
theorem fw_X12_137 : FW RX12 137 15 52 2 true := ⟨RX12, TX12, 72, tyX12, rfl, cw_15, by decide, rfl, tyX12_ok, nmX12, rfl, rfl, fun _ => rfl, Or.inl (aw_i 1495 (by decide +kernel) rfl)⟩
theorem fw_X12_140 : FW RX12 140 15 55 2 true := ⟨RX12, TX12, 72, tyX12, rfl, cw_15, by decide, rfl, tyX12_ok, nmX12, rfl, rfl, fun _ => rfl, Or.inl (aw_i 1498 (by decide +kernel) rfl)⟩
theorem fw_X12_143 : FW RX12 143 15 56 2 true := ⟨RX12, TX12, 72, tyX12, rfl, cw_15, by decide, rfl, tyX12_ok, nmX12, rfl, rfl, fun _ => rfl, Or.inl (aw_i 1499 (by decide +kernel) rfl)⟩
theorem fw_X12_146 : FW RX12 146 15 57 2 true := ⟨RX12, TX12, 72, tyX12, rfl, cw_15, by decide, rfl, tyX12_ok, nmX12, rfl, rfl, fun _ => rfl, Or.inl (aw_i 1500 (by decide +kernel) rfl)⟩
theorem fw_X12_149 : FW RX12 149 15 58 2 true := ⟨RX12, TX12, 72, tyX12, rfl, cw_15, by decide, rfl, tyX12_ok, nmX12, rfl, rfl, fun _ => rfl, Or.inl (aw_i 1501 (by decide +kernel) rfl)⟩
theorem fw_X12_152 : FW RX12 152 15 59 2 true := ⟨RX12, TX12, 72, tyX12, rfl, cw_15, by decide, rfl, tyX12_ok, nmX12, rfl, rfl, fun _ => rfl, Or.inl (aw_i 1502 (by decide +kernel) rfl)⟩
theorem fw_X12_155 : FW RX12 155 15 60 2 true := ⟨RX12, TX12, 72, tyX12, rfl, cw_15, by decide, rfl, tyX12_ok, nmX12, rfl, rfl, fun _ => rfl, Or.inl (aw_i 1503 (by decide +kernel) rfl)⟩
theorem fw_X12_158 : FW RX12 158 15 70 2 true := ⟨RX12, TX12, 72, tyX12, rfl, cw_15, by decide, rfl, tyX12_ok, nmX12, rfl, rfl, fun _ => rfl, Or.inl (aw_i 1513 (by decide +kernel) rfl)⟩
theorem fr_X12_161 : FR RX12 161 15 71 := ⟨RX12, TX12, 72, rfl, cw_15, by decide, rfl, Or.inl (aw_i 1514 (by decide +kernel) rfl)⟩
theorem fw_X12_161 : FW RX12 161 15 71 0 false := ⟨RX12, TX12, 72, tyX12, rfl, cw_15, by decide, rfl, tyX12_ok, nmX12, rfl, rfl, (fun h => by cases h), Or.inl (aw_i 1514 (by decide +kernel) rfl)⟩
theorem fr_X12_165 : FR RX12 165 15 3 := ⟨RX12, TX12, 72, rfl, cw_15, by decide, rfl, Or.inl (aw_i 1446 (by decide +kernel) rfl)⟩
theorem vw_X12_168 : VW RX12 168 yX12_lies cX12_lies 3 (some .boolean) 3 := ⟨⟨aw_i 1675 (by decide +kernel) rfl, aw_i 96 (by decide +kernel) rfl, by decide +kernel, by decide +kernel, by decide +kernel⟩, Or.inl (aw_i 1673 (by decide +kernel) rfl)⟩
theorem tw_X12_lies : Cond.static yX12_lies ∈ AW := aw_i 1674 (by decide +kernel) rfl
theorem fr_X12_172 : FR RX12 172 15 7 := ⟨RX12, TX12, 72, rfl, cw_15, by decide, rfl, Or.inl (aw_i 1450 (by decide +kernel) rfl)⟩
theorem fr_X12_7 : FR RX12 7 15 4 := ⟨RX12, TX12, 72, rfl, cw_15, by decide, rfl, Or.inl (aw_i 1447 (by decide +kernel) rfl)⟩
theorem fr_X12_13 : FR RX12 13 15 5 := ⟨RX12, TX12, 72, rfl, cw_15, by decide, rfl, Or.inl (aw_i 1448 (by decide +kernel) rfl)⟩
theorem vw_X12_175 : VW RX12 175 yX12_isHost cX12_isHost 2 (some .boolean) 1 := ⟨⟨aw_i 1672 (by decide +kernel) rfl, aw_i 96 (by decide +kernel) rfl, by decide +kernel, by decide +kernel, by decide +kernel⟩, Or.inl (aw_i 1669 (by decide +kernel) rfl)⟩
theorem iw_X12_isHost : Cond.instanceMethod yX12_isHost ∈ AW := aw_i 1671 (by decide +kernel) rfl
theorem sw_X12_isHost : Cond.selects yX12_isHost.cls yX12_isHost yX12_isHost ∈ AW := aw_i 50 (by decide +kernel) rfl
theorem vw_X12_179 : VW RX12 179 yX12_hostOf cX12_hostOf 5 (some .int) 2 := ⟨⟨aw_i 1679 (by decide +kernel) rfl, aw_i 96 (by decide +kernel) rfl, by decide +kernel, by decide +kernel, by decide +kernel⟩, Or.inl (aw_i 1676 (by decide +kernel) rfl)⟩
theorem iw_X12_hostOf : Cond.instanceMethod yX12_hostOf ∈ AW := aw_i 1678 (by decide +kernel) rfl
theorem sw_X12_hostOf : Cond.selects yX12_hostOf.cls yX12_hostOf yX12_hostOf ∈ AW := aw_i 51 (by decide +kernel) rfl
theorem vw_X12_183 : VW RX12 183 yX12_depth cX12_depth 4 (some .int) 1 := ⟨⟨aw_i 1683 (by decide +kernel) rfl, aw_i 96 (by decide +kernel) rfl, by decide +kernel, by decide +kernel, by decide +kernel⟩, Or.inl (aw_i 1680 (by decide +kernel) rfl)⟩
theorem iw_X12_depth : Cond.instanceMethod yX12_depth ∈ AW := aw_i 1682 (by decide +kernel) rfl
theorem sw_X12_depth : Cond.selects yX12_depth.cls yX12_depth yX12_depth ∈ AW := aw_i 52 (by decide +kernel) rfl
theorem vw_X12_187 : VW RX12 187 yX12_fails cX12_fails 2 (some .boolean) 1 := ⟨⟨aw_i 1687 (by decide +kernel) rfl, aw_i 96 (by decide +kernel) rfl, by decide +kernel, by decide +kernel, by decide +kernel⟩, Or.inl (aw_i 1684 (by decide +kernel) rfl)⟩
theorem iw_X12_fails : Cond.instanceMethod yX12_fails ∈ AW := aw_i 1686 (by decide +kernel) rfl
theorem sw_X12_fails : Cond.selects yX12_fails.cls yX12_fails yX12_fails ∈ AW := aw_i 53 (by decide +kernel) rfl
theorem fw_X12_165 : FW RX12 165 15 3 0 false := ⟨RX12, TX12, 72, tyX12, rfl, cw_15, by decide, rfl, tyX12_ok, nmX12, rfl, rfl, (fun h => by cases h), Or.inl (aw_i 1446 (by decide +kernel) rfl)⟩
theorem fr_X12_16 : FR RX12 16 15 6 := ⟨RX12, TX12, 72, rfl, cw_15, by decide, rfl, Or.inl (aw_i 1449 (by decide +kernel) rfl)⟩
theorem vw_X12_190 : VW RX12 190 yX12_siteOf cX12_siteOf 3 (some .int) 1 := ⟨⟨aw_i 1699 (by decide +kernel) rfl, aw_i 96 (by decide +kernel) rfl, by decide +kernel, by decide +kernel, by decide +kernel⟩, Or.inl (aw_i 1696 (by decide +kernel) rfl)⟩
theorem iw_X12_siteOf : Cond.instanceMethod yX12_siteOf ∈ AW := aw_i 1698 (by decide +kernel) rfl
theorem sw_X12_siteOf : Cond.selects yX12_siteOf.cls yX12_siteOf yX12_siteOf ∈ AW := aw_i 54 (by decide +kernel) rfl
theorem fr_X12_20 : FR RX12 20 15 8 := ⟨RX12, TX12, 72, rfl, cw_15, by decide, rfl, Or.inl (aw_i 1451 (by decide +kernel) rfl)⟩
theorem fr_X12_23 : FR RX12 23 15 9 := ⟨RX12, TX12, 72, rfl, cw_15, by decide, rfl, Or.inl (aw_i 1452 (by decide +kernel) rfl)⟩
theorem fr_X12_26 : FR RX12 26 15 10 := ⟨RX12, TX12, 72, rfl, cw_15, by decide, rfl, Or.inl (aw_i 1453 (by decide +kernel) rfl)⟩
theorem fr_X12_29 : FR RX12 29 15 11 := ⟨RX12, TX12, 72, rfl, cw_15, by decide, rfl, Or.inl (aw_i 1454 (by decide +kernel) rfl)⟩
theorem vw_X12_193 : VW RX12 193 yX12_find cX12_find 7 (some .int) 4 := ⟨⟨aw_i 1714 (by decide +kernel) rfl, aw_i 96 (by decide +kernel) rfl, by decide +kernel, by decide +kernel, by decide +kernel⟩, Or.inl (aw_i 1711 (by decide +kernel) rfl)⟩
theorem iw_X12_find : Cond.instanceMethod yX12_find ∈ AW := aw_i 1713 (by decide +kernel) rfl
theorem sw_X12_find : Cond.selects yX12_find.cls yX12_find yX12_find ∈ AW := aw_i 56 (by decide +kernel) rfl
theorem fr_X12_32 : FR RX12 32 15 12 := ⟨RX12, TX12, 72, rfl, cw_15, by decide, rfl, Or.inl (aw_i 1455 (by decide +kernel) rfl)⟩
theorem fr_X12_38 : FR RX12 38 15 14 := ⟨RX12, TX12, 72, rfl, cw_15, by decide, rfl, Or.inl (aw_i 1457 (by decide +kernel) rfl)⟩
theorem fr_X12_53 : FR RX12 53 15 19 := ⟨RX12, TX12, 72, rfl, cw_15, by decide, rfl, Or.inl (aw_i 1462 (by decide +kernel) rfl)⟩
theorem fw_X12_172 : FW RX12 172 15 7 0 false := ⟨RX12, TX12, 72, tyX12, rfl, cw_15, by decide, rfl, tyX12_ok, nmX12, rfl, rfl, (fun h => by cases h), Or.inl (aw_i 1450 (by decide +kernel) rfl)⟩
theorem vw_X12_197 : VW RX12 197 yX12_isPath cX12_isPath 1 (some .boolean) 1 := ⟨⟨aw_i 1706 (by decide +kernel) rfl, aw_i 96 (by decide +kernel) rfl, by decide +kernel, by decide +kernel, by decide +kernel⟩, Or.inl (aw_i 1704 (by decide +kernel) rfl)⟩
theorem tw_X12_isPath : Cond.static yX12_isPath ∈ AW := aw_i 1705 (by decide +kernel) rfl
theorem vw_X12_200 : VW RX12 200 yX12_tells cX12_tells 6 (some .int) 4 := ⟨⟨aw_i 1710 (by decide +kernel) rfl, aw_i 96 (by decide +kernel) rfl, by decide +kernel, by decide +kernel, by decide +kernel⟩, Or.inl (aw_i 1707 (by decide +kernel) rfl)⟩
theorem iw_X12_tells : Cond.instanceMethod yX12_tells ∈ AW := aw_i 1709 (by decide +kernel) rfl
theorem sw_X12_tells : Cond.selects yX12_tells.cls yX12_tells yX12_tells ∈ AW := aw_i 55 (by decide +kernel) rfl
theorem fr_X12_158 : FR RX12 158 15 70 := ⟨RX12, TX12, 72, rfl, cw_15, by decide, rfl, Or.inl (aw_i 1513 (by decide +kernel) rfl)⟩
theorem vw_X12_203 : VW RX12 203 yX12_isAddress cX12_isAddress 2 (some .boolean) 1 := ⟨⟨aw_i 1722 (by decide +kernel) rfl, aw_i 96 (by decide +kernel) rfl, by decide +kernel, by decide +kernel, by decide +kernel⟩, Or.inl (aw_i 1719 (by decide +kernel) rfl)⟩
theorem iw_X12_isAddress : Cond.instanceMethod yX12_isAddress ∈ AW := aw_i 1721 (by decide +kernel) rfl
theorem sw_X12_isAddress : Cond.selects yX12_isAddress.cls yX12_isAddress yX12_isAddress ∈ AW := aw_i 57 (by decide +kernel) rfl
theorem vw_X12_206 : VW RX12 206 yX12_isReference cX12_isReference 1 (some .boolean) 1 := ⟨⟨aw_i 1725 (by decide +kernel) rfl, aw_i 96 (by decide +kernel) rfl, by decide +kernel, by decide +kernel, by decide +kernel⟩, Or.inl (aw_i 1723 (by decide +kernel) rfl)⟩
theorem tw_X12_isReference : Cond.static yX12_isReference ∈ AW := aw_i 1724 (by decide +kernel) rfl
theorem vw_X12_209 : VW RX12 209 yX12_resolved cX12_resolved 8 (some .int) 2 := ⟨⟨aw_i 1729 (by decide +kernel) rfl, aw_i 96 (by decide +kernel) rfl, by decide +kernel, by decide +kernel, by decide +kernel⟩, Or.inl (aw_i 1726 (by decide +kernel) rfl)⟩
theorem iw_X12_resolved : Cond.instanceMethod yX12_resolved ∈ AW := aw_i 1728 (by decide +kernel) rfl
theorem sw_X12_resolved : Cond.selects yX12_resolved.cls yX12_resolved yX12_resolved ∈ AW := aw_i 58 (by decide +kernel) rfl
theorem vw_X12_212 : VW RX12 212 yX12_letters cX12_letters 1 (some .int) 1 := ⟨⟨aw_i 1740 (by decide +kernel) rfl, aw_i 96 (by decide +kernel) rfl, by decide +kernel, by decide +kernel, by decide +kernel⟩, Or.inl (aw_i 1738 (by decide +kernel) rfl)⟩
theorem tw_X12_letters : Cond.static yX12_letters ∈ AW := aw_i 1739 (by decide +kernel) rfl
theorem vw_X12_215 : VW RX12 215 yX12_letter cX12_letter 2 (some .char) 2 := ⟨⟨aw_i 1743 (by decide +kernel) rfl, aw_i 96 (by decide +kernel) rfl, by decide +kernel, by decide +kernel, by decide +kernel⟩, Or.inl (aw_i 1741 (by decide +kernel) rfl)⟩
theorem tw_X12_letter : Cond.static yX12_letter ∈ AW := aw_i 1742 (by decide +kernel) rfl
theorem vw_X12_219 : VW RX12 219 yX12_behind cX12_behind 7 (some .char) 2 := ⟨⟨aw_i 1747 (by decide +kernel) rfl, aw_i 96 (by decide +kernel) rfl, by decide +kernel, by decide +kernel, by decide +kernel⟩, Or.inl (aw_i 1744 (by decide +kernel) rfl)⟩
theorem iw_X12_behind : Cond.instanceMethod yX12_behind ∈ AW := aw_i 1746 (by decide +kernel) rfl
theorem sw_X12_behind : Cond.selects yX12_behind.cls yX12_behind yX12_behind ∈ AW := aw_i 60 (by decide +kernel) rfl
theorem vw_X12_222 : VW RX12 222 yX12_sign cX12_sign 6 (some .char) 2 := ⟨⟨aw_i 1737 (by decide +kernel) rfl, aw_i 96 (by decide +kernel) rfl, by decide +kernel, by decide +kernel, by decide +kernel⟩, Or.inl (aw_i 1734 (by decide +kernel) rfl)⟩
theorem iw_X12_sign : Cond.instanceMethod yX12_sign ∈ AW := aw_i 1736 (by decide +kernel) rfl
theorem sw_X12_sign : Cond.selects yX12_sign.cls yX12_sign yX12_sign ∈ AW := aw_i 59 (by decide +kernel) rfl
theorem fr_X12_35 : FR RX12 35 15 13 := ⟨RX12, TX12, 72, rfl, cw_15, by decide, rfl, Or.inl (aw_i 1456 (by decide +kernel) rfl)⟩
theorem fr_X12_41 : FR RX12 41 15 15 := ⟨RX12, TX12, 72, rfl, cw_15, by decide, rfl, Or.inl (aw_i 1458 (by decide +kernel) rfl)⟩
theorem fr_X12_44 : FR RX12 44 15 16 := ⟨RX12, TX12, 72, rfl, cw_15, by decide, rfl, Or.inl (aw_i 1459 (by decide +kernel) rfl)⟩
theorem fr_X12_47 : FR RX12 47 15 17 := ⟨RX12, TX12, 72, rfl, cw_15, by decide, rfl, Or.inl (aw_i 1460 (by decide +kernel) rfl)⟩
theorem fr_X12_50 : FR RX12 50 15 18 := ⟨RX12, TX12, 72, rfl, cw_15, by decide, rfl, Or.inl (aw_i 1461 (by decide +kernel) rfl)⟩
theorem fr_X12_56 : FR RX12 56 15 20 := ⟨RX12, TX12, 72, rfl, cw_15, by decide, rfl, Or.inl (aw_i 1463 (by decide +kernel) rfl)⟩
theorem fr_X12_59 : FR RX12 59 15 21 := ⟨RX12, TX12, 72, rfl, cw_15, by decide, rfl, Or.inl (aw_i 1464 (by decide +kernel) rfl)⟩
theorem fr_X12_62 : FR RX12 62 15 22 := ⟨RX12, TX12, 72, rfl, cw_15, by decide, rfl, Or.inl (aw_i 1465 (by decide +kernel) rfl)⟩
theorem fr_X12_65 : FR RX12 65 15 23 := ⟨RX12, TX12, 72, rfl, cw_15, by decide, rfl, Or.inl (aw_i 1466 (by decide +kernel) rfl)⟩
theorem fr_X12_225 : FR RX12 225 15 2 := ⟨RX12, TX12, 72, rfl, cw_15, by decide, rfl, Or.inl (aw_i 1445 (by decide +kernel) rfl)⟩
theorem fw_X12_225 : FW RX12 225 15 2 1 false := ⟨RX12, TX12, 72, tyX12, rfl, cw_15, by decide, rfl, tyX12_ok, nmX12, rfl, rfl, (fun h => by cases h), Or.inl (aw_i 1445 (by decide +kernel) rfl)⟩
theorem fr_X12_229 : FR RX12 229 15 24 := ⟨RX12, TX12, 72, rfl, cw_15, by decide, rfl, Or.inl (aw_i 1467 (by decide +kernel) rfl)⟩
theorem vw_X12_232 : VW RX12 232 yX12_isPage cX12_isPage 2 (some .boolean) 1 := ⟨⟨aw_i 1771 (by decide +kernel) rfl, aw_i 96 (by decide +kernel) rfl, by decide +kernel, by decide +kernel, by decide +kernel⟩, Or.inl (aw_i 1768 (by decide +kernel) rfl)⟩
theorem iw_X12_isPage : Cond.instanceMethod yX12_isPage ∈ AW := aw_i 1770 (by decide +kernel) rfl
theorem sw_X12_isPage : Cond.selects yX12_isPage.cls yX12_isPage yX12_isPage ∈ AW := aw_i 61 (by decide +kernel) rfl
theorem fr_X12_68 : FR RX12 68 15 25 := ⟨RX12, TX12, 72, rfl, cw_15, by decide, rfl, Or.inl (aw_i 1468 (by decide +kernel) rfl)⟩
theorem fr_X12_71 : FR RX12 71 15 26 := ⟨RX12, TX12, 72, rfl, cw_15, by decide, rfl, Or.inl (aw_i 1469 (by decide +kernel) rfl)⟩
theorem fr_X12_74 : FR RX12 74 15 27 := ⟨RX12, TX12, 72, rfl, cw_15, by decide, rfl, Or.inl (aw_i 1470 (by decide +kernel) rfl)⟩
theorem fw_X12_229 : FW RX12 229 15 24 0 false := ⟨RX12, TX12, 72, tyX12, rfl, cw_15, by decide, rfl, tyX12_ok, nmX12, rfl, rfl, (fun h => by cases h), Or.inl (aw_i 1467 (by decide +kernel) rfl)⟩
theorem vw_X12_235 : VW RX12 235 yX12_gate cX12_gate 2 (some .int) 1 := ⟨⟨aw_i 1807 (by decide +kernel) rfl, aw_i 96 (by decide +kernel) rfl, by decide +kernel, by decide +kernel, by decide +kernel⟩, Or.inl (aw_i 1804 (by decide +kernel) rfl)⟩
theorem iw_X12_gate : Cond.instanceMethod yX12_gate ∈ AW := aw_i 1806 (by decide +kernel) rfl
theorem sw_X12_gate : Cond.selects yX12_gate.cls yX12_gate yX12_gate ∈ AW := aw_i 69 (by decide +kernel) rfl
theorem vw_X12_238 : VW RX12 238 yX12_place cX12_place 2 (some .int) 1 := ⟨⟨aw_i 1783 (by decide +kernel) rfl, aw_i 96 (by decide +kernel) rfl, by decide +kernel, by decide +kernel, by decide +kernel⟩, Or.inl (aw_i 1780 (by decide +kernel) rfl)⟩
theorem iw_X12_place : Cond.instanceMethod yX12_place ∈ AW := aw_i 1782 (by decide +kernel) rfl
theorem sw_X12_place : Cond.selects yX12_place.cls yX12_place yX12_place ∈ AW := aw_i 63 (by decide +kernel) rfl
theorem fr_X12_241 : FR RX12 241 15 44 := ⟨RX12, TX12, 72, rfl, cw_15, by decide, rfl, Or.inl (aw_i 1487 (by decide +kernel) rfl)⟩
theorem fw_X12_241 : FW RX12 241 15 44 0 false := ⟨RX12, TX12, 72, tyX12, rfl, cw_15, by decide, rfl, tyX12_ok, nmX12, rfl, rfl, (fun h => by cases h), Or.inl (aw_i 1487 (by decide +kernel) rfl)⟩
theorem fr_X12_119 : FR RX12 119 15 46 := ⟨RX12, TX12, 72, rfl, cw_15, by decide, rfl, Or.inl (aw_i 1489 (by decide +kernel) rfl)⟩
theorem fr_X12_122 : FR RX12 122 15 47 := ⟨RX12, TX12, 72, rfl, cw_15, by decide, rfl, Or.inl (aw_i 1490 (by decide +kernel) rfl)⟩
theorem fr_X12_125 : FR RX12 125 15 48 := ⟨RX12, TX12, 72, rfl, cw_15, by decide, rfl, Or.inl (aw_i 1491 (by decide +kernel) rfl)⟩
theorem fr_X12_128 : FR RX12 128 15 49 := ⟨RX12, TX12, 72, rfl, cw_15, by decide, rfl, Or.inl (aw_i 1492 (by decide +kernel) rfl)⟩
theorem fr_X12_131 : FR RX12 131 15 50 := ⟨RX12, TX12, 72, rfl, cw_15, by decide, rfl, Or.inl (aw_i 1493 (by decide +kernel) rfl)⟩
theorem fr_X12_134 : FR RX12 134 15 51 := ⟨RX12, TX12, 72, rfl, cw_15, by decide, rfl, Or.inl (aw_i 1494 (by decide +kernel) rfl)⟩
theorem fr_X12_137 : FR RX12 137 15 52 := ⟨RX12, TX12, 72, rfl, cw_15, by decide, rfl, Or.inl (aw_i 1495 (by decide +kernel) rfl)⟩
theorem fr_X12_244 : FR RX12 244 15 0 := ⟨RX12, TX12, 72, rfl, cw_15, by decide, rfl, Or.inl (aw_i 1443 (by decide +kernel) rfl)⟩
theorem vw_X12_247 : VW RX12 247 yX12_closes cX12_closes 3 none 1 := ⟨⟨aw_i 1831 (by decide +kernel) rfl, aw_i 96 (by decide +kernel) rfl, by decide +kernel, by decide +kernel, by decide +kernel⟩, Or.inl (aw_i 1828 (by decide +kernel) rfl)⟩
theorem iw_X12_closes : Cond.instanceMethod yX12_closes ∈ AW := aw_i 1830 (by decide +kernel) rfl
theorem sw_X12_closes : Cond.selects yX12_closes.cls yX12_closes yX12_closes ∈ AW := aw_i 75 (by decide +kernel) rfl
theorem fr_X12_251 : FR RX12 251 15 45 := ⟨RX12, TX12, 72, rfl, cw_15, by decide, rfl, Or.inl (aw_i 1488 (by decide +kernel) rfl)⟩
theorem fw_X12_251 : FW RX12 251 15 45 0 false := ⟨RX12, TX12, 72, tyX12, rfl, cw_15, by decide, rfl, tyX12_ok, nmX12, rfl, rfl, (fun h => by cases h), Or.inl (aw_i 1488 (by decide +kernel) rfl)⟩
theorem fr_X12_254 : FR RX12 254 15 1 := ⟨RX12, TX12, 72, rfl, cw_15, by decide, rfl, Or.inl (aw_i 1444 (by decide +kernel) rfl)⟩
theorem fw_X12_254 : FW RX12 254 15 1 0 false := ⟨RX12, TX12, 72, tyX12, rfl, cw_15, by decide, rfl, tyX12_ok, nmX12, rfl, rfl, (fun h => by cases h), Or.inl (aw_i 1444 (by decide +kernel) rfl)⟩
theorem vw_X12_257 : VW RX12 257 yX12_many cX12_many 1 (some .int) 1 := ⟨⟨aw_i 1842 (by decide +kernel) rfl, aw_i 96 (by decide +kernel) rfl, by decide +kernel, by decide +kernel, by decide +kernel⟩, Or.inl (aw_i 1840 (by decide +kernel) rfl)⟩
theorem tw_X12_many : Cond.static yX12_many ∈ AW := aw_i 1841 (by decide +kernel) rfl
theorem fr_X12_260 : FR RX12 260 15 34 := ⟨RX12, TX12, 72, rfl, cw_15, by decide, rfl, Or.inl (aw_i 1477 (by decide +kernel) rfl)⟩
theorem fw_X12_260 : FW RX12 260 15 34 0 false := ⟨RX12, TX12, 72, tyX12, rfl, cw_15, by decide, rfl, tyX12_ok, nmX12, rfl, rfl, (fun h => by cases h), Or.inl (aw_i 1477 (by decide +kernel) rfl)⟩
theorem fr_X12_92 : FR RX12 92 15 35 := ⟨RX12, TX12, 72, rfl, cw_15, by decide, rfl, Or.inl (aw_i 1478 (by decide +kernel) rfl)⟩
theorem fr_X12_95 : FR RX12 95 15 36 := ⟨RX12, TX12, 72, rfl, cw_15, by decide, rfl, Or.inl (aw_i 1479 (by decide +kernel) rfl)⟩
theorem fr_X12_98 : FR RX12 98 15 37 := ⟨RX12, TX12, 72, rfl, cw_15, by decide, rfl, Or.inl (aw_i 1480 (by decide +kernel) rfl)⟩
theorem fr_X12_101 : FR RX12 101 15 38 := ⟨RX12, TX12, 72, rfl, cw_15, by decide, rfl, Or.inl (aw_i 1481 (by decide +kernel) rfl)⟩
theorem fr_X12_104 : FR RX12 104 15 39 := ⟨RX12, TX12, 72, rfl, cw_15, by decide, rfl, Or.inl (aw_i 1482 (by decide +kernel) rfl)⟩
theorem fr_X12_107 : FR RX12 107 15 40 := ⟨RX12, TX12, 72, rfl, cw_15, by decide, rfl, Or.inl (aw_i 1483 (by decide +kernel) rfl)⟩
theorem fr_X12_110 : FR RX12 110 15 41 := ⟨RX12, TX12, 72, rfl, cw_15, by decide, rfl, Or.inl (aw_i 1484 (by decide +kernel) rfl)⟩
theorem fr_X12_113 : FR RX12 113 15 42 := ⟨RX12, TX12, 72, rfl, cw_15, by decide, rfl, Or.inl (aw_i 1485 (by decide +kernel) rfl)⟩
theorem fr_X12_116 : FR RX12 116 15 43 := ⟨RX12, TX12, 72, rfl, cw_15, by decide, rfl, Or.inl (aw_i 1486 (by decide +kernel) rfl)⟩
theorem vw_X12_263 : VW RX12 263 yX12_has cX12_has 2 (some .boolean) 2 := ⟨⟨aw_i 1856 (by decide +kernel) rfl, aw_i 96 (by decide +kernel) rfl, by decide +kernel, by decide +kernel, by decide +kernel⟩, Or.inl (aw_i 1854 (by decide +kernel) rfl)⟩
theorem tw_X12_has : Cond.static yX12_has ∈ AW := aw_i 1855 (by decide +kernel) rfl
theorem vw_X12_267 : VW RX12 267 yX12_isLax cX12_isLax 1 (some .boolean) 1 := ⟨⟨aw_i 1859 (by decide +kernel) rfl, aw_i 96 (by decide +kernel) rfl, by decide +kernel, by decide +kernel, by decide +kernel⟩, Or.inl (aw_i 1857 (by decide +kernel) rfl)⟩
theorem tw_X12_isLax : Cond.static yX12_isLax ∈ AW := aw_i 1858 (by decide +kernel) rfl
theorem vw_X12_270 : VW RX12 270 yX12_isStrict cX12_isStrict 1 (some .boolean) 1 := ⟨⟨aw_i 1862 (by decide +kernel) rfl, aw_i 96 (by decide +kernel) rfl, by decide +kernel, by decide +kernel, by decide +kernel⟩, Or.inl (aw_i 1860 (by decide +kernel) rfl)⟩
theorem tw_X12_isStrict : Cond.static yX12_isStrict ∈ AW := aw_i 1861 (by decide +kernel) rfl
theorem fr_X12_273 : FR RX12 273 15 68 := ⟨RX12, TX12, 72, rfl, cw_15, by decide, rfl, Or.inl (aw_i 1511 (by decide +kernel) rfl)⟩
theorem fr_X12_276 : FR RX12 276 15 62 := ⟨RX12, TX12, 72, rfl, cw_15, by decide, rfl, Or.inl (aw_i 1505 (by decide +kernel) rfl)⟩
theorem vw_X12_279 : VW RX12 279 yX12_isIn cX12_isIn 4 (some .boolean) 2 := ⟨⟨aw_i 1850 (by decide +kernel) rfl, aw_i 96 (by decide +kernel) rfl, by decide +kernel, by decide +kernel, by decide +kernel⟩, Or.inl (aw_i 1847 (by decide +kernel) rfl)⟩
theorem iw_X12_isIn : Cond.instanceMethod yX12_isIn ∈ AW := aw_i 1849 (by decide +kernel) rfl
theorem sw_X12_isIn : Cond.selects yX12_isIn.cls yX12_isIn yX12_isIn ∈ AW := aw_i 79 (by decide +kernel) rfl
theorem vw_X12_282 : VW RX12 282 yX12_isBarred cX12_isBarred 7 (some .boolean) 3 := ⟨⟨aw_i 1874 (by decide +kernel) rfl, aw_i 96 (by decide +kernel) rfl, by decide +kernel, by decide +kernel, by decide +kernel⟩, Or.inl (aw_i 1871 (by decide +kernel) rfl)⟩
theorem iw_X12_isBarred : Cond.instanceMethod yX12_isBarred ∈ AW := aw_i 1873 (by decide +kernel) rfl
theorem sw_X12_isBarred : Cond.selects yX12_isBarred.cls yX12_isBarred yX12_isBarred ∈ AW := aw_i 82 (by decide +kernel) rfl
theorem vw_X12_285 : VW RX12 285 yX12_begins cX12_begins 4 (some .boolean) 2 := ⟨⟨aw_i 1853 (by decide +kernel) rfl, aw_i 96 (by decide +kernel) rfl, by decide +kernel, by decide +kernel, by decide +kernel⟩, Or.inl (aw_i 1851 (by decide +kernel) rfl)⟩
theorem tw_X12_begins : Cond.static yX12_begins ∈ AW := aw_i 1852 (by decide +kernel) rfl
theorem vw_X12_288 : VW RX12 288 yX12_isAmong cX12_isAmong 5 (some .boolean) 4 := ⟨⟨aw_i 1886 (by decide +kernel) rfl, aw_i 96 (by decide +kernel) rfl, by decide +kernel, by decide +kernel, by decide +kernel⟩, Or.inl (aw_i 1883 (by decide +kernel) rfl)⟩
theorem iw_X12_isAmong : Cond.instanceMethod yX12_isAmong ∈ AW := aw_i 1885 (by decide +kernel) rfl
theorem sw_X12_isAmong : Cond.selects yX12_isAmong.cls yX12_isAmong yX12_isAmong ∈ AW := aw_i 85 (by decide +kernel) rfl
theorem vw_X12_292 : VW RX12 292 yX12_drops cX12_drops 3 none 1 := ⟨⟨aw_i 1878 (by decide +kernel) rfl, aw_i 96 (by decide +kernel) rfl, by decide +kernel, by decide +kernel, by decide +kernel⟩, Or.inl (aw_i 1875 (by decide +kernel) rfl)⟩
theorem iw_X12_drops : Cond.instanceMethod yX12_drops ∈ AW := aw_i 1877 (by decide +kernel) rfl
theorem sw_X12_drops : Cond.selects yX12_drops.cls yX12_drops yX12_drops ∈ AW := aw_i 83 (by decide +kernel) rfl
theorem vw_X12_295 : VW RX12 295 yX12_refuses cX12_refuses 8 (some .boolean) 2 := ⟨⟨aw_i 1870 (by decide +kernel) rfl, aw_i 96 (by decide +kernel) rfl, by decide +kernel, by decide +kernel, by decide +kernel⟩, Or.inl (aw_i 1867 (by decide +kernel) rfl)⟩
theorem iw_X12_refuses : Cond.instanceMethod yX12_refuses ∈ AW := aw_i 1869 (by decide +kernel) rfl
theorem sw_X12_refuses : Cond.selects yX12_refuses.cls yX12_refuses yX12_refuses ∈ AW := aw_i 81 (by decide +kernel) rfl
theorem vw_X12_298 : VW RX12 298 yX12_among cX12_among 6 (some .int) 3 := ⟨⟨aw_i 1882 (by decide +kernel) rfl, aw_i 96 (by decide +kernel) rfl, by decide +kernel, by decide +kernel, by decide +kernel⟩, Or.inl (aw_i 1879 (by decide +kernel) rfl)⟩
theorem iw_X12_among : Cond.instanceMethod yX12_among ∈ AW := aw_i 1881 (by decide +kernel) rfl
theorem sw_X12_among : Cond.selects yX12_among.cls yX12_among yX12_among ∈ AW := aw_i 84 (by decide +kernel) rfl
theorem vw_X12_302 : VW RX12 302 yX12_evicts cX12_evicts 7 none 3 := ⟨⟨aw_i 1890 (by decide +kernel) rfl, aw_i 96 (by decide +kernel) rfl, by decide +kernel, by decide +kernel, by decide +kernel⟩, Or.inl (aw_i 1887 (by decide +kernel) rfl)⟩
theorem iw_X12_evicts : Cond.instanceMethod yX12_evicts ∈ AW := aw_i 1889 (by decide +kernel) rfl
theorem sw_X12_evicts : Cond.selects yX12_evicts.cls yX12_evicts yX12_evicts ∈ AW := aw_i 86 (by decide +kernel) rfl
theorem fr_X12_306 : FR RX12 306 15 66 := ⟨RX12, TX12, 72, rfl, cw_15, by decide, rfl, Or.inl (aw_i 1509 (by decide +kernel) rfl)⟩
theorem vw_X12_309 : VW RX12 309 yX12_goes cX12_goes 8 (some .boolean) 3 := ⟨⟨aw_i 1846 (by decide +kernel) rfl, aw_i 96 (by decide +kernel) rfl, by decide +kernel, by decide +kernel, by decide +kernel⟩, Or.inl (aw_i 1843 (by decide +kernel) rfl)⟩
theorem iw_X12_goes : Cond.instanceMethod yX12_goes ∈ AW := aw_i 1845 (by decide +kernel) rfl
theorem sw_X12_goes : Cond.selects yX12_goes.cls yX12_goes yX12_goes ∈ AW := aw_i 78 (by decide +kernel) rfl
theorem fr_X12_89 : FR RX12 89 15 33 := ⟨RX12, TX12, 72, rfl, cw_15, by decide, rfl, Or.inl (aw_i 1476 (by decide +kernel) rfl)⟩
theorem fr_X12_86 : FR RX12 86 15 32 := ⟨RX12, TX12, 72, rfl, cw_15, by decide, rfl, Or.inl (aw_i 1475 (by decide +kernel) rfl)⟩
theorem fr_X12_312 : FR RX12 312 15 61 := ⟨RX12, TX12, 72, rfl, cw_15, by decide, rfl, Or.inl (aw_i 1504 (by decide +kernel) rfl)⟩
theorem vw_X12_315 : VW RX12 315 yX12_isSame cX12_isSame 3 (some .boolean) 2 := ⟨⟨aw_i 1803 (by decide +kernel) rfl, aw_i 96 (by decide +kernel) rfl, by decide +kernel, by decide +kernel, by decide +kernel⟩, Or.inl (aw_i 1800 (by decide +kernel) rfl)⟩
theorem iw_X12_isSame : Cond.instanceMethod yX12_isSame ∈ AW := aw_i 1802 (by decide +kernel) rfl
theorem sw_X12_isSame : Cond.selects yX12_isSame.cls yX12_isSame yX12_isSame ∈ AW := aw_i 68 (by decide +kernel) rfl
theorem fr_X12_318 : FR RX12 318 15 63 := ⟨RX12, TX12, 72, rfl, cw_15, by decide, rfl, Or.inl (aw_i 1506 (by decide +kernel) rfl)⟩
theorem fr_X12_321 : FR RX12 321 15 67 := ⟨RX12, TX12, 72, rfl, cw_15, by decide, rfl, Or.inl (aw_i 1510 (by decide +kernel) rfl)⟩
theorem vw_X12_324 : VW RX12 324 yX12_originOf cX12_originOf 2 (some .int) 1 := ⟨⟨aw_i 1823 (by decide +kernel) rfl, aw_i 96 (by decide +kernel) rfl, by decide +kernel, by decide +kernel, by decide +kernel⟩, Or.inl (aw_i 1820 (by decide +kernel) rfl)⟩
theorem iw_X12_originOf : Cond.instanceMethod yX12_originOf ∈ AW := aw_i 1822 (by decide +kernel) rfl
theorem sw_X12_originOf : Cond.selects yX12_originOf.cls yX12_originOf yX12_originOf ∈ AW := aw_i 73 (by decide +kernel) rfl
theorem fr_X12_327 : FR RX12 327 15 65 := ⟨RX12, TX12, 72, rfl, cw_15, by decide, rfl, Or.inl (aw_i 1508 (by decide +kernel) rfl)⟩
theorem fr_X12_330 : FR RX12 330 15 54 := ⟨RX12, TX12, 72, rfl, cw_15, by decide, rfl, Or.inl (aw_i 1497 (by decide +kernel) rfl)⟩
theorem fr_X12_140 : FR RX12 140 15 55 := ⟨RX12, TX12, 72, rfl, cw_15, by decide, rfl, Or.inl (aw_i 1498 (by decide +kernel) rfl)⟩
theorem fr_X12_143 : FR RX12 143 15 56 := ⟨RX12, TX12, 72, rfl, cw_15, by decide, rfl, Or.inl (aw_i 1499 (by decide +kernel) rfl)⟩
theorem fr_X12_146 : FR RX12 146 15 57 := ⟨RX12, TX12, 72, rfl, cw_15, by decide, rfl, Or.inl (aw_i 1500 (by decide +kernel) rfl)⟩
theorem fr_X12_149 : FR RX12 149 15 58 := ⟨RX12, TX12, 72, rfl, cw_15, by decide, rfl, Or.inl (aw_i 1501 (by decide +kernel) rfl)⟩
theorem fr_X12_155 : FR RX12 155 15 60 := ⟨RX12, TX12, 72, rfl, cw_15, by decide, rfl, Or.inl (aw_i 1503 (by decide +kernel) rfl)⟩
theorem fr_X12_152 : FR RX12 152 15 59 := ⟨RX12, TX12, 72, rfl, cw_15, by decide, rfl, Or.inl (aw_i 1502 (by decide +kernel) rfl)⟩
theorem fr_X12_333 : FR RX12 333 15 53 := ⟨RX12, TX12, 72, rfl, cw_15, by decide, rfl, Or.inl (aw_i 1496 (by decide +kernel) rfl)⟩
theorem fw_X12_333 : FW RX12 333 15 53 0 false := ⟨RX12, TX12, 72, tyX12, rfl, cw_15, by decide, rfl, tyX12_ok, nmX12, rfl, rfl, (fun h => by cases h), Or.inl (aw_i 1496 (by decide +kernel) rfl)⟩
theorem vw_X12_336 : VW RX12 336 yX12_connects cX12_connects 8 none 3 := ⟨⟨aw_i 1827 (by decide +kernel) rfl, aw_i 96 (by decide +kernel) rfl, by decide +kernel, by decide +kernel, by decide +kernel⟩, Or.inl (aw_i 1824 (by decide +kernel) rfl)⟩
theorem iw_X12_connects : Cond.instanceMethod yX12_connects ∈ AW := aw_i 1826 (by decide +kernel) rfl
theorem sw_X12_connects : Cond.selects yX12_connects.cls yX12_connects yX12_connects ∈ AW := aw_i 74 (by decide +kernel) rfl
theorem vw_X12_340 : VW RX12 340 yX12_letsIt cX12_letsIt 4 (some .boolean) 1 := ⟨⟨aw_i 1835 (by decide +kernel) rfl, aw_i 96 (by decide +kernel) rfl, by decide +kernel, by decide +kernel, by decide +kernel⟩, Or.inl (aw_i 1832 (by decide +kernel) rfl)⟩
theorem iw_X12_letsIt : Cond.instanceMethod yX12_letsIt ∈ AW := aw_i 1834 (by decide +kernel) rfl
theorem sw_X12_letsIt : Cond.selects yX12_letsIt.cls yX12_letsIt yX12_letsIt ∈ AW := aw_i 76 (by decide +kernel) rfl
theorem fw_X12_330 : FW RX12 330 15 54 0 false := ⟨RX12, TX12, 72, tyX12, rfl, cw_15, by decide, rfl, tyX12_ok, nmX12, rfl, rfl, (fun h => by cases h), Or.inl (aw_i 1497 (by decide +kernel) rfl)⟩
theorem fr_X12_83 : FR RX12 83 15 31 := ⟨RX12, TX12, 72, rfl, cw_15, by decide, rfl, Or.inl (aw_i 1474 (by decide +kernel) rfl)⟩
theorem vw_X12_343 : VW RX12 343 yX12_referrer cX12_referrer 4 (some .int) 1 := ⟨⟨aw_i 1799 (by decide +kernel) rfl, aw_i 96 (by decide +kernel) rfl, by decide +kernel, by decide +kernel, by decide +kernel⟩, Or.inl (aw_i 1796 (by decide +kernel) rfl)⟩
theorem iw_X12_referrer : Cond.instanceMethod yX12_referrer ∈ AW := aw_i 1798 (by decide +kernel) rfl
theorem sw_X12_referrer : Cond.selects yX12_referrer.cls yX12_referrer yX12_referrer ∈ AW := aw_i 67 (by decide +kernel) rfl
theorem fr_X12_80 : FR RX12 80 15 30 := ⟨RX12, TX12, 72, rfl, cw_15, by decide, rfl, Or.inl (aw_i 1473 (by decide +kernel) rfl)⟩
theorem fr_X12_346 : FR RX12 346 15 28 := ⟨RX12, TX12, 72, rfl, cw_15, by decide, rfl, Or.inl (aw_i 1471 (by decide +kernel) rfl)⟩
theorem vw_X12_349 : VW RX12 349 yX12_top cX12_top 3 (some .int) 1 := ⟨⟨aw_i 1815 (by decide +kernel) rfl, aw_i 96 (by decide +kernel) rfl, by decide +kernel, by decide +kernel, by decide +kernel⟩, Or.inl (aw_i 1812 (by decide +kernel) rfl)⟩
theorem iw_X12_top : Cond.instanceMethod yX12_top ∈ AW := aw_i 1814 (by decide +kernel) rfl
theorem sw_X12_top : Cond.selects yX12_top.cls yX12_top yX12_top ∈ AW := aw_i 71 (by decide +kernel) rfl
theorem fw_X12_273 : FW RX12 273 15 68 1 false := ⟨RX12, TX12, 72, tyX12, rfl, cw_15, by decide, rfl, tyX12_ok, nmX12, rfl, rfl, (fun h => by cases h), Or.inl (aw_i 1511 (by decide +kernel) rfl)⟩
theorem fr_X12_352 : FR RX12 352 15 69 := ⟨RX12, TX12, 72, rfl, cw_15, by decide, rfl, Or.inl (aw_i 1512 (by decide +kernel) rfl)⟩
theorem fw_X12_352 : FW RX12 352 15 69 1 false := ⟨RX12, TX12, 72, tyX12, rfl, cw_15, by decide, rfl, tyX12_ok, nmX12, rfl, rfl, (fun h => by cases h), Or.inl (aw_i 1512 (by decide +kernel) rfl)⟩
theorem vw_X12_355 : VW RX12 355 yX12_preflight cX12_preflight 7 (some .boolean) 2 := ⟨⟨aw_i 1819 (by decide +kernel) rfl, aw_i 96 (by decide +kernel) rfl, by decide +kernel, by decide +kernel, by decide +kernel⟩, Or.inl (aw_i 1816 (by decide +kernel) rfl)⟩
theorem iw_X12_preflight : Cond.instanceMethod yX12_preflight ∈ AW := aw_i 1818 (by decide +kernel) rfl
theorem sw_X12_preflight : Cond.selects yX12_preflight.cls yX12_preflight yX12_preflight ∈ AW := aw_i 72 (by decide +kernel) rfl
theorem fr_X12_358 : FR RX12 358 15 64 := ⟨RX12, TX12, 72, rfl, cw_15, by decide, rfl, Or.inl (aw_i 1507 (by decide +kernel) rfl)⟩
theorem vw_X12_361 : VW RX12 361 yX12_sends cX12_sends 6 none 3 := ⟨⟨aw_i 1839 (by decide +kernel) rfl, aw_i 96 (by decide +kernel) rfl, by decide +kernel, by decide +kernel, by decide +kernel⟩, Or.inl (aw_i 1836 (by decide +kernel) rfl)⟩
theorem iw_X12_sends : Cond.instanceMethod yX12_sends ∈ AW := aw_i 1838 (by decide +kernel) rfl
theorem sw_X12_sends : Cond.selects yX12_sends.cls yX12_sends yX12_sends ∈ AW := aw_i 77 (by decide +kernel) rfl
theorem vw_X12_365 : VW RX12 365 yX12_sets cX12_sets 8 none 2 := ⟨⟨aw_i 1866 (by decide +kernel) rfl, aw_i 96 (by decide +kernel) rfl, by decide +kernel, by decide +kernel, by decide +kernel⟩, Or.inl (aw_i 1863 (by decide +kernel) rfl)⟩
theorem iw_X12_sets : Cond.instanceMethod yX12_sets ∈ AW := aw_i 1865 (by decide +kernel) rfl
theorem sw_X12_sets : Cond.selects yX12_sets.cls yX12_sets yX12_sets ∈ AW := aw_i 80 (by decide +kernel) rfl
theorem vw_X12_369 : VW RX12 369 yX12_mixes cX12_mixes 2 (some .int) 1 := ⟨⟨aw_i 1791 (by decide +kernel) rfl, aw_i 96 (by decide +kernel) rfl, by decide +kernel, by decide +kernel, by decide +kernel⟩, Or.inl (aw_i 1788 (by decide +kernel) rfl)⟩
theorem iw_X12_mixes : Cond.instanceMethod yX12_mixes ∈ AW := aw_i 1790 (by decide +kernel) rfl
theorem sw_X12_mixes : Cond.selects yX12_mixes.cls yX12_mixes yX12_mixes ∈ AW := aw_i 65 (by decide +kernel) rfl
theorem vw_X12_372 : VW RX12 372 yX12_records cX12_records 3 none 2 := ⟨⟨aw_i 1795 (by decide +kernel) rfl, aw_i 96 (by decide +kernel) rfl, by decide +kernel, by decide +kernel, by decide +kernel⟩, Or.inl (aw_i 1792 (by decide +kernel) rfl)⟩
theorem iw_X12_records : Cond.instanceMethod yX12_records ∈ AW := aw_i 1794 (by decide +kernel) rfl
theorem sw_X12_records : Cond.selects yX12_records.cls yX12_records yX12_records ∈ AW := aw_i 66 (by decide +kernel) rfl
theorem vw_X12_375 : VW RX12 375 yX12_does cX12_does 7 (some .int) 2 := ⟨⟨aw_i 1811 (by decide +kernel) rfl, aw_i 96 (by decide +kernel) rfl, by decide +kernel, by decide +kernel, by decide +kernel⟩, Or.inl (aw_i 1808 (by decide +kernel) rfl)⟩
theorem iw_X12_does : Cond.instanceMethod yX12_does ∈ AW := aw_i 1810 (by decide +kernel) rfl
theorem sw_X12_does : Cond.selects yX12_does.cls yX12_does yX12_does ∈ AW := aw_i 70 (by decide +kernel) rfl
theorem fw_X12_306 : FW RX12 306 15 66 0 false := ⟨RX12, TX12, 72, tyX12, rfl, cw_15, by decide, rfl, tyX12_ok, nmX12, rfl, rfl, (fun h => by cases h), Or.inl (aw_i 1509 (by decide +kernel) rfl)⟩
theorem fw_X12_321 : FW RX12 321 15 67 1 false := ⟨RX12, TX12, 72, tyX12, rfl, cw_15, by decide, rfl, tyX12_ok, nmX12, rfl, rfl, (fun h => by cases h), Or.inl (aw_i 1510 (by decide +kernel) rfl)⟩
theorem fw_X12_312 : FW RX12 312 15 61 0 false := ⟨RX12, TX12, 72, tyX12, rfl, cw_15, by decide, rfl, tyX12_ok, nmX12, rfl, rfl, (fun h => by cases h), Or.inl (aw_i 1504 (by decide +kernel) rfl)⟩
theorem fw_X12_276 : FW RX12 276 15 62 0 false := ⟨RX12, TX12, 72, tyX12, rfl, cw_15, by decide, rfl, tyX12_ok, nmX12, rfl, rfl, (fun h => by cases h), Or.inl (aw_i 1505 (by decide +kernel) rfl)⟩
theorem fw_X12_318 : FW RX12 318 15 63 1 false := ⟨RX12, TX12, 72, tyX12, rfl, cw_15, by decide, rfl, tyX12_ok, nmX12, rfl, rfl, (fun h => by cases h), Or.inl (aw_i 1506 (by decide +kernel) rfl)⟩
theorem fw_X12_358 : FW RX12 358 15 64 1 false := ⟨RX12, TX12, 72, tyX12, rfl, cw_15, by decide, rfl, tyX12_ok, nmX12, rfl, rfl, (fun h => by cases h), Or.inl (aw_i 1507 (by decide +kernel) rfl)⟩
theorem fw_X12_327 : FW RX12 327 15 65 1 false := ⟨RX12, TX12, 72, tyX12, rfl, cw_15, by decide, rfl, tyX12_ok, nmX12, rfl, rfl, (fun h => by cases h), Or.inl (aw_i 1508 (by decide +kernel) rfl)⟩
theorem vw_X12_378 : VW RX12 378 yX12_isForeign cX12_isForeign 4 (some .boolean) 1 := ⟨⟨aw_i 1779 (by decide +kernel) rfl, aw_i 96 (by decide +kernel) rfl, by decide +kernel, by decide +kernel, by decide +kernel⟩, Or.inl (aw_i 1776 (by decide +kernel) rfl)⟩
theorem iw_X12_isForeign : Cond.instanceMethod yX12_isForeign ∈ AW := aw_i 1778 (by decide +kernel) rfl
theorem sw_X12_isForeign : Cond.selects yX12_isForeign.cls yX12_isForeign yX12_isForeign ∈ AW := aw_i 62 (by decide +kernel) rfl
theorem fr_X12_77 : FR RX12 77 15 29 := ⟨RX12, TX12, 72, rfl, cw_15, by decide, rfl, Or.inl (aw_i 1472 (by decide +kernel) rfl)⟩
theorem vw_X12_381 : VW RX12 381 yX12_goesOn cX12_goesOn 9 (some .int) 1 := ⟨⟨aw_i 1787 (by decide +kernel) rfl, aw_i 96 (by decide +kernel) rfl, by decide +kernel, by decide +kernel, by decide +kernel⟩, Or.inl (aw_i 1784 (by decide +kernel) rfl)⟩
theorem iw_X12_goesOn : Cond.instanceMethod yX12_goesOn ∈ AW := aw_i 1786 (by decide +kernel) rfl
theorem sw_X12_goesOn : Cond.selects yX12_goesOn.cls yX12_goesOn yX12_goesOn ∈ AW := aw_i 64 (by decide +kernel) rfl
theorem fw_X12_346 : FW RX12 346 15 28 0 false := ⟨RX12, TX12, 72, tyX12, rfl, cw_15, by decide, rfl, tyX12_ok, nmX12, rfl, rfl, (fun h => by cases h), Or.inl (aw_i 1471 (by decide +kernel) rfl)⟩
theorem fw_X12_244 : FW RX12 244 15 0 0 false := ⟨RX12, TX12, 72, tyX12, rfl, cw_15, by decide, rfl, tyX12_ok, nmX12, rfl, rfl, (fun h => by cases h), Or.inl (aw_i 1443 (by decide +kernel) rfl)⟩
theorem vw_X12_384 : VW RX12 384 yX12_isRequest cX12_isRequest 2 (some .boolean) 1 := ⟨⟨aw_i 1902 (by decide +kernel) rfl, aw_i 96 (by decide +kernel) rfl, by decide +kernel, by decide +kernel, by decide +kernel⟩, Or.inl (aw_i 1899 (by decide +kernel) rfl)⟩
theorem iw_X12_isRequest : Cond.instanceMethod yX12_isRequest ∈ AW := aw_i 1901 (by decide +kernel) rfl
theorem sw_X12_isRequest : Cond.selects yX12_isRequest.cls yX12_isRequest yX12_isRequest ∈ AW := aw_i 87 (by decide +kernel) rfl
theorem vw_X12_387 : VW RX12 387 yX12_isHop cX12_isHop 3 (some .boolean) 2 := ⟨⟨aw_i 1910 (by decide +kernel) rfl, aw_i 96 (by decide +kernel) rfl, by decide +kernel, by decide +kernel, by decide +kernel⟩, Or.inl (aw_i 1907 (by decide +kernel) rfl)⟩
theorem iw_X12_isHop : Cond.instanceMethod yX12_isHop ∈ AW := aw_i 1909 (by decide +kernel) rfl
theorem sw_X12_isHop : Cond.selects yX12_isHop.cls yX12_isHop yX12_isHop ∈ AW := aw_i 88 (by decide +kernel) rfl
