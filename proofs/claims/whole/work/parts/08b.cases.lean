theorem kc_L_126 : uwv RL 126 RX7 yX7_feed cX7_feed 6 (some .int) 5 := ⟨⟨uw_t 286 (by decide +kernel) rfl, uw_t 287 (by decide +kernel) rfl, uw_t 288 (by decide +kernel) rfl, uw_t 1 (by decide +kernel) rfl, uw_t 289 (by decide +kernel) rfl⟩, rfl, by decide +kernel, by decide +kernel, by decide +kernel⟩
theorem kc_L_130 : uwv RL 130 RX8 yX8_feed cX8_feed 8 (some .int) 5 := ⟨⟨uw_t 1345 (by decide +kernel) rfl, uw_t 1346 (by decide +kernel) rfl, uw_t 1347 (by decide +kernel) rfl, uw_t 11 (by decide +kernel) rfl, uw_t 1348 (by decide +kernel) rfl⟩, rfl, by decide +kernel, by decide +kernel, by decide +kernel⟩
theorem kc_L_136 : uwv RL 136 RX8 yX8_corner cX8_corner 4 (some .int) 1 := ⟨⟨uw_t 1353 (by decide +kernel) rfl, uw_t 1354 (by decide +kernel) rfl, uw_t 1355 (by decide +kernel) rfl, uw_t 11 (by decide +kernel) rfl, uw_t 1356 (by decide +kernel) rfl⟩, rfl, by decide +kernel, by decide +kernel, by decide +kernel⟩
theorem kc_L_137 : uwv RL 137 RX8 yX8_thrown cX8_thrown 1 (some .int) 0 := ⟨⟨uw_t 1174 (by decide +kernel) rfl, uw_t 1175 (by decide +kernel) rfl, uw_t 1176 (by decide +kernel) rfl, uw_t 11 (by decide +kernel) rfl, uw_t 1177 (by decide +kernel) rfl⟩, rfl, by decide +kernel, by decide +kernel, by decide +kernel⟩
theorem kc_L_143 : uwv RL 143 RX8 yX8_law cX8_law 3 (some .int) 1 := ⟨⟨uw_t 1426 (by decide +kernel) rfl, uw_t 1427 (by decide +kernel) rfl, uw_t 1428 (by decide +kernel) rfl, uw_t 11 (by decide +kernel) rfl, uw_t 1429 (by decide +kernel) rfl⟩, rfl, by decide +kernel, by decide +kernel, by decide +kernel⟩
theorem kc_L_146 : uwv RL 146 RX8 yX8_work cX8_work 4 (some .int) 1 := ⟨⟨uw_t 1466 (by decide +kernel) rfl, uw_t 1467 (by decide +kernel) rfl, uw_t 1468 (by decide +kernel) rfl, uw_t 11 (by decide +kernel) rfl, uw_t 1469 (by decide +kernel) rfl⟩, rfl, by decide +kernel, by decide +kernel, by decide +kernel⟩
theorem kc_L_149 : uwv RL 149 RX8 yX8_book cX8_book 6 (some .int) 1 := ⟨⟨uw_t 1592 (by decide +kernel) rfl, uw_t 1593 (by decide +kernel) rfl, uw_t 1594 (by decide +kernel) rfl, uw_t 11 (by decide +kernel) rfl, uw_t 1595 (by decide +kernel) rfl⟩, rfl, by decide +kernel, by decide +kernel, by decide +kernel⟩
theorem kc_L_150 : uwv RL 150 RX7 yX7_fault cX7_fault 1 (some .int) 0 := ⟨⟨uw_t 294 (by decide +kernel) rfl, uw_t 295 (by decide +kernel) rfl, uw_t 296 (by decide +kernel) rfl, uw_t 1 (by decide +kernel) rfl, uw_t 297 (by decide +kernel) rfl⟩, rfl, by decide +kernel, by decide +kernel, by decide +kernel⟩
theorem kc_L_153 : uwv RL 153 RX8 yX8_fault cX8_fault 1 (some .int) 0 := ⟨⟨uw_t 1349 (by decide +kernel) rfl, uw_t 1350 (by decide +kernel) rfl, uw_t 1351 (by decide +kernel) rfl, uw_t 11 (by decide +kernel) rfl, uw_t 1352 (by decide +kernel) rfl⟩, rfl, by decide +kernel, by decide +kernel, by decide +kernel⟩
theorem kc_L_154 : uwv RL 154 RX7 yX7_undo cX7_undo 1 (some .int) 0 := ⟨⟨uw_t 298 (by decide +kernel) rfl, uw_t 299 (by decide +kernel) rfl, uw_t 300 (by decide +kernel) rfl, uw_t 1 (by decide +kernel) rfl, uw_t 301 (by decide +kernel) rfl⟩, rfl, by decide +kernel, by decide +kernel, by decide +kernel⟩
theorem kc_L_157 : uwv RL 157 RX8 yX8_undo cX8_undo 2 (some .int) 0 := ⟨⟨uw_t 1596 (by decide +kernel) rfl, uw_t 1597 (by decide +kernel) rfl, uw_t 1598 (by decide +kernel) rfl, uw_t 11 (by decide +kernel) rfl, uw_t 1599 (by decide +kernel) rfl⟩, rfl, by decide +kernel, by decide +kernel, by decide +kernel⟩
theorem kc_L_160 : uwv RL 160 RX8 yX8_told cX8_told 2 (some .int) 1 := ⟨⟨uw_t 1600 (by decide +kernel) rfl, uw_t 1601 (by decide +kernel) rfl, uw_t 1602 (by decide +kernel) rfl, uw_t 11 (by decide +kernel) rfl, uw_t 1603 (by decide +kernel) rfl⟩, rfl, by decide +kernel, by decide +kernel, by decide +kernel⟩
theorem kc_L_164 : uwv RL 164 RX8 yX8_view cX8_view 5 (some .int) 2 := ⟨⟨uw_t 1616 (by decide +kernel) rfl, uw_t 1617 (by decide +kernel) rfl, uw_t 1618 (by decide +kernel) rfl, uw_t 11 (by decide +kernel) rfl, uw_t 1619 (by decide +kernel) rfl⟩, rfl, by decide +kernel, by decide +kernel, by decide +kernel⟩
theorem kc_L_167 : uwv RL 167 RX8 yX8_tenant cX8_tenant 3 (some .int) 2 := ⟨⟨uw_t 1624 (by decide +kernel) rfl, uw_t 1625 (by decide +kernel) rfl, uw_t 1626 (by decide +kernel) rfl, uw_t 11 (by decide +kernel) rfl, uw_t 1627 (by decide +kernel) rfl⟩, rfl, by decide +kernel, by decide +kernel, by decide +kernel⟩
theorem kc_L_170 : uwv RL 170 RX8 yX8_bubble cX8_bubble 3 (some .int) 2 := ⟨⟨uw_t 1632 (by decide +kernel) rfl, uw_t 1633 (by decide +kernel) rfl, uw_t 1634 (by decide +kernel) rfl, uw_t 11 (by decide +kernel) rfl, uw_t 1635 (by decide +kernel) rfl⟩, rfl, by decide +kernel, by decide +kernel, by decide +kernel⟩
theorem kc_L_174 : uwv RL 174 RX8 yX8_would cX8_would 9 (some .int) 8 := ⟨⟨uw_t 1640 (by decide +kernel) rfl, uw_t 1641 (by decide +kernel) rfl, uw_t 1642 (by decide +kernel) rfl, uw_t 11 (by decide +kernel) rfl, uw_t 1643 (by decide +kernel) rfl⟩, rfl, by decide +kernel, by decide +kernel, by decide +kernel⟩
theorem kc_L_177 : uwv RL 177 RX8 yX8_ahead cX8_ahead 4 (some .int) 2 := ⟨⟨uw_t 1644 (by decide +kernel) rfl, uw_t 1645 (by decide +kernel) rfl, uw_t 1646 (by decide +kernel) rfl, uw_t 11 (by decide +kernel) rfl, uw_t 1647 (by decide +kernel) rfl⟩, rfl, by decide +kernel, by decide +kernel, by decide +kernel⟩
theorem kc_L_181 : uwv RL 181 RX8 yX8_wall cX8_wall 6 (some .int) 3 := ⟨⟨uw_t 1652 (by decide +kernel) rfl, uw_t 1653 (by decide +kernel) rfl, uw_t 1654 (by decide +kernel) rfl, uw_t 11 (by decide +kernel) rfl, uw_t 1655 (by decide +kernel) rfl⟩, rfl, by decide +kernel, by decide +kernel, by decide +kernel⟩
theorem kc_L_184 : uwv RL 184 RX8 yX8_lasts cX8_lasts 3 (some .int) 1 := ⟨⟨uw_t 1648 (by decide +kernel) rfl, uw_t 1649 (by decide +kernel) rfl, uw_t 1650 (by decide +kernel) rfl, uw_t 11 (by decide +kernel) rfl, uw_t 1651 (by decide +kernel) rfl⟩, rfl, by decide +kernel, by decide +kernel, by decide +kernel⟩
theorem kc_L_187 : uwv RL 187 RX8 yX8_pitch cX8_pitch 5 (some .int) 2 := ⟨⟨uw_t 1659 (by decide +kernel) rfl, uw_t 1660 (by decide +kernel) rfl, uw_t 1661 (by decide +kernel) rfl, uw_t 11 (by decide +kernel) rfl, uw_t 1662 (by decide +kernel) rfl⟩, rfl, by decide +kernel, by decide +kernel, by decide +kernel⟩
theorem kc_L_190 : uwv RL 190 RX8 yX8_street cX8_street 7 (some .int) 2 := ⟨⟨uw_t 1667 (by decide +kernel) rfl, uw_t 1668 (by decide +kernel) rfl, uw_t 1669 (by decide +kernel) rfl, uw_t 11 (by decide +kernel) rfl, uw_t 1670 (by decide +kernel) rfl⟩, rfl, by decide +kernel, by decide +kernel, by decide +kernel⟩
theorem kc_L_193 : uwv RL 193 RX8 yX8_fits cX8_fits 5 (some .int) 1 := ⟨⟨uw_t 1671 (by decide +kernel) rfl, uw_t 1672 (by decide +kernel) rfl, uw_t 1673 (by decide +kernel) rfl, uw_t 11 (by decide +kernel) rfl, uw_t 1674 (by decide +kernel) rfl⟩, rfl, by decide +kernel, by decide +kernel, by decide +kernel⟩
theorem kc_L_196 : uwv RL 196 RX8 yX8_look cX8_look 6 (some .int) 1 := ⟨⟨uw_t 1683 (by decide +kernel) rfl, uw_t 1684 (by decide +kernel) rfl, uw_t 1685 (by decide +kernel) rfl, uw_t 11 (by decide +kernel) rfl, uw_t 1686 (by decide +kernel) rfl⟩, rfl, by decide +kernel, by decide +kernel, by decide +kernel⟩
theorem kc_L_199 : uwv RL 199 RX8 yX8_stands cX8_stands 4 (some .long) 3 := ⟨⟨uw_t 1691 (by decide +kernel) rfl, uw_t 1692 (by decide +kernel) rfl, uw_t 1693 (by decide +kernel) rfl, uw_t 11 (by decide +kernel) rfl, uw_t 1694 (by decide +kernel) rfl⟩, rfl, by decide +kernel, by decide +kernel, by decide +kernel⟩
theorem kc_L_202 : uwv RL 202 RX8 yX8_mean cX8_mean 7 (some .long) 3 := ⟨⟨uw_t 1699 (by decide +kernel) rfl, uw_t 1700 (by decide +kernel) rfl, uw_t 1701 (by decide +kernel) rfl, uw_t 11 (by decide +kernel) rfl, uw_t 1702 (by decide +kernel) rfl⟩, rfl, by decide +kernel, by decide +kernel, by decide +kernel⟩
theorem kc_L_205 : uwv RL 205 RX8 yX8_sure cX8_sure 3 (some .int) 1 := ⟨⟨uw_t 1703 (by decide +kernel) rfl, uw_t 1704 (by decide +kernel) rfl, uw_t 1705 (by decide +kernel) rfl, uw_t 11 (by decide +kernel) rfl, uw_t 1706 (by decide +kernel) rfl⟩, rfl, by decide +kernel, by decide +kernel, by decide +kernel⟩
theorem kc_L_208 : uwv RL 208 RX8 yX8_pay cX8_pay 9 (some .int) 3 := ⟨⟨uw_t 1707 (by decide +kernel) rfl, uw_t 1708 (by decide +kernel) rfl, uw_t 1709 (by decide +kernel) rfl, uw_t 11 (by decide +kernel) rfl, uw_t 1710 (by decide +kernel) rfl⟩, rfl, by decide +kernel, by decide +kernel, by decide +kernel⟩
theorem kc_L_211 : uwv RL 211 RX8 yX8_sun cX8_sun 5 (some .int) 3 := ⟨⟨uw_t 1714 (by decide +kernel) rfl, uw_t 1715 (by decide +kernel) rfl, uw_t 1716 (by decide +kernel) rfl, uw_t 11 (by decide +kernel) rfl, uw_t 1717 (by decide +kernel) rfl⟩, rfl, by decide +kernel, by decide +kernel, by decide +kernel⟩
theorem kc_L_214 : uwv RL 214 RX8 yX8_richest cX8_richest 4 (some .int) 1 := ⟨⟨uw_t 1726 (by decide +kernel) rfl, uw_t 1727 (by decide +kernel) rfl, uw_t 1728 (by decide +kernel) rfl, uw_t 11 (by decide +kernel) rfl, uw_t 1729 (by decide +kernel) rfl⟩, rfl, by decide +kernel, by decide +kernel, by decide +kernel⟩
theorem kc_L_215 : uwv RL 215 RX7 yX7_idle cX7_idle 3 (some .int) 0 := ⟨⟨uw_t 331 (by decide +kernel) rfl, uw_t 332 (by decide +kernel) rfl, uw_t 333 (by decide +kernel) rfl, uw_t 1 (by decide +kernel) rfl, uw_t 334 (by decide +kernel) rfl⟩, rfl, by decide +kernel, by decide +kernel, by decide +kernel⟩
theorem kc_L_218 : uwv RL 218 RX8 yX8_idle cX8_idle 3 (some .int) 0 := ⟨⟨uw_t 1730 (by decide +kernel) rfl, uw_t 1731 (by decide +kernel) rfl, uw_t 1732 (by decide +kernel) rfl, uw_t 11 (by decide +kernel) rfl, uw_t 1733 (by decide +kernel) rfl⟩, rfl, by decide +kernel, by decide +kernel, by decide +kernel⟩
theorem kc_L_219 : uwv RL 219 RX7 yX7_under cX7_under 3 (some .int) 0 := ⟨⟨uw_t 354 (by decide +kernel) rfl, uw_t 355 (by decide +kernel) rfl, uw_t 356 (by decide +kernel) rfl, uw_t 1 (by decide +kernel) rfl, uw_t 357 (by decide +kernel) rfl⟩, rfl, by decide +kernel, by decide +kernel, by decide +kernel⟩
theorem kc_L_222 : uwv RL 222 RX8 yX8_under cX8_under 3 (some .int) 0 := ⟨⟨uw_t 1734 (by decide +kernel) rfl, uw_t 1735 (by decide +kernel) rfl, uw_t 1736 (by decide +kernel) rfl, uw_t 11 (by decide +kernel) rfl, uw_t 1737 (by decide +kernel) rfl⟩, rfl, by decide +kernel, by decide +kernel, by decide +kernel⟩
theorem kc_L_225 : uwv RL 225 RX8 yX8_offer cX8_offer 3 (some .int) 2 := ⟨⟨uw_t 1738 (by decide +kernel) rfl, uw_t 1739 (by decide +kernel) rfl, uw_t 1740 (by decide +kernel) rfl, uw_t 11 (by decide +kernel) rfl, uw_t 1741 (by decide +kernel) rfl⟩, rfl, by decide +kernel, by decide +kernel, by decide +kernel⟩
theorem kc_L_228 : uwv RL 228 RX8 yX8_lost cX8_lost 5 (some .int) 2 := ⟨⟨uw_t 1742 (by decide +kernel) rfl, uw_t 1743 (by decide +kernel) rfl, uw_t 1744 (by decide +kernel) rfl, uw_t 11 (by decide +kernel) rfl, uw_t 1745 (by decide +kernel) rfl⟩, rfl, by decide +kernel, by decide +kernel, by decide +kernel⟩
theorem kc_L_231 : uwv RL 231 RX8 yX8_terrace cX8_terrace 5 (some .int) 1 := ⟨⟨uw_t 1746 (by decide +kernel) rfl, uw_t 1747 (by decide +kernel) rfl, uw_t 1748 (by decide +kernel) rfl, uw_t 11 (by decide +kernel) rfl, uw_t 1749 (by decide +kernel) rfl⟩, rfl, by decide +kernel, by decide +kernel, by decide +kernel⟩
theorem kc_L_234 : uwv RL 234 RX8 yX8_overlap cX8_overlap 3 (some .int) 2 := ⟨⟨uw_t 1750 (by decide +kernel) rfl, uw_t 1751 (by decide +kernel) rfl, uw_t 1752 (by decide +kernel) rfl, uw_t 11 (by decide +kernel) rfl, uw_t 1753 (by decide +kernel) rfl⟩, rfl, by decide +kernel, by decide +kernel, by decide +kernel⟩
theorem kc_L_237 : uwv RL 237 RX8 yX8_vacant cX8_vacant 4 (some .int) 1 := ⟨⟨uw_t 1755 (by decide +kernel) rfl, uw_t 1756 (by decide +kernel) rfl, uw_t 1757 (by decide +kernel) rfl, uw_t 11 (by decide +kernel) rfl, uw_t 1758 (by decide +kernel) rfl⟩, rfl, by decide +kernel, by decide +kernel, by decide +kernel⟩
theorem kc_L_240 : uwv RL 240 RX8 yX8_needs cX8_needs 4 (some .int) 2 := ⟨⟨uw_t 1759 (by decide +kernel) rfl, uw_t 1760 (by decide +kernel) rfl, uw_t 1761 (by decide +kernel) rfl, uw_t 11 (by decide +kernel) rfl, uw_t 1762 (by decide +kernel) rfl⟩, rfl, by decide +kernel, by decide +kernel, by decide +kernel⟩
theorem kc_L_243 : uwv RL 243 RX8 yX8_buyers cX8_buyers 5 (some .int) 2 := ⟨⟨uw_t 1763 (by decide +kernel) rfl, uw_t 1764 (by decide +kernel) rfl, uw_t 1765 (by decide +kernel) rfl, uw_t 11 (by decide +kernel) rfl, uw_t 1766 (by decide +kernel) rfl⟩, rfl, by decide +kernel, by decide +kernel, by decide +kernel⟩
theorem kc_L_246 : uwv RL 246 RX8 yX8_affords cX8_affords 3 (some .int) 1 := ⟨⟨uw_t 1767 (by decide +kernel) rfl, uw_t 1768 (by decide +kernel) rfl, uw_t 1769 (by decide +kernel) rfl, uw_t 11 (by decide +kernel) rfl, uw_t 1770 (by decide +kernel) rfl⟩, rfl, by decide +kernel, by decide +kernel, by decide +kernel⟩
theorem kc_L_249 : uwv RL 249 RX8 yX8_front cX8_front 6 (some .int) 3 := ⟨⟨uw_t 1771 (by decide +kernel) rfl, uw_t 1772 (by decide +kernel) rfl, uw_t 1773 (by decide +kernel) rfl, uw_t 11 (by decide +kernel) rfl, uw_t 1774 (by decide +kernel) rfl⟩, rfl, by decide +kernel, by decide +kernel, by decide +kernel⟩
theorem kc_L_252 : uwv RL 252 RX8 yX8_closest cX8_closest 7 (some .int) 2 := ⟨⟨uw_t 1775 (by decide +kernel) rfl, uw_t 1776 (by decide +kernel) rfl, uw_t 1777 (by decide +kernel) rfl, uw_t 11 (by decide +kernel) rfl, uw_t 1778 (by decide +kernel) rfl⟩, rfl, by decide +kernel, by decide +kernel, by decide +kernel⟩
theorem kc_L_256 : uwv RL 256 RX8 yX8_afternoon cX8_afternoon 5 (some .int) 4 := ⟨⟨uw_t 1779 (by decide +kernel) rfl, uw_t 1780 (by decide +kernel) rfl, uw_t 1781 (by decide +kernel) rfl, uw_t 11 (by decide +kernel) rfl, uw_t 1782 (by decide +kernel) rfl⟩, rfl, by decide +kernel, by decide +kernel, by decide +kernel⟩
theorem kc_L_260 : uwv RL 260 RX8 yX8_span cX8_span 12 (some .int) 6 := ⟨⟨uw_t 1795 (by decide +kernel) rfl, uw_t 1796 (by decide +kernel) rfl, uw_t 1797 (by decide +kernel) rfl, uw_t 11 (by decide +kernel) rfl, uw_t 1798 (by decide +kernel) rfl⟩, rfl, by decide +kernel, by decide +kernel, by decide +kernel⟩
theorem kc_L_261 : uwv RL 261 RX7 yX7_image cX7_image 1 (some .int) 0 := ⟨⟨uw_t 307 (by decide +kernel) rfl, uw_t 308 (by decide +kernel) rfl, uw_t 309 (by decide +kernel) rfl, uw_t 1 (by decide +kernel) rfl, uw_t 310 (by decide +kernel) rfl⟩, rfl, by decide +kernel, by decide +kernel, by decide +kernel⟩
theorem kc_L_264 : uwv RL 264 RX8 yX8_image cX8_image 1 (some .int) 0 := ⟨⟨uw_t 1799 (by decide +kernel) rfl, uw_t 1800 (by decide +kernel) rfl, uw_t 1801 (by decide +kernel) rfl, uw_t 11 (by decide +kernel) rfl, uw_t 1802 (by decide +kernel) rfl⟩, rfl, by decide +kernel, by decide +kernel, by decide +kernel⟩
theorem kc_L_265 : uwv RL 265 RX7 yX7_restore cX7_restore 1 (some .int) 0 := ⟨⟨uw_t 319 (by decide +kernel) rfl, uw_t 320 (by decide +kernel) rfl, uw_t 321 (by decide +kernel) rfl, uw_t 1 (by decide +kernel) rfl, uw_t 322 (by decide +kernel) rfl⟩, rfl, by decide +kernel, by decide +kernel, by decide +kernel⟩
theorem kc_L_268 : uwv RL 268 RX8 yX8_restore cX8_restore 1 (some .int) 0 := ⟨⟨uw_t 1811 (by decide +kernel) rfl, uw_t 1812 (by decide +kernel) rfl, uw_t 1813 (by decide +kernel) rfl, uw_t 11 (by decide +kernel) rfl, uw_t 1814 (by decide +kernel) rfl⟩, rfl, by decide +kernel, by decide +kernel, by decide +kernel⟩
theorem kc_L_269 : uwv RL 269 RX7 yX7_status cX7_status 2 (some .int) 1 := ⟨⟨uw_t 323 (by decide +kernel) rfl, uw_t 324 (by decide +kernel) rfl, uw_t 325 (by decide +kernel) rfl, uw_t 1 (by decide +kernel) rfl, uw_t 326 (by decide +kernel) rfl⟩, rfl, by decide +kernel, by decide +kernel, by decide +kernel⟩
theorem kc_L_272 : uwv RL 272 RX8 yX8_status cX8_status 2 (some .int) 1 := ⟨⟨uw_t 1815 (by decide +kernel) rfl, uw_t 1816 (by decide +kernel) rfl, uw_t 1817 (by decide +kernel) rfl, uw_t 11 (by decide +kernel) rfl, uw_t 1818 (by decide +kernel) rfl⟩, rfl, by decide +kernel, by decide +kernel, by decide +kernel⟩
theorem kc_L_273 : uwv RL 273 RX7 yX7_count cX7_count 2 (some .int) 1 := ⟨⟨uw_t 327 (by decide +kernel) rfl, uw_t 328 (by decide +kernel) rfl, uw_t 329 (by decide +kernel) rfl, uw_t 1 (by decide +kernel) rfl, uw_t 330 (by decide +kernel) rfl⟩, rfl, by decide +kernel, by decide +kernel, by decide +kernel⟩
theorem kc_L_276 : uwv RL 276 RX8 yX8_count cX8_count 2 (some .int) 1 := ⟨⟨uw_t 1819 (by decide +kernel) rfl, uw_t 1820 (by decide +kernel) rfl, uw_t 1821 (by decide +kernel) rfl, uw_t 11 (by decide +kernel) rfl, uw_t 1822 (by decide +kernel) rfl⟩, rfl, by decide +kernel, by decide +kernel, by decide +kernel⟩
theorem kv_L_131 : uwc RL 131 yL_corner cL_corner 4 (some .int) [(0, 9, 12, 13)] 3 := ⟨⟨uw_t 362 (by decide +kernel) rfl, uw_t 363 (by decide +kernel) rfl, uw_t 0 (by decide +kernel) rfl, uw_t 364 (by decide +kernel) rfl⟩, by decide +kernel, by decide +kernel, by decide +kernel⟩
theorem kv_L_141 : uwc RL 141 yL_law cL_law 4 (some .int) [(0, 9, 12, 13)] 3 := ⟨⟨uw_t 567 (by decide +kernel) rfl, uw_t 568 (by decide +kernel) rfl, uw_t 0 (by decide +kernel) rfl, uw_t 569 (by decide +kernel) rfl⟩, by decide +kernel, by decide +kernel, by decide +kernel⟩
theorem kv_L_144 : uwc RL 144 yL_work cL_work 4 (some .int) [(0, 9, 12, 13)] 3 := ⟨⟨uw_t 638 (by decide +kernel) rfl, uw_t 639 (by decide +kernel) rfl, uw_t 0 (by decide +kernel) rfl, uw_t 640 (by decide +kernel) rfl⟩, by decide +kernel, by decide +kernel, by decide +kernel⟩
theorem kv_L_147 : uwc RL 147 yL_book cL_book 4 (some .int) [(0, 9, 12, 13)] 3 := ⟨⟨uw_t 792 (by decide +kernel) rfl, uw_t 793 (by decide +kernel) rfl, uw_t 0 (by decide +kernel) rfl, uw_t 794 (by decide +kernel) rfl⟩, by decide +kernel, by decide +kernel, by decide +kernel⟩
theorem kv_L_158 : uwc RL 158 yL_told cL_told 4 (some .int) [(0, 9, 12, 13)] 3 := ⟨⟨uw_t 812 (by decide +kernel) rfl, uw_t 813 (by decide +kernel) rfl, uw_t 0 (by decide +kernel) rfl, uw_t 814 (by decide +kernel) rfl⟩, by decide +kernel, by decide +kernel, by decide +kernel⟩
theorem kv_L_161 : uwc RL 161 yL_view cL_view 5 (some .int) [(0, 10, 13, 31), (0, 10, 17, 13)] 4 := ⟨⟨uw_t 832 (by decide +kernel) rfl, uw_t 833 (by decide +kernel) rfl, uw_t 0 (by decide +kernel) rfl, uw_t 834 (by decide +kernel) rfl⟩, by decide +kernel, by decide +kernel, by decide +kernel⟩
theorem kv_L_165 : uwc RL 165 yL_tenant cL_tenant 5 (some .int) [(0, 10, 13, 31), (0, 10, 17, 13)] 4 := ⟨⟨uw_t 861 (by decide +kernel) rfl, uw_t 862 (by decide +kernel) rfl, uw_t 0 (by decide +kernel) rfl, uw_t 863 (by decide +kernel) rfl⟩, by decide +kernel, by decide +kernel, by decide +kernel⟩
theorem kv_L_168 : uwc RL 168 yL_bubble cL_bubble 5 (some .int) [(0, 10, 13, 31), (0, 10, 17, 13)] 4 := ⟨⟨uw_t 879 (by decide +kernel) rfl, uw_t 880 (by decide +kernel) rfl, uw_t 0 (by decide +kernel) rfl, uw_t 881 (by decide +kernel) rfl⟩, by decide +kernel, by decide +kernel, by decide +kernel⟩
theorem kv_L_171 : uwc RL 171 yL_would cL_would 11 (some .int) [(0, 22, 25, 13)] 10 := ⟨⟨uw_t 891 (by decide +kernel) rfl, uw_t 892 (by decide +kernel) rfl, uw_t 0 (by decide +kernel) rfl, uw_t 893 (by decide +kernel) rfl⟩, by decide +kernel, by decide +kernel, by decide +kernel⟩
theorem kv_L_175 : uwc RL 175 yL_ahead cL_ahead 5 (some .int) [(0, 10, 13, 13)] 4 := ⟨⟨uw_t 899 (by decide +kernel) rfl, uw_t 900 (by decide +kernel) rfl, uw_t 0 (by decide +kernel) rfl, uw_t 901 (by decide +kernel) rfl⟩, by decide +kernel, by decide +kernel, by decide +kernel⟩
theorem kv_L_178 : uwc RL 178 yL_wall cL_wall 6 (some .int) [(0, 12, 15, 31), (0, 12, 19, 13)] 5 := ⟨⟨uw_t 913 (by decide +kernel) rfl, uw_t 914 (by decide +kernel) rfl, uw_t 0 (by decide +kernel) rfl, uw_t 915 (by decide +kernel) rfl⟩, by decide +kernel, by decide +kernel, by decide +kernel⟩
theorem kv_L_182 : uwc RL 182 yL_lasts cL_lasts 4 (some .int) [(0, 9, 12, 31)] 3 := ⟨⟨uw_t 925 (by decide +kernel) rfl, uw_t 926 (by decide +kernel) rfl, uw_t 0 (by decide +kernel) rfl, uw_t 927 (by decide +kernel) rfl⟩, by decide +kernel, by decide +kernel, by decide +kernel⟩
theorem kv_L_185 : uwc RL 185 yL_pitch cL_pitch 5 (some .int) [(0, 10, 13, 13)] 4 := ⟨⟨uw_t 932 (by decide +kernel) rfl, uw_t 933 (by decide +kernel) rfl, uw_t 0 (by decide +kernel) rfl, uw_t 934 (by decide +kernel) rfl⟩, by decide +kernel, by decide +kernel, by decide +kernel⟩
theorem kv_L_188 : uwc RL 188 yL_street cL_street 5 (some .int) [(0, 10, 13, 13)] 4 := ⟨⟨uw_t 943 (by decide +kernel) rfl, uw_t 944 (by decide +kernel) rfl, uw_t 0 (by decide +kernel) rfl, uw_t 945 (by decide +kernel) rfl⟩, by decide +kernel, by decide +kernel, by decide +kernel⟩
theorem kv_L_191 : uwc RL 191 yL_fits cL_fits 4 (some .int) [(0, 9, 12, 13)] 3 := ⟨⟨uw_t 961 (by decide +kernel) rfl, uw_t 962 (by decide +kernel) rfl, uw_t 0 (by decide +kernel) rfl, uw_t 963 (by decide +kernel) rfl⟩, by decide +kernel, by decide +kernel, by decide +kernel⟩
theorem kv_L_194 : uwc RL 194 yL_look cL_look 4 (some .int) [(0, 9, 12, 13)] 3 := ⟨⟨uw_t 981 (by decide +kernel) rfl, uw_t 982 (by decide +kernel) rfl, uw_t 0 (by decide +kernel) rfl, uw_t 983 (by decide +kernel) rfl⟩, by decide +kernel, by decide +kernel, by decide +kernel⟩
theorem kv_L_197 : uwc RL 197 yL_stands cL_stands 6 (some .int) [(0, 11, 14, 13)] 5 := ⟨⟨uw_t 1003 (by decide +kernel) rfl, uw_t 1004 (by decide +kernel) rfl, uw_t 0 (by decide +kernel) rfl, uw_t 1005 (by decide +kernel) rfl⟩, by decide +kernel, by decide +kernel, by decide +kernel⟩
theorem kv_L_200 : uwc RL 200 yL_mean cL_mean 6 (some .int) [(0, 11, 14, 13)] 5 := ⟨⟨uw_t 1014 (by decide +kernel) rfl, uw_t 1015 (by decide +kernel) rfl, uw_t 0 (by decide +kernel) rfl, uw_t 1016 (by decide +kernel) rfl⟩, by decide +kernel, by decide +kernel, by decide +kernel⟩
theorem kv_L_203 : uwc RL 203 yL_sure cL_sure 4 (some .int) [(0, 9, 12, 13)] 3 := ⟨⟨uw_t 1021 (by decide +kernel) rfl, uw_t 1022 (by decide +kernel) rfl, uw_t 0 (by decide +kernel) rfl, uw_t 1023 (by decide +kernel) rfl⟩, by decide +kernel, by decide +kernel, by decide +kernel⟩
theorem kv_L_206 : uwc RL 206 yL_pay cL_pay 6 (some .int) [(0, 12, 15, 13)] 5 := ⟨⟨uw_t 1030 (by decide +kernel) rfl, uw_t 1031 (by decide +kernel) rfl, uw_t 0 (by decide +kernel) rfl, uw_t 1032 (by decide +kernel) rfl⟩, by decide +kernel, by decide +kernel, by decide +kernel⟩
theorem kv_L_209 : uwc RL 209 yL_sun cL_sun 6 (some .int) [(0, 12, 15, 31), (0, 12, 19, 13)] 5 := ⟨⟨uw_t 1043 (by decide +kernel) rfl, uw_t 1044 (by decide +kernel) rfl, uw_t 0 (by decide +kernel) rfl, uw_t 1045 (by decide +kernel) rfl⟩, by decide +kernel, by decide +kernel, by decide +kernel⟩
theorem kv_L_212 : uwc RL 212 yL_richest cL_richest 4 (some .int) [(0, 9, 12, 13)] 3 := ⟨⟨uw_t 1058 (by decide +kernel) rfl, uw_t 1059 (by decide +kernel) rfl, uw_t 0 (by decide +kernel) rfl, uw_t 1060 (by decide +kernel) rfl⟩, by decide +kernel, by decide +kernel, by decide +kernel⟩
theorem kv_L_223 : uwc RL 223 yL_offer cL_offer 5 (some .int) [(0, 10, 13, 31), (0, 10, 17, 13)] 4 := ⟨⟨uw_t 1065 (by decide +kernel) rfl, uw_t 1066 (by decide +kernel) rfl, uw_t 0 (by decide +kernel) rfl, uw_t 1067 (by decide +kernel) rfl⟩, by decide +kernel, by decide +kernel, by decide +kernel⟩
theorem kv_L_226 : uwc RL 226 yL_lost cL_lost 5 (some .int) [(0, 10, 13, 13)] 4 := ⟨⟨uw_t 1073 (by decide +kernel) rfl, uw_t 1074 (by decide +kernel) rfl, uw_t 0 (by decide +kernel) rfl, uw_t 1075 (by decide +kernel) rfl⟩, by decide +kernel, by decide +kernel, by decide +kernel⟩
theorem kv_L_229 : uwc RL 229 yL_terrace cL_terrace 4 (some .int) [(0, 9, 12, 31)] 3 := ⟨⟨uw_t 1081 (by decide +kernel) rfl, uw_t 1082 (by decide +kernel) rfl, uw_t 0 (by decide +kernel) rfl, uw_t 1083 (by decide +kernel) rfl⟩, by decide +kernel, by decide +kernel, by decide +kernel⟩
theorem kv_L_232 : uwc RL 232 yL_overlap cL_overlap 5 (some .int) [(0, 10, 13, 31)] 4 := ⟨⟨uw_t 1092 (by decide +kernel) rfl, uw_t 1093 (by decide +kernel) rfl, uw_t 0 (by decide +kernel) rfl, uw_t 1094 (by decide +kernel) rfl⟩, by decide +kernel, by decide +kernel, by decide +kernel⟩
theorem kv_L_235 : uwc RL 235 yL_vacant cL_vacant 4 (some .int) [(0, 9, 12, 13)] 3 := ⟨⟨uw_t 1101 (by decide +kernel) rfl, uw_t 1102 (by decide +kernel) rfl, uw_t 0 (by decide +kernel) rfl, uw_t 1103 (by decide +kernel) rfl⟩, by decide +kernel, by decide +kernel, by decide +kernel⟩
theorem kv_L_238 : uwc RL 238 yL_needs cL_needs 5 (some .int) [(0, 10, 13, 31)] 4 := ⟨⟨uw_t 1108 (by decide +kernel) rfl, uw_t 1109 (by decide +kernel) rfl, uw_t 0 (by decide +kernel) rfl, uw_t 1110 (by decide +kernel) rfl⟩, by decide +kernel, by decide +kernel, by decide +kernel⟩
theorem kv_L_241 : uwc RL 241 yL_buyers cL_buyers 5 (some .int) [(0, 10, 13, 31), (0, 10, 17, 13)] 4 := ⟨⟨uw_t 1115 (by decide +kernel) rfl, uw_t 1116 (by decide +kernel) rfl, uw_t 0 (by decide +kernel) rfl, uw_t 1117 (by decide +kernel) rfl⟩, by decide +kernel, by decide +kernel, by decide +kernel⟩
theorem kv_L_244 : uwc RL 244 yL_affords cL_affords 4 (some .int) [(0, 9, 12, 31)] 3 := ⟨⟨uw_t 1123 (by decide +kernel) rfl, uw_t 1124 (by decide +kernel) rfl, uw_t 0 (by decide +kernel) rfl, uw_t 1125 (by decide +kernel) rfl⟩, by decide +kernel, by decide +kernel, by decide +kernel⟩
theorem kv_L_247 : uwc RL 247 yL_front cL_front 6 (some .int) [(0, 12, 15, 13)] 5 := ⟨⟨uw_t 1131 (by decide +kernel) rfl, uw_t 1132 (by decide +kernel) rfl, uw_t 0 (by decide +kernel) rfl, uw_t 1133 (by decide +kernel) rfl⟩, by decide +kernel, by decide +kernel, by decide +kernel⟩
theorem kv_L_250 : uwc RL 250 yL_closest cL_closest 5 (some .int) [(0, 10, 13, 31), (0, 10, 17, 13)] 4 := ⟨⟨uw_t 1138 (by decide +kernel) rfl, uw_t 1139 (by decide +kernel) rfl, uw_t 0 (by decide +kernel) rfl, uw_t 1140 (by decide +kernel) rfl⟩, by decide +kernel, by decide +kernel, by decide +kernel⟩
theorem kv_L_253 : uwc RL 253 yL_afternoon cL_afternoon 7 (some .int) [(0, 14, 17, 13)] 6 := ⟨⟨uw_t 1146 (by decide +kernel) rfl, uw_t 1147 (by decide +kernel) rfl, uw_t 0 (by decide +kernel) rfl, uw_t 1148 (by decide +kernel) rfl⟩, by decide +kernel, by decide +kernel, by decide +kernel⟩
theorem kv_L_257 : uwc RL 257 yL_span cL_span 9 (some .int) [(0, 18, 21, 13)] 8 := ⟨⟨uw_t 1167 (by decide +kernel) rfl, uw_t 1168 (by decide +kernel) rfl, uw_t 0 (by decide +kernel) rfl, uw_t 1169 (by decide +kernel) rfl⟩, by decide +kernel, by decide +kernel, by decide +kernel⟩
theorem ulaw_cmp {v : Int64} {f : Nat → Int32} {m : Um} (e : f = (um_L m v) 63) : lg_cmp (ul_of (f 0) (f 1)) v = 0 := by
  have h0 : f 0 = ul_hi v := by
    rw [e]
    unfold um_L um_wa upd
    simp
  have h1 : f 1 = ul_lo v := by
    rw [e]
    unfold um_L um_wa upd
    simp
  rw [h0, h1, ul_back]
  unfold lg_cmp
  have h2 : ¬ v > v := by
    intro h
    rw [gt_iff_lt, Int64.lt_iff_toInt_lt] at h
    omega
  rw [if_neg h2, if_pos rfl]
def uop_feed (I : Um → Prop) : Prop := ∀ (mem : Um) (a1 a2 a3 a4 a5 : Int32), I mem → ∃ (m1 : Um) (r : Int32) (m2 : Um), f_X7_feed mem a1 a2 a3 a4 a5 = some (m1, r) ∧ f_X8_feed m1 a1 a2 a3 a4 a5 = some (m2, r) ∧ I m2
def uop_corner (I : Um → Prop) : Prop := ∀ (mem : Um) (a1 : Int32), I mem → (∃ (m1 : Um) (r : Int32) (m2 : Um), f_X7_corner mem a1 = some (m1, .inl r) ∧ f_X8_corner (um_L m1 r.toInt64) a1 = some (m2, r) ∧ m2 38 0 = 0 ∧ m2 63 = (um_L m1 r.toInt64) 63 ∧ I m2) ∨ (∃ (m1 m2 : Um) (b : Int32), f_X7_corner mem a1 = some (m1, .inr "java/lang/IllegalArgumentException") ∧ f_X8_corner m1 a1 = some (m2, b) ∧ m2 38 0 = 1 ∧ I m2)
def uop_law (I : Um → Prop) : Prop := ∀ (mem : Um) (a1 : Int32), I mem → (∃ (m1 : Um) (r : Int32) (m2 : Um), f_X7_law mem a1 = some (m1, .inl r) ∧ f_X8_law (um_L m1 r.toInt64) a1 = some (m2, r) ∧ m2 38 0 = 0 ∧ m2 63 = (um_L m1 r.toInt64) 63 ∧ I m2) ∨ (∃ (m1 m2 : Um) (b : Int32), f_X7_law mem a1 = some (m1, .inr "java/lang/IllegalArgumentException") ∧ f_X8_law m1 a1 = some (m2, b) ∧ m2 38 0 = 1 ∧ I m2)
def uop_work (I : Um → Prop) : Prop := ∀ (mem : Um) (a1 : Int32), I mem → (∃ (m1 : Um) (r : Int32) (m2 : Um), f_X7_work mem a1 = some (m1, .inl r) ∧ f_X8_work (um_L m1 r.toInt64) a1 = some (m2, r) ∧ m2 38 0 = 0 ∧ m2 63 = (um_L m1 r.toInt64) 63 ∧ I m2) ∨ (∃ (m1 m2 : Um) (b : Int32), f_X7_work mem a1 = some (m1, .inr "java/lang/IllegalArgumentException") ∧ f_X8_work m1 a1 = some (m2, b) ∧ m2 38 0 = 1 ∧ I m2)
def uop_book (I : Um → Prop) : Prop := ∀ (mem : Um) (a1 : Int32), I mem → (∃ (m1 : Um) (r : Int32) (m2 : Um), f_X7_book mem a1 = some (m1, .inl r) ∧ f_X8_book (um_L m1 r.toInt64) a1 = some (m2, r) ∧ m2 38 0 = 0 ∧ m2 63 = (um_L m1 r.toInt64) 63 ∧ I m2) ∨ (∃ (m1 m2 : Um) (b : Int32), f_X7_book mem a1 = some (m1, .inr "java/lang/IllegalArgumentException") ∧ f_X8_book m1 a1 = some (m2, b) ∧ m2 38 0 = 1 ∧ I m2)
def uop_fault (I : Um → Prop) : Prop := ∀ (mem : Um), I mem → ∃ (m1 : Um) (r : Int32) (m2 : Um), f_X7_fault mem  = some (m1, r) ∧ f_X8_fault m1  = some (m2, r) ∧ I m2
def uop_undo (I : Um → Prop) : Prop := ∀ (mem : Um), I mem → ∃ (m1 : Um) (r : Int32) (m2 : Um), f_X7_undo mem  = some (m1, r) ∧ f_X8_undo m1  = some (m2, r) ∧ I m2
def uop_told (I : Um → Prop) : Prop := ∀ (mem : Um) (a1 : Int32), I mem → (∃ (m1 : Um) (r : Int32) (m2 : Um), f_X7_told mem a1 = some (m1, .inl r) ∧ f_X8_told (um_L m1 r.toInt64) a1 = some (m2, r) ∧ m2 38 0 = 0 ∧ m2 63 = (um_L m1 r.toInt64) 63 ∧ I m2) ∨ (∃ (m1 m2 : Um) (b : Int32), f_X7_told mem a1 = some (m1, .inr "java/lang/IllegalArgumentException") ∧ f_X8_told m1 a1 = some (m2, b) ∧ m2 38 0 = 1 ∧ I m2)
def uop_view (I : Um → Prop) : Prop := ∀ (mem : Um) (a1 a2 : Int32), I mem → (∃ (m1 : Um) (r : Int32) (m2 : Um), f_X7_view mem a1 a2 = some (m1, .inl r) ∧ f_X8_view (um_L m1 r.toInt64) a1 a2 = some (m2, r) ∧ m2 38 0 = 0 ∧ m2 63 = (um_L m1 r.toInt64) 63 ∧ I m2) ∨ (∃ (m1 m2 : Um) (b : Int32), f_X7_view mem a1 a2 = some (m1, .inr "java/util/NoSuchElementException") ∧ f_X8_view m1 a1 a2 = some (m2, b) ∧ m2 38 0 = 1 ∧ I m2) ∨ (∃ (m1 m2 : Um) (b : Int32), f_X7_view mem a1 a2 = some (m1, .inr "java/lang/IllegalArgumentException") ∧ f_X8_view m1 a1 a2 = some (m2, b) ∧ m2 38 0 = 2 ∧ I m2)
def uop_tenant (I : Um → Prop) : Prop := ∀ (mem : Um) (a1 a2 : Int32), I mem → (∃ (m1 : Um) (r : Int32) (m2 : Um), f_X7_tenant mem a1 a2 = some (m1, .inl r) ∧ f_X8_tenant (um_L m1 r.toInt64) a1 a2 = some (m2, r) ∧ m2 38 0 = 0 ∧ m2 63 = (um_L m1 r.toInt64) 63 ∧ I m2) ∨ (∃ (m1 m2 : Um) (b : Int32), f_X7_tenant mem a1 a2 = some (m1, .inr "java/util/NoSuchElementException") ∧ f_X8_tenant m1 a1 a2 = some (m2, b) ∧ m2 38 0 = 1 ∧ I m2) ∨ (∃ (m1 m2 : Um) (b : Int32), f_X7_tenant mem a1 a2 = some (m1, .inr "java/lang/IllegalArgumentException") ∧ f_X8_tenant m1 a1 a2 = some (m2, b) ∧ m2 38 0 = 2 ∧ I m2)
def uop_bubble (I : Um → Prop) : Prop := ∀ (mem : Um) (a1 a2 : Int32), I mem → (∃ (m1 : Um) (r : Int32) (m2 : Um), f_X7_bubble mem a1 a2 = some (m1, .inl r) ∧ f_X8_bubble (um_L m1 r.toInt64) a1 a2 = some (m2, r) ∧ m2 38 0 = 0 ∧ m2 63 = (um_L m1 r.toInt64) 63 ∧ I m2) ∨ (∃ (m1 m2 : Um) (b : Int32), f_X7_bubble mem a1 a2 = some (m1, .inr "java/util/NoSuchElementException") ∧ f_X8_bubble m1 a1 a2 = some (m2, b) ∧ m2 38 0 = 1 ∧ I m2) ∨ (∃ (m1 m2 : Um) (b : Int32), f_X7_bubble mem a1 a2 = some (m1, .inr "java/lang/IllegalArgumentException") ∧ f_X8_bubble m1 a1 a2 = some (m2, b) ∧ m2 38 0 = 2 ∧ I m2)
def uop_would (I : Um → Prop) : Prop := ∀ (mem : Um) (a1 a2 a3 a4 a5 a6 a7 a8 : Int32), I mem → (∃ (m1 : Um) (r : Int32) (m2 : Um), f_X7_would mem a1 a2 a3 a4 a5 a6 a7 a8 = some (m1, .inl r) ∧ f_X8_would (um_L m1 r.toInt64) a1 a2 a3 a4 a5 a6 a7 a8 = some (m2, r) ∧ m2 38 0 = 0 ∧ m2 63 = (um_L m1 r.toInt64) 63 ∧ I m2) ∨ (∃ (m1 m2 : Um) (b : Int32), f_X7_would mem a1 a2 a3 a4 a5 a6 a7 a8 = some (m1, .inr "java/lang/IllegalArgumentException") ∧ f_X8_would m1 a1 a2 a3 a4 a5 a6 a7 a8 = some (m2, b) ∧ m2 38 0 = 1 ∧ I m2)
def uop_ahead (I : Um → Prop) : Prop := ∀ (mem : Um) (a1 a2 : Int32), I mem → (∃ (m1 : Um) (r : Int32) (m2 : Um), f_X7_ahead mem a1 a2 = some (m1, .inl r) ∧ f_X8_ahead (um_L m1 r.toInt64) a1 a2 = some (m2, r) ∧ m2 38 0 = 0 ∧ m2 63 = (um_L m1 r.toInt64) 63 ∧ I m2) ∨ (∃ (m1 m2 : Um) (b : Int32), f_X7_ahead mem a1 a2 = some (m1, .inr "java/lang/IllegalArgumentException") ∧ f_X8_ahead m1 a1 a2 = some (m2, b) ∧ m2 38 0 = 1 ∧ I m2)
def uop_wall (I : Um → Prop) : Prop := ∀ (mem : Um) (a1 a2 a3 : Int32), I mem → (∃ (m1 : Um) (r : Int32) (m2 : Um), f_X7_wall mem a1 a2 a3 = some (m1, .inl r) ∧ f_X8_wall (um_L m1 r.toInt64) a1 a2 a3 = some (m2, r) ∧ m2 38 0 = 0 ∧ m2 63 = (um_L m1 r.toInt64) 63 ∧ I m2) ∨ (∃ (m1 m2 : Um) (b : Int32), f_X7_wall mem a1 a2 a3 = some (m1, .inr "java/util/NoSuchElementException") ∧ f_X8_wall m1 a1 a2 a3 = some (m2, b) ∧ m2 38 0 = 1 ∧ I m2) ∨ (∃ (m1 m2 : Um) (b : Int32), f_X7_wall mem a1 a2 a3 = some (m1, .inr "java/lang/IllegalArgumentException") ∧ f_X8_wall m1 a1 a2 a3 = some (m2, b) ∧ m2 38 0 = 2 ∧ I m2)
def uop_lasts (I : Um → Prop) : Prop := ∀ (mem : Um) (a1 : Int32), I mem → (∃ (m1 : Um) (r : Int32) (m2 : Um), f_X7_lasts mem a1 = some (m1, .inl r) ∧ f_X8_lasts (um_L m1 r.toInt64) a1 = some (m2, r) ∧ m2 38 0 = 0 ∧ m2 63 = (um_L m1 r.toInt64) 63 ∧ I m2) ∨ (∃ (m1 m2 : Um) (b : Int32), f_X7_lasts mem a1 = some (m1, .inr "java/util/NoSuchElementException") ∧ f_X8_lasts m1 a1 = some (m2, b) ∧ m2 38 0 = 1 ∧ I m2)
def uop_pitch (I : Um → Prop) : Prop := ∀ (mem : Um) (a1 a2 : Int32), I mem → (∃ (m1 : Um) (r : Int32) (m2 : Um), f_X7_pitch mem a1 a2 = some (m1, .inl r) ∧ f_X8_pitch (um_L m1 r.toInt64) a1 a2 = some (m2, r) ∧ m2 38 0 = 0 ∧ m2 63 = (um_L m1 r.toInt64) 63 ∧ I m2) ∨ (∃ (m1 m2 : Um) (b : Int32), f_X7_pitch mem a1 a2 = some (m1, .inr "java/lang/IllegalArgumentException") ∧ f_X8_pitch m1 a1 a2 = some (m2, b) ∧ m2 38 0 = 1 ∧ I m2)
def uop_street (I : Um → Prop) : Prop := ∀ (mem : Um) (a1 a2 : Int32), I mem → (∃ (m1 : Um) (r : Int32) (m2 : Um), f_X7_street mem a1 a2 = some (m1, .inl r) ∧ f_X8_street (um_L m1 r.toInt64) a1 a2 = some (m2, r) ∧ m2 38 0 = 0 ∧ m2 63 = (um_L m1 r.toInt64) 63 ∧ I m2) ∨ (∃ (m1 m2 : Um) (b : Int32), f_X7_street mem a1 a2 = some (m1, .inr "java/lang/IllegalArgumentException") ∧ f_X8_street m1 a1 a2 = some (m2, b) ∧ m2 38 0 = 1 ∧ I m2)
def uop_fits (I : Um → Prop) : Prop := ∀ (mem : Um) (a1 : Int32), I mem → (∃ (m1 : Um) (r : Int32) (m2 : Um), f_X7_fits mem a1 = some (m1, .inl r) ∧ f_X8_fits (um_L m1 r.toInt64) a1 = some (m2, r) ∧ m2 38 0 = 0 ∧ m2 63 = (um_L m1 r.toInt64) 63 ∧ I m2) ∨ (∃ (m1 m2 : Um) (b : Int32), f_X7_fits mem a1 = some (m1, .inr "java/lang/IllegalArgumentException") ∧ f_X8_fits m1 a1 = some (m2, b) ∧ m2 38 0 = 1 ∧ I m2)
def uop_look (I : Um → Prop) : Prop := ∀ (mem : Um) (a1 : Int32), I mem → (∃ (m1 : Um) (r : Int32) (m2 : Um), f_X7_look mem a1 = some (m1, .inl r) ∧ f_X8_look (um_L m1 r.toInt64) a1 = some (m2, r) ∧ m2 38 0 = 0 ∧ m2 63 = (um_L m1 r.toInt64) 63 ∧ I m2) ∨ (∃ (m1 m2 : Um) (b : Int32), f_X7_look mem a1 = some (m1, .inr "java/lang/IllegalArgumentException") ∧ f_X8_look m1 a1 = some (m2, b) ∧ m2 38 0 = 1 ∧ I m2)
def uop_stands (I : Um → Prop) : Prop := ∀ (mem : Um) (a1 a2 a3 : Int32), I mem → (∃ (m1 : Um) (r : Int64) (m2 : Um), f_X7_stands mem a1 a2 a3 = some (m1, .inl r) ∧ f_X8_stands (um_L m1 r) a1 a2 a3 = some (m2, r) ∧ m2 38 0 = 0 ∧ m2 63 = (um_L m1 r) 63 ∧ I m2) ∨ (∃ (m1 m2 : Um) (b : Int64), f_X7_stands mem a1 a2 a3 = some (m1, .inr "java/lang/IllegalArgumentException") ∧ f_X8_stands m1 a1 a2 a3 = some (m2, b) ∧ m2 38 0 = 1 ∧ I m2)
def uop_mean (I : Um → Prop) : Prop := ∀ (mem : Um) (a1 a2 a3 : Int32), I mem → (∃ (m1 : Um) (r : Int64) (m2 : Um), f_X7_mean mem a1 a2 a3 = some (m1, .inl r) ∧ f_X8_mean (um_L m1 r) a1 a2 a3 = some (m2, r) ∧ m2 38 0 = 0 ∧ m2 63 = (um_L m1 r) 63 ∧ I m2) ∨ (∃ (m1 m2 : Um) (b : Int64), f_X7_mean mem a1 a2 a3 = some (m1, .inr "java/lang/IllegalArgumentException") ∧ f_X8_mean m1 a1 a2 a3 = some (m2, b) ∧ m2 38 0 = 1 ∧ I m2)
def uop_sure (I : Um → Prop) : Prop := ∀ (mem : Um) (a1 : Int32), I mem → (∃ (m1 : Um) (r : Int32) (m2 : Um), f_X7_sure mem a1 = some (m1, .inl r) ∧ f_X8_sure (um_L m1 r.toInt64) a1 = some (m2, r) ∧ m2 38 0 = 0 ∧ m2 63 = (um_L m1 r.toInt64) 63 ∧ I m2) ∨ (∃ (m1 m2 : Um) (b : Int32), f_X7_sure mem a1 = some (m1, .inr "java/lang/IllegalArgumentException") ∧ f_X8_sure m1 a1 = some (m2, b) ∧ m2 38 0 = 1 ∧ I m2)
def uop_pay (I : Um → Prop) : Prop := ∀ (mem : Um) (a1 a2 a3 : Int32), I mem → (∃ (m1 : Um) (r : Int32) (m2 : Um), f_X7_pay mem a1 a2 a3 = some (m1, .inl r) ∧ f_X8_pay (um_L m1 r.toInt64) a1 a2 a3 = some (m2, r) ∧ m2 38 0 = 0 ∧ m2 63 = (um_L m1 r.toInt64) 63 ∧ I m2) ∨ (∃ (m1 m2 : Um) (b : Int32), f_X7_pay mem a1 a2 a3 = some (m1, .inr "java/lang/IllegalArgumentException") ∧ f_X8_pay m1 a1 a2 a3 = some (m2, b) ∧ m2 38 0 = 1 ∧ I m2)
def uop_sun (I : Um → Prop) : Prop := ∀ (mem : Um) (a1 a2 a3 : Int32), I mem → (∃ (m1 : Um) (r : Int32) (m2 : Um), f_X7_sun mem a1 a2 a3 = some (m1, .inl r) ∧ f_X8_sun (um_L m1 r.toInt64) a1 a2 a3 = some (m2, r) ∧ m2 38 0 = 0 ∧ m2 63 = (um_L m1 r.toInt64) 63 ∧ I m2) ∨ (∃ (m1 m2 : Um) (b : Int32), f_X7_sun mem a1 a2 a3 = some (m1, .inr "java/util/NoSuchElementException") ∧ f_X8_sun m1 a1 a2 a3 = some (m2, b) ∧ m2 38 0 = 1 ∧ I m2) ∨ (∃ (m1 m2 : Um) (b : Int32), f_X7_sun mem a1 a2 a3 = some (m1, .inr "java/lang/IllegalArgumentException") ∧ f_X8_sun m1 a1 a2 a3 = some (m2, b) ∧ m2 38 0 = 2 ∧ I m2)
def uop_richest (I : Um → Prop) : Prop := ∀ (mem : Um) (a1 : Int32), I mem → (∃ (m1 : Um) (r : Int32) (m2 : Um), f_X7_richest mem a1 = some (m1, .inl r) ∧ f_X8_richest (um_L m1 r.toInt64) a1 = some (m2, r) ∧ m2 38 0 = 0 ∧ m2 63 = (um_L m1 r.toInt64) 63 ∧ I m2) ∨ (∃ (m1 m2 : Um) (b : Int32), f_X7_richest mem a1 = some (m1, .inr "java/lang/IllegalArgumentException") ∧ f_X8_richest m1 a1 = some (m2, b) ∧ m2 38 0 = 1 ∧ I m2)
def uop_idle (I : Um → Prop) : Prop := ∀ (mem : Um), I mem → ∃ (m1 : Um) (r : Int32) (m2 : Um), f_X7_idle mem  = some (m1, r) ∧ f_X8_idle m1  = some (m2, r) ∧ I m2
def uop_under (I : Um → Prop) : Prop := ∀ (mem : Um), I mem → ∃ (m1 : Um) (r : Int32) (m2 : Um), f_X7_under mem  = some (m1, r) ∧ f_X8_under m1  = some (m2, r) ∧ I m2
def uop_offer (I : Um → Prop) : Prop := ∀ (mem : Um) (a1 a2 : Int32), I mem → (∃ (m1 : Um) (r : Int32) (m2 : Um), f_X7_offer mem a1 a2 = some (m1, .inl r) ∧ f_X8_offer (um_L m1 r.toInt64) a1 a2 = some (m2, r) ∧ m2 38 0 = 0 ∧ m2 63 = (um_L m1 r.toInt64) 63 ∧ I m2) ∨ (∃ (m1 m2 : Um) (b : Int32), f_X7_offer mem a1 a2 = some (m1, .inr "java/util/NoSuchElementException") ∧ f_X8_offer m1 a1 a2 = some (m2, b) ∧ m2 38 0 = 1 ∧ I m2) ∨ (∃ (m1 m2 : Um) (b : Int32), f_X7_offer mem a1 a2 = some (m1, .inr "java/lang/IllegalArgumentException") ∧ f_X8_offer m1 a1 a2 = some (m2, b) ∧ m2 38 0 = 2 ∧ I m2)
def uop_lost (I : Um → Prop) : Prop := ∀ (mem : Um) (a1 a2 : Int32), I mem → (∃ (m1 : Um) (r : Int32) (m2 : Um), f_X7_lost mem a1 a2 = some (m1, .inl r) ∧ f_X8_lost (um_L m1 r.toInt64) a1 a2 = some (m2, r) ∧ m2 38 0 = 0 ∧ m2 63 = (um_L m1 r.toInt64) 63 ∧ I m2) ∨ (∃ (m1 m2 : Um) (b : Int32), f_X7_lost mem a1 a2 = some (m1, .inr "java/lang/IllegalArgumentException") ∧ f_X8_lost m1 a1 a2 = some (m2, b) ∧ m2 38 0 = 1 ∧ I m2)
def uop_terrace (I : Um → Prop) : Prop := ∀ (mem : Um) (a1 : Int32), I mem → (∃ (m1 : Um) (r : Int32) (m2 : Um), f_X7_terrace mem a1 = some (m1, .inl r) ∧ f_X8_terrace (um_L m1 r.toInt64) a1 = some (m2, r) ∧ m2 38 0 = 0 ∧ m2 63 = (um_L m1 r.toInt64) 63 ∧ I m2) ∨ (∃ (m1 m2 : Um) (b : Int32), f_X7_terrace mem a1 = some (m1, .inr "java/util/NoSuchElementException") ∧ f_X8_terrace m1 a1 = some (m2, b) ∧ m2 38 0 = 1 ∧ I m2)
def uop_overlap (I : Um → Prop) : Prop := ∀ (mem : Um) (a1 a2 : Int32), I mem → (∃ (m1 : Um) (r : Int32) (m2 : Um), f_X7_overlap mem a1 a2 = some (m1, .inl r) ∧ f_X8_overlap (um_L m1 r.toInt64) a1 a2 = some (m2, r) ∧ m2 38 0 = 0 ∧ m2 63 = (um_L m1 r.toInt64) 63 ∧ I m2) ∨ (∃ (m1 m2 : Um) (b : Int32), f_X7_overlap mem a1 a2 = some (m1, .inr "java/util/NoSuchElementException") ∧ f_X8_overlap m1 a1 a2 = some (m2, b) ∧ m2 38 0 = 1 ∧ I m2)
def uop_vacant (I : Um → Prop) : Prop := ∀ (mem : Um) (a1 : Int32), I mem → (∃ (m1 : Um) (r : Int32) (m2 : Um), f_X7_vacant mem a1 = some (m1, .inl r) ∧ f_X8_vacant (um_L m1 r.toInt64) a1 = some (m2, r) ∧ m2 38 0 = 0 ∧ m2 63 = (um_L m1 r.toInt64) 63 ∧ I m2) ∨ (∃ (m1 m2 : Um) (b : Int32), f_X7_vacant mem a1 = some (m1, .inr "java/lang/IllegalArgumentException") ∧ f_X8_vacant m1 a1 = some (m2, b) ∧ m2 38 0 = 1 ∧ I m2)
def uop_needs (I : Um → Prop) : Prop := ∀ (mem : Um) (a1 a2 : Int32), I mem → (∃ (m1 : Um) (r : Int32) (m2 : Um), f_X7_needs mem a1 a2 = some (m1, .inl r) ∧ f_X8_needs (um_L m1 r.toInt64) a1 a2 = some (m2, r) ∧ m2 38 0 = 0 ∧ m2 63 = (um_L m1 r.toInt64) 63 ∧ I m2) ∨ (∃ (m1 m2 : Um) (b : Int32), f_X7_needs mem a1 a2 = some (m1, .inr "java/util/NoSuchElementException") ∧ f_X8_needs m1 a1 a2 = some (m2, b) ∧ m2 38 0 = 1 ∧ I m2)
def uop_buyers (I : Um → Prop) : Prop := ∀ (mem : Um) (a1 a2 : Int32), I mem → (∃ (m1 : Um) (r : Int32) (m2 : Um), f_X7_buyers mem a1 a2 = some (m1, .inl r) ∧ f_X8_buyers (um_L m1 r.toInt64) a1 a2 = some (m2, r) ∧ m2 38 0 = 0 ∧ m2 63 = (um_L m1 r.toInt64) 63 ∧ I m2) ∨ (∃ (m1 m2 : Um) (b : Int32), f_X7_buyers mem a1 a2 = some (m1, .inr "java/util/NoSuchElementException") ∧ f_X8_buyers m1 a1 a2 = some (m2, b) ∧ m2 38 0 = 1 ∧ I m2) ∨ (∃ (m1 m2 : Um) (b : Int32), f_X7_buyers mem a1 a2 = some (m1, .inr "java/lang/IllegalArgumentException") ∧ f_X8_buyers m1 a1 a2 = some (m2, b) ∧ m2 38 0 = 2 ∧ I m2)
def uop_affords (I : Um → Prop) : Prop := ∀ (mem : Um) (a1 : Int32), I mem → (∃ (m1 : Um) (r : Int32) (m2 : Um), f_X7_affords mem a1 = some (m1, .inl r) ∧ f_X8_affords (um_L m1 r.toInt64) a1 = some (m2, r) ∧ m2 38 0 = 0 ∧ m2 63 = (um_L m1 r.toInt64) 63 ∧ I m2) ∨ (∃ (m1 m2 : Um) (b : Int32), f_X7_affords mem a1 = some (m1, .inr "java/util/NoSuchElementException") ∧ f_X8_affords m1 a1 = some (m2, b) ∧ m2 38 0 = 1 ∧ I m2)
def uop_front (I : Um → Prop) : Prop := ∀ (mem : Um) (a1 a2 a3 : Int32), I mem → (∃ (m1 : Um) (r : Int32) (m2 : Um), f_X7_front mem a1 a2 a3 = some (m1, .inl r) ∧ f_X8_front (um_L m1 r.toInt64) a1 a2 a3 = some (m2, r) ∧ m2 38 0 = 0 ∧ m2 63 = (um_L m1 r.toInt64) 63 ∧ I m2) ∨ (∃ (m1 m2 : Um) (b : Int32), f_X7_front mem a1 a2 a3 = some (m1, .inr "java/lang/IllegalArgumentException") ∧ f_X8_front m1 a1 a2 a3 = some (m2, b) ∧ m2 38 0 = 1 ∧ I m2)
def uop_closest (I : Um → Prop) : Prop := ∀ (mem : Um) (a1 a2 : Int32), I mem → (∃ (m1 : Um) (r : Int32) (m2 : Um), f_X7_closest mem a1 a2 = some (m1, .inl r) ∧ f_X8_closest (um_L m1 r.toInt64) a1 a2 = some (m2, r) ∧ m2 38 0 = 0 ∧ m2 63 = (um_L m1 r.toInt64) 63 ∧ I m2) ∨ (∃ (m1 m2 : Um) (b : Int32), f_X7_closest mem a1 a2 = some (m1, .inr "java/util/NoSuchElementException") ∧ f_X8_closest m1 a1 a2 = some (m2, b) ∧ m2 38 0 = 1 ∧ I m2) ∨ (∃ (m1 m2 : Um) (b : Int32), f_X7_closest mem a1 a2 = some (m1, .inr "java/lang/IllegalArgumentException") ∧ f_X8_closest m1 a1 a2 = some (m2, b) ∧ m2 38 0 = 2 ∧ I m2)
def uop_afternoon (I : Um → Prop) : Prop := ∀ (mem : Um) (a1 a2 a3 a4 : Int32), I mem → (∃ (m1 : Um) (r : Int32) (m2 : Um), f_X7_afternoon mem a1 a2 a3 a4 = some (m1, .inl r) ∧ f_X8_afternoon (um_L m1 r.toInt64) a1 a2 a3 a4 = some (m2, r) ∧ m2 38 0 = 0 ∧ m2 63 = (um_L m1 r.toInt64) 63 ∧ I m2) ∨ (∃ (m1 m2 : Um) (b : Int32), f_X7_afternoon mem a1 a2 a3 a4 = some (m1, .inr "java/lang/IllegalArgumentException") ∧ f_X8_afternoon m1 a1 a2 a3 a4 = some (m2, b) ∧ m2 38 0 = 1 ∧ I m2)
def uop_span (I : Um → Prop) : Prop := ∀ (mem : Um) (a1 a2 a3 a4 a5 a6 : Int32), I mem → (∃ (m1 : Um) (r : Int32) (m2 : Um), f_X7_span mem a1 a2 a3 a4 a5 a6 = some (m1, .inl r) ∧ f_X8_span (um_L m1 r.toInt64) a1 a2 a3 a4 a5 a6 = some (m2, r) ∧ m2 38 0 = 0 ∧ m2 63 = (um_L m1 r.toInt64) 63 ∧ I m2) ∨ (∃ (m1 m2 : Um) (b : Int32), f_X7_span mem a1 a2 a3 a4 a5 a6 = some (m1, .inr "java/lang/IllegalArgumentException") ∧ f_X8_span m1 a1 a2 a3 a4 a5 a6 = some (m2, b) ∧ m2 38 0 = 1 ∧ I m2)
def uop_image (I : Um → Prop) : Prop := ∀ (mem : Um), I mem → ∃ (m1 : Um) (r : Int32) (m2 : Um), f_X7_image mem  = some (m1, r) ∧ f_X8_image m1  = some (m2, r) ∧ I m2
def uop_restore (I : Um → Prop) : Prop := ∀ (mem : Um), I mem → ∃ (m1 : Um) (r : Int32) (m2 : Um), f_X7_restore mem  = some (m1, r) ∧ f_X8_restore m1  = some (m2, r) ∧ I m2
def uop_status (I : Um → Prop) : Prop := ∀ (mem : Um) (a1 : Int32), I mem → ∃ (m1 : Um) (r : Int32) (m2 : Um), f_X7_status mem a1 = some (m1, r) ∧ f_X8_status m1 a1 = some (m2, r) ∧ I m2
def uop_count (I : Um → Prop) : Prop := ∀ (mem : Um) (a1 : Int32), I mem → ∃ (m1 : Um) (r : Int32) (m2 : Um), f_X7_count mem a1 = some (m1, r) ∧ f_X8_count m1 a1 = some (m2, r) ∧ I m2
set_option maxRecDepth 20000 in
theorem law_feed {l : Launch} {E : Ue} (hx : ue_x E = [.inr (3, 1)]) {I : Um → Prop} (h : uop_feed I) {mc ms ce sl n : Nat} {x4 : Int32} (hin : ∀ q, q ≤ 8 → vp_in (x4 + nI q) (ue_sn E)) (ih : ∀ (m2 : Um) (ce sl : Nat), I m2 → ce + n ≤ mc → sl + 6 * n ≤ ms → ∃ m9, ug l E 2048 mc ms cL_law_ 8 RL (some .boolean) [] (.inl (some (.int 1), m9)) ce sl 23 [(0, .ref (ue_sb E)), (1, .ref (ue_d E 0)), (2, .ref (ue_d E 38)), (3, .ref (ue_d E 63)), (4, .int (x4 + 9))] [] m2) {mem : Um} (hI : I mem) (hc : ce + (n + 1) ≤ mc) (hs : sl + 6 * (n + 1) ≤ ms) : ∃ m9, ug l E 2048 mc ms cL_law_ 8 RL (some .boolean) [] (.inl (some (.int 1), m9)) ce sl 228 [(0, .ref (ue_sb E)), (1, .ref (ue_d E 0)), (2, .ref (ue_d E 38)), (3, .ref (ue_d E 63)), (4, .int x4)] [] mem := by
  obtain ⟨m1, r, m2, e1, e2, hI⟩ := h mem (ue_sx E (x4 + 1).toNatClampNeg) (ue_sx E (x4 + 2).toNatClampNeg) (ue_sx E (x4 + 3).toNatClampNeg) (ue_sx E (x4 + 4).toNatClampNeg) (ue_sx E (x4 + 5).toNatClampNeg) hI
  obtain ⟨m9, ih⟩ := ih m2 ce sl hI (by omega) (by omega)
  refine ⟨m9, ?_⟩
  refine ug_aload_n 1 dL_law__228 rfl rfl ?_
  refine ug_aload_n 0 dL_law__229 rfl rfl ?_
  refine ug_iload 4 dL_law__230 rfl ?_
  refine ug_iconst dL_law__232 un_iconst_1 ?_
  refine ug_iadd dL_law__233 ?_
  refine ug_sld (hin 1 (Nat.le_of_ble_eq_true rfl)) dL_law__234 ?_
  refine ug_aload_n 0 dL_law__235 rfl rfl ?_
  refine ug_iload 4 dL_law__236 rfl ?_
  refine ug_iconst dL_law__238 un_iconst_2 ?_
  refine ug_iadd dL_law__239 ?_
  refine ug_sld (hin 2 (Nat.le_of_ble_eq_true rfl)) dL_law__240 ?_
  refine ug_aload_n 0 dL_law__241 rfl rfl ?_
  refine ug_iload 4 dL_law__242 rfl ?_
  refine ug_iconst dL_law__244 un_iconst_3 ?_
  refine ug_iadd dL_law__245 ?_
  refine ug_sld (hin 3 (Nat.le_of_ble_eq_true rfl)) dL_law__246 ?_
  refine ug_aload_n 0 dL_law__247 rfl rfl ?_
  refine ug_iload 4 dL_law__248 rfl ?_
  refine ug_iconst dL_law__250 un_iconst_4 ?_
  refine ug_iadd dL_law__251 ?_
  refine ug_sld (hin 4 (Nat.le_of_ble_eq_true rfl)) dL_law__252 ?_
  refine ug_aload_n 0 dL_law__253 rfl rfl ?_
  refine ug_iload 4 dL_law__254 rfl ?_
  refine ug_iconst dL_law__256 un_iconst_5 ?_
  refine ug_iadd dL_law__257 ?_
  refine ug_sld (hin 5 (Nat.le_of_ble_eq_true rfl)) dL_law__258 ?_
  refine ug_callVL [.int r] [.int (ue_sx E (x4 + 1).toNatClampNeg), .int (ue_sx E (x4 + 2).toNatClampNeg), .int (ue_sx E (x4 + 3).toNatClampNeg), .int (ue_sx E (x4 + 4).toNatClampNeg), .int (ue_sx E (x4 + 5).toNatClampNeg)] (c_X7_feed e1) kc_L_126 ro_0 rfl (S := []) rfl rfl (Nat.le_of_ble_eq_true rfl) (Nat.le_of_ble_eq_true rfl) (Nat.le_of_ble_eq_true rfl) ⟨by omega, by omega⟩ dL_law__259 ?_
  refine ug_aload_n 2 dL_law__262 rfl rfl ?_
  refine ug_aload_n 0 dL_law__263 rfl rfl ?_
  refine ug_iload 4 dL_law__264 rfl ?_
  refine ug_iconst dL_law__266 un_iconst_1 ?_
  refine ug_iadd dL_law__267 ?_
  refine ug_sld (hin 1 (Nat.le_of_ble_eq_true rfl)) dL_law__268 ?_
  refine ug_aload_n 0 dL_law__269 rfl rfl ?_
  refine ug_iload 4 dL_law__270 rfl ?_
  refine ug_iconst dL_law__272 un_iconst_2 ?_
  refine ug_iadd dL_law__273 ?_
  refine ug_sld (hin 2 (Nat.le_of_ble_eq_true rfl)) dL_law__274 ?_
  refine ug_aload_n 0 dL_law__275 rfl rfl ?_
  refine ug_iload 4 dL_law__276 rfl ?_
  refine ug_iconst dL_law__278 un_iconst_3 ?_
  refine ug_iadd dL_law__279 ?_
  refine ug_sld (hin 3 (Nat.le_of_ble_eq_true rfl)) dL_law__280 ?_
  refine ug_aload_n 0 dL_law__281 rfl rfl ?_
  refine ug_iload 4 dL_law__282 rfl ?_
  refine ug_iconst dL_law__284 un_iconst_4 ?_
  refine ug_iadd dL_law__285 ?_
  refine ug_sld (hin 4 (Nat.le_of_ble_eq_true rfl)) dL_law__286 ?_
  refine ug_aload_n 0 dL_law__287 rfl rfl ?_
  refine ug_iload 4 dL_law__288 rfl ?_
  refine ug_iconst dL_law__290 un_iconst_5 ?_
  refine ug_iadd dL_law__291 ?_
  refine ug_sld (hin 5 (Nat.le_of_ble_eq_true rfl)) dL_law__292 ?_
  refine ug_callVL [.int r, .int r] [.int (ue_sx E (x4 + 1).toNatClampNeg), .int (ue_sx E (x4 + 2).toNatClampNeg), .int (ue_sx E (x4 + 3).toNatClampNeg), .int (ue_sx E (x4 + 4).toNatClampNeg), .int (ue_sx E (x4 + 5).toNatClampNeg)] (c_X8_feed e2) kc_L_130 ro_38 rfl (S := [.int r]) rfl rfl (Nat.le_of_ble_eq_true rfl) (Nat.le_of_ble_eq_true rfl) (Nat.le_of_ble_eq_true rfl) ⟨by omega, by omega⟩ dL_law__293 ?_
  refine ug_icmp_eq 2807 dL_law__296 (by decide) (fun _ => ?_) (fun q => absurd rfl q)
  refine ug_iinc (v := (x4 + 9)) [(4, .int (x4 + 9)), (0, .ref (ue_sb E)), (1, .ref (ue_d E 0)), (2, .ref (ue_d E 38)), (3, .ref (ue_d E 63))] 4 dL_law__2807 rfl rfl (Nat.le_of_ble_eq_true rfl) rfl ?_
  refine ug_goto 23 dL_law__2810 (by decide) ?_
  refine ug_sub [(0, .ref (ue_sb E)), (1, .ref (ue_d E 0)), (2, .ref (ue_d E 38)), (3, .ref (ue_d E 63)), (4, .int (x4 + 9))] [1, 2, 3, 4, 0] rfl ?_
  exact ih
set_option maxRecDepth 20000 in
theorem law_corner {l : Launch} {E : Ue} (hx : ue_x E = [.inr (3, 1)]) {I : Um → Prop} (h : uop_corner I) {mc ms ce sl n : Nat} {x4 : Int32} (hin : ∀ q, q ≤ 8 → vp_in (x4 + nI q) (ue_sn E)) (ih : ∀ (m2 : Um) (ce sl : Nat), I m2 → ce + n ≤ mc → sl + 6 * n ≤ ms → ∃ m9, ug l E 2048 mc ms cL_law_ 8 RL (some .boolean) [] (.inl (some (.int 1), m9)) ce sl 23 [(0, .ref (ue_sb E)), (1, .ref (ue_d E 0)), (2, .ref (ue_d E 38)), (3, .ref (ue_d E 63)), (4, .int (x4 + 9))] [] m2) {mem : Um} (hI : I mem) (hc : ce + (n + 1) ≤ mc) (hs : sl + 6 * (n + 1) ≤ ms) : ∃ m9, ug l E 2048 mc ms cL_law_ 8 RL (some .boolean) [] (.inl (some (.int 1), m9)) ce sl 301 [(0, .ref (ue_sb E)), (1, .ref (ue_d E 0)), (2, .ref (ue_d E 38)), (3, .ref (ue_d E 63)), (4, .int x4)] [] mem := by
  rcases h mem (ue_sx E (x4 + 1).toNatClampNeg) hI with ⟨m1, r, m2, e1, e2, e3, e4, hI⟩ | ⟨m1, m2, b, e1, e2, e3, hI⟩
  · obtain ⟨m9, ih⟩ := ih m2 (ce + 1) (sl + 6) hI (by omega) (by omega)
    refine ⟨m9, ?_⟩
    refine ug_aload_n 1 dL_law__301 rfl rfl ?_
    refine ug_aload_n 0 dL_law__302 rfl rfl ?_
    refine ug_iload 4 dL_law__303 rfl ?_
    refine ug_iconst dL_law__305 un_iconst_1 ?_
    refine ug_iadd dL_law__306 ?_
    refine ug_sld (hin 1 (Nat.le_of_ble_eq_true rfl)) dL_law__307 ?_
    refine ug_aload_n 3 dL_law__308 rfl rfl ?_
    refine ug_callW [.ref (ue_d E 0), .int (ue_sx E (x4 + 1).toNatClampNeg), .ref (ue_d E 63)] (c_L_corner_r hx e1) kv_L_131 rfl (S := []) rfl (Nat.le_of_ble_eq_true rfl) (Nat.le_of_ble_eq_true rfl) (Nat.le_of_ble_eq_true rfl) ⟨by omega, by omega⟩ dL_law__309 ?_
    refine ug_istore [(5, .int 0), (0, .ref (ue_sb E)), (1, .ref (ue_d E 0)), (2, .ref (ue_d E 38)), (3, .ref (ue_d E 63)), (4, .int x4)] dL_law__312 (Nat.le_of_ble_eq_true rfl) rfl ?_
    refine ug_aload_n 3 dL_law__314 rfl rfl ?_
    refine ug_aload_n 1 dL_law__315 rfl rfl ?_
    refine ug_iload 5 dL_law__316 rfl ?_
    refine ug_iconst dL_law__318 un_iconst_1 ?_
    refine ug_iadd dL_law__319 ?_
    refine ug_sld (hin 1 (Nat.le_of_ble_eq_true rfl)) dL_law__320 ?_
    refine ug_callVL [.int r] [.int (ue_sx E (x4 + 1).toNatClampNeg)] (c_X8_corner e2) kc_L_136 ro_38 rfl (S := []) rfl rfl (Nat.le_of_ble_eq_true rfl) (Nat.le_of_ble_eq_true rfl) (Nat.le_of_ble_eq_true rfl) ⟨by omega, by omega⟩ dL_law__321 ?_
    refine ug_istore [(6, .int r), (5, .int 0), (0, .ref (ue_sb E)), (1, .ref (ue_d E 0)), (2, .ref (ue_d E 38)), (3, .ref (ue_d E 63)), (4, .int x4)] dL_law__324 (Nat.le_of_ble_eq_true rfl) rfl ?_
    refine ug_aload_n 4 dL_law__326 rfl rfl ?_
    refine ug_callVL [.int (m2 38 0)] [] (c_X8_thrown rfl) kc_L_137 ro_38 rfl (S := []) rfl rfl (Nat.le_of_ble_eq_true rfl) (Nat.le_of_ble_eq_true rfl) (Nat.le_of_ble_eq_true rfl) ⟨by omega, by omega⟩ dL_law__327 ?_
    refine ug_iload 1 dL_law__330 rfl ?_
    refine ug_icmp_eq 337 dL_law__332 (by decide) (fun _ => ?_) (fun q => absurd e3 q)
    refine ug_iload 1 dL_law__337 rfl ?_
    refine ug_if_ne 354 dL_law__339 (by decide) (fun q => absurd rfl q) (fun _ => ?_)
    refine ug_aload_n 5 dL_law__342 rfl rfl ?_
    refine ug_iconst dL_law__343 un_iconst_0 ?_
    refine ug_lald hx dL_law__344 ?_
    refine ug_iload 0 dL_law__345 rfl ?_
    refine ug_i2l dL_law__347 ?_
    refine ug_lcmp dL_law__348 ?_
    refine ug_if_eq 354 dL_law__349 (by decide) (fun _ => ?_) (fun q => absurd (ulaw_cmp e4) q)
    refine ug_goto 2807 dL_law__354 (by decide) ?_
    refine ug_iinc (v := (x4 + 9)) [(4, .int (x4 + 9)), (6, .int r), (5, .int 0), (0, .ref (ue_sb E)), (1, .ref (ue_d E 0)), (2, .ref (ue_d E 38)), (3, .ref (ue_d E 63))] 6 dL_law__2807 rfl rfl (Nat.le_of_ble_eq_true rfl) rfl ?_
    refine ug_goto 23 dL_law__2810 (by decide) ?_
    refine ug_sub [(0, .ref (ue_sb E)), (1, .ref (ue_d E 0)), (2, .ref (ue_d E 38)), (3, .ref (ue_d E 63)), (4, .int (x4 + 9))] [3, 4, 5, 6, 0] rfl ?_
    exact ih
  · obtain ⟨m9, ih⟩ := ih m2 (ce + 1) (sl + 6) hI (by omega) (by omega)
    refine ⟨m9, ?_⟩
    refine ug_aload_n 1 dL_law__301 rfl rfl ?_
    refine ug_aload_n 0 dL_law__302 rfl rfl ?_
    refine ug_iload 4 dL_law__303 rfl ?_
    refine ug_iconst dL_law__305 un_iconst_1 ?_
    refine ug_iadd dL_law__306 ?_
    refine ug_sld (hin 1 (Nat.le_of_ble_eq_true rfl)) dL_law__307 ?_
    refine ug_aload_n 3 dL_law__308 rfl rfl ?_
    refine ug_callW [.ref (ue_d E 0), .int (ue_sx E (x4 + 1).toNatClampNeg), .ref (ue_d E 63)] (c_L_corner_i e1) kv_L_131 rfl (S := []) rfl (Nat.le_of_ble_eq_true rfl) (Nat.le_of_ble_eq_true rfl) (Nat.le_of_ble_eq_true rfl) ⟨by omega, by omega⟩ dL_law__309 ?_
    refine ug_istore [(5, .int 1), (0, .ref (ue_sb E)), (1, .ref (ue_d E 0)), (2, .ref (ue_d E 38)), (3, .ref (ue_d E 63)), (4, .int x4)] dL_law__312 (Nat.le_of_ble_eq_true rfl) rfl ?_
    refine ug_aload_n 3 dL_law__314 rfl rfl ?_
    refine ug_aload_n 1 dL_law__315 rfl rfl ?_
    refine ug_iload 5 dL_law__316 rfl ?_
    refine ug_iconst dL_law__318 un_iconst_1 ?_
    refine ug_iadd dL_law__319 ?_
    refine ug_sld (hin 1 (Nat.le_of_ble_eq_true rfl)) dL_law__320 ?_
    refine ug_callVL [.int b] [.int (ue_sx E (x4 + 1).toNatClampNeg)] (c_X8_corner e2) kc_L_136 ro_38 rfl (S := []) rfl rfl (Nat.le_of_ble_eq_true rfl) (Nat.le_of_ble_eq_true rfl) (Nat.le_of_ble_eq_true rfl) ⟨by omega, by omega⟩ dL_law__321 ?_
    refine ug_istore [(6, .int b), (5, .int 1), (0, .ref (ue_sb E)), (1, .ref (ue_d E 0)), (2, .ref (ue_d E 38)), (3, .ref (ue_d E 63)), (4, .int x4)] dL_law__324 (Nat.le_of_ble_eq_true rfl) rfl ?_
    refine ug_aload_n 4 dL_law__326 rfl rfl ?_
    refine ug_callVL [.int (m2 38 0)] [] (c_X8_thrown rfl) kc_L_137 ro_38 rfl (S := []) rfl rfl (Nat.le_of_ble_eq_true rfl) (Nat.le_of_ble_eq_true rfl) (Nat.le_of_ble_eq_true rfl) ⟨by omega, by omega⟩ dL_law__327 ?_
    refine ug_iload 1 dL_law__330 rfl ?_
    refine ug_icmp_eq 337 dL_law__332 (by decide) (fun _ => ?_) (fun q => absurd e3 q)
    refine ug_iload 1 dL_law__337 rfl ?_
    refine ug_if_ne 354 dL_law__339 (by decide) (fun _ => ?_) (fun q => absurd q (by decide))
    refine ug_goto 2807 dL_law__354 (by decide) ?_
    refine ug_iinc (v := (x4 + 9)) [(4, .int (x4 + 9)), (6, .int b), (5, .int 1), (0, .ref (ue_sb E)), (1, .ref (ue_d E 0)), (2, .ref (ue_d E 38)), (3, .ref (ue_d E 63))] 6 dL_law__2807 rfl rfl (Nat.le_of_ble_eq_true rfl) rfl ?_
    refine ug_goto 23 dL_law__2810 (by decide) ?_
    refine ug_sub [(0, .ref (ue_sb E)), (1, .ref (ue_d E 0)), (2, .ref (ue_d E 38)), (3, .ref (ue_d E 63)), (4, .int (x4 + 9))] [3, 4, 5, 6, 0] rfl ?_
    exact ih
set_option maxRecDepth 20000 in
theorem law_law {l : Launch} {E : Ue} (hx : ue_x E = [.inr (3, 1)]) {I : Um → Prop} (h : uop_law I) {mc ms ce sl n : Nat} {x4 : Int32} (hin : ∀ q, q ≤ 8 → vp_in (x4 + nI q) (ue_sn E)) (ih : ∀ (m2 : Um) (ce sl : Nat), I m2 → ce + n ≤ mc → sl + 6 * n ≤ ms → ∃ m9, ug l E 2048 mc ms cL_law_ 8 RL (some .boolean) [] (.inl (some (.int 1), m9)) ce sl 23 [(0, .ref (ue_sb E)), (1, .ref (ue_d E 0)), (2, .ref (ue_d E 38)), (3, .ref (ue_d E 63)), (4, .int (x4 + 9))] [] m2) {mem : Um} (hI : I mem) (hc : ce + (n + 1) ≤ mc) (hs : sl + 6 * (n + 1) ≤ ms) : ∃ m9, ug l E 2048 mc ms cL_law_ 8 RL (some .boolean) [] (.inl (some (.int 1), m9)) ce sl 357 [(0, .ref (ue_sb E)), (1, .ref (ue_d E 0)), (2, .ref (ue_d E 38)), (3, .ref (ue_d E 63)), (4, .int x4)] [] mem := by
  rcases h mem (ue_sx E (x4 + 1).toNatClampNeg) hI with ⟨m1, r, m2, e1, e2, e3, e4, hI⟩ | ⟨m1, m2, b, e1, e2, e3, hI⟩
  · obtain ⟨m9, ih⟩ := ih m2 (ce + 1) (sl + 6) hI (by omega) (by omega)
    refine ⟨m9, ?_⟩
    refine ug_aload_n 1 dL_law__357 rfl rfl ?_
    refine ug_aload_n 0 dL_law__358 rfl rfl ?_
    refine ug_iload 4 dL_law__359 rfl ?_
    refine ug_iconst dL_law__361 un_iconst_1 ?_
    refine ug_iadd dL_law__362 ?_
    refine ug_sld (hin 1 (Nat.le_of_ble_eq_true rfl)) dL_law__363 ?_
    refine ug_aload_n 3 dL_law__364 rfl rfl ?_
    refine ug_callW [.ref (ue_d E 0), .int (ue_sx E (x4 + 1).toNatClampNeg), .ref (ue_d E 63)] (c_L_law_r hx e1) kv_L_141 rfl (S := []) rfl (Nat.le_of_ble_eq_true rfl) (Nat.le_of_ble_eq_true rfl) (Nat.le_of_ble_eq_true rfl) ⟨by omega, by omega⟩ dL_law__365 ?_
    refine ug_istore [(5, .int 0), (0, .ref (ue_sb E)), (1, .ref (ue_d E 0)), (2, .ref (ue_d E 38)), (3, .ref (ue_d E 63)), (4, .int x4)] dL_law__368 (Nat.le_of_ble_eq_true rfl) rfl ?_
    refine ug_aload_n 3 dL_law__370 rfl rfl ?_
    refine ug_aload_n 1 dL_law__371 rfl rfl ?_
    refine ug_iload 5 dL_law__372 rfl ?_
    refine ug_iconst dL_law__374 un_iconst_1 ?_
    refine ug_iadd dL_law__375 ?_
    refine ug_sld (hin 1 (Nat.le_of_ble_eq_true rfl)) dL_law__376 ?_
    refine ug_callVL [.int r] [.int (ue_sx E (x4 + 1).toNatClampNeg)] (c_X8_law e2) kc_L_143 ro_38 rfl (S := []) rfl rfl (Nat.le_of_ble_eq_true rfl) (Nat.le_of_ble_eq_true rfl) (Nat.le_of_ble_eq_true rfl) ⟨by omega, by omega⟩ dL_law__377 ?_
    refine ug_istore [(6, .int r), (5, .int 0), (0, .ref (ue_sb E)), (1, .ref (ue_d E 0)), (2, .ref (ue_d E 38)), (3, .ref (ue_d E 63)), (4, .int x4)] dL_law__380 (Nat.le_of_ble_eq_true rfl) rfl ?_
    refine ug_aload_n 4 dL_law__382 rfl rfl ?_
    refine ug_callVL [.int (m2 38 0)] [] (c_X8_thrown rfl) kc_L_137 ro_38 rfl (S := []) rfl rfl (Nat.le_of_ble_eq_true rfl) (Nat.le_of_ble_eq_true rfl) (Nat.le_of_ble_eq_true rfl) ⟨by omega, by omega⟩ dL_law__383 ?_
    refine ug_iload 1 dL_law__386 rfl ?_
    refine ug_icmp_eq 393 dL_law__388 (by decide) (fun _ => ?_) (fun q => absurd e3 q)
    refine ug_iload 1 dL_law__393 rfl ?_
    refine ug_if_ne 410 dL_law__395 (by decide) (fun q => absurd rfl q) (fun _ => ?_)
    refine ug_aload_n 5 dL_law__398 rfl rfl ?_
    refine ug_iconst dL_law__399 un_iconst_0 ?_
    refine ug_lald hx dL_law__400 ?_
    refine ug_iload 0 dL_law__401 rfl ?_
    refine ug_i2l dL_law__403 ?_
    refine ug_lcmp dL_law__404 ?_
    refine ug_if_eq 410 dL_law__405 (by decide) (fun _ => ?_) (fun q => absurd (ulaw_cmp e4) q)
    refine ug_goto 2807 dL_law__410 (by decide) ?_
    refine ug_iinc (v := (x4 + 9)) [(4, .int (x4 + 9)), (6, .int r), (5, .int 0), (0, .ref (ue_sb E)), (1, .ref (ue_d E 0)), (2, .ref (ue_d E 38)), (3, .ref (ue_d E 63))] 6 dL_law__2807 rfl rfl (Nat.le_of_ble_eq_true rfl) rfl ?_
    refine ug_goto 23 dL_law__2810 (by decide) ?_
    refine ug_sub [(0, .ref (ue_sb E)), (1, .ref (ue_d E 0)), (2, .ref (ue_d E 38)), (3, .ref (ue_d E 63)), (4, .int (x4 + 9))] [3, 4, 5, 6, 0] rfl ?_
    exact ih
  · obtain ⟨m9, ih⟩ := ih m2 (ce + 1) (sl + 6) hI (by omega) (by omega)
    refine ⟨m9, ?_⟩
    refine ug_aload_n 1 dL_law__357 rfl rfl ?_
    refine ug_aload_n 0 dL_law__358 rfl rfl ?_
    refine ug_iload 4 dL_law__359 rfl ?_
    refine ug_iconst dL_law__361 un_iconst_1 ?_
    refine ug_iadd dL_law__362 ?_
    refine ug_sld (hin 1 (Nat.le_of_ble_eq_true rfl)) dL_law__363 ?_
    refine ug_aload_n 3 dL_law__364 rfl rfl ?_
    refine ug_callW [.ref (ue_d E 0), .int (ue_sx E (x4 + 1).toNatClampNeg), .ref (ue_d E 63)] (c_L_law_i e1) kv_L_141 rfl (S := []) rfl (Nat.le_of_ble_eq_true rfl) (Nat.le_of_ble_eq_true rfl) (Nat.le_of_ble_eq_true rfl) ⟨by omega, by omega⟩ dL_law__365 ?_
    refine ug_istore [(5, .int 1), (0, .ref (ue_sb E)), (1, .ref (ue_d E 0)), (2, .ref (ue_d E 38)), (3, .ref (ue_d E 63)), (4, .int x4)] dL_law__368 (Nat.le_of_ble_eq_true rfl) rfl ?_
    refine ug_aload_n 3 dL_law__370 rfl rfl ?_
    refine ug_aload_n 1 dL_law__371 rfl rfl ?_
    refine ug_iload 5 dL_law__372 rfl ?_
    refine ug_iconst dL_law__374 un_iconst_1 ?_
    refine ug_iadd dL_law__375 ?_
    refine ug_sld (hin 1 (Nat.le_of_ble_eq_true rfl)) dL_law__376 ?_
    refine ug_callVL [.int b] [.int (ue_sx E (x4 + 1).toNatClampNeg)] (c_X8_law e2) kc_L_143 ro_38 rfl (S := []) rfl rfl (Nat.le_of_ble_eq_true rfl) (Nat.le_of_ble_eq_true rfl) (Nat.le_of_ble_eq_true rfl) ⟨by omega, by omega⟩ dL_law__377 ?_
    refine ug_istore [(6, .int b), (5, .int 1), (0, .ref (ue_sb E)), (1, .ref (ue_d E 0)), (2, .ref (ue_d E 38)), (3, .ref (ue_d E 63)), (4, .int x4)] dL_law__380 (Nat.le_of_ble_eq_true rfl) rfl ?_
    refine ug_aload_n 4 dL_law__382 rfl rfl ?_
    refine ug_callVL [.int (m2 38 0)] [] (c_X8_thrown rfl) kc_L_137 ro_38 rfl (S := []) rfl rfl (Nat.le_of_ble_eq_true rfl) (Nat.le_of_ble_eq_true rfl) (Nat.le_of_ble_eq_true rfl) ⟨by omega, by omega⟩ dL_law__383 ?_
    refine ug_iload 1 dL_law__386 rfl ?_
    refine ug_icmp_eq 393 dL_law__388 (by decide) (fun _ => ?_) (fun q => absurd e3 q)
    refine ug_iload 1 dL_law__393 rfl ?_
    refine ug_if_ne 410 dL_law__395 (by decide) (fun _ => ?_) (fun q => absurd q (by decide))
    refine ug_goto 2807 dL_law__410 (by decide) ?_
    refine ug_iinc (v := (x4 + 9)) [(4, .int (x4 + 9)), (6, .int b), (5, .int 1), (0, .ref (ue_sb E)), (1, .ref (ue_d E 0)), (2, .ref (ue_d E 38)), (3, .ref (ue_d E 63))] 6 dL_law__2807 rfl rfl (Nat.le_of_ble_eq_true rfl) rfl ?_
    refine ug_goto 23 dL_law__2810 (by decide) ?_
    refine ug_sub [(0, .ref (ue_sb E)), (1, .ref (ue_d E 0)), (2, .ref (ue_d E 38)), (3, .ref (ue_d E 63)), (4, .int (x4 + 9))] [3, 4, 5, 6, 0] rfl ?_
    exact ih
set_option maxRecDepth 20000 in
theorem law_work {l : Launch} {E : Ue} (hx : ue_x E = [.inr (3, 1)]) {I : Um → Prop} (h : uop_work I) {mc ms ce sl n : Nat} {x4 : Int32} (hin : ∀ q, q ≤ 8 → vp_in (x4 + nI q) (ue_sn E)) (ih : ∀ (m2 : Um) (ce sl : Nat), I m2 → ce + n ≤ mc → sl + 6 * n ≤ ms → ∃ m9, ug l E 2048 mc ms cL_law_ 8 RL (some .boolean) [] (.inl (some (.int 1), m9)) ce sl 23 [(0, .ref (ue_sb E)), (1, .ref (ue_d E 0)), (2, .ref (ue_d E 38)), (3, .ref (ue_d E 63)), (4, .int (x4 + 9))] [] m2) {mem : Um} (hI : I mem) (hc : ce + (n + 1) ≤ mc) (hs : sl + 6 * (n + 1) ≤ ms) : ∃ m9, ug l E 2048 mc ms cL_law_ 8 RL (some .boolean) [] (.inl (some (.int 1), m9)) ce sl 413 [(0, .ref (ue_sb E)), (1, .ref (ue_d E 0)), (2, .ref (ue_d E 38)), (3, .ref (ue_d E 63)), (4, .int x4)] [] mem := by
  rcases h mem (ue_sx E (x4 + 1).toNatClampNeg) hI with ⟨m1, r, m2, e1, e2, e3, e4, hI⟩ | ⟨m1, m2, b, e1, e2, e3, hI⟩
  · obtain ⟨m9, ih⟩ := ih m2 (ce + 1) (sl + 6) hI (by omega) (by omega)
    refine ⟨m9, ?_⟩
    refine ug_aload_n 1 dL_law__413 rfl rfl ?_
    refine ug_aload_n 0 dL_law__414 rfl rfl ?_
    refine ug_iload 4 dL_law__415 rfl ?_
    refine ug_iconst dL_law__417 un_iconst_1 ?_
    refine ug_iadd dL_law__418 ?_
    refine ug_sld (hin 1 (Nat.le_of_ble_eq_true rfl)) dL_law__419 ?_
    refine ug_aload_n 3 dL_law__420 rfl rfl ?_
    refine ug_callW [.ref (ue_d E 0), .int (ue_sx E (x4 + 1).toNatClampNeg), .ref (ue_d E 63)] (c_L_work_r hx e1) kv_L_144 rfl (S := []) rfl (Nat.le_of_ble_eq_true rfl) (Nat.le_of_ble_eq_true rfl) (Nat.le_of_ble_eq_true rfl) ⟨by omega, by omega⟩ dL_law__421 ?_
    refine ug_istore [(5, .int 0), (0, .ref (ue_sb E)), (1, .ref (ue_d E 0)), (2, .ref (ue_d E 38)), (3, .ref (ue_d E 63)), (4, .int x4)] dL_law__424 (Nat.le_of_ble_eq_true rfl) rfl ?_
    refine ug_aload_n 3 dL_law__426 rfl rfl ?_
    refine ug_aload_n 1 dL_law__427 rfl rfl ?_
    refine ug_iload 5 dL_law__428 rfl ?_
    refine ug_iconst dL_law__430 un_iconst_1 ?_
    refine ug_iadd dL_law__431 ?_
    refine ug_sld (hin 1 (Nat.le_of_ble_eq_true rfl)) dL_law__432 ?_
    refine ug_callVL [.int r] [.int (ue_sx E (x4 + 1).toNatClampNeg)] (c_X8_work e2) kc_L_146 ro_38 rfl (S := []) rfl rfl (Nat.le_of_ble_eq_true rfl) (Nat.le_of_ble_eq_true rfl) (Nat.le_of_ble_eq_true rfl) ⟨by omega, by omega⟩ dL_law__433 ?_
    refine ug_istore [(6, .int r), (5, .int 0), (0, .ref (ue_sb E)), (1, .ref (ue_d E 0)), (2, .ref (ue_d E 38)), (3, .ref (ue_d E 63)), (4, .int x4)] dL_law__436 (Nat.le_of_ble_eq_true rfl) rfl ?_
    refine ug_aload_n 4 dL_law__438 rfl rfl ?_
    refine ug_callVL [.int (m2 38 0)] [] (c_X8_thrown rfl) kc_L_137 ro_38 rfl (S := []) rfl rfl (Nat.le_of_ble_eq_true rfl) (Nat.le_of_ble_eq_true rfl) (Nat.le_of_ble_eq_true rfl) ⟨by omega, by omega⟩ dL_law__439 ?_
    refine ug_iload 1 dL_law__442 rfl ?_
    refine ug_icmp_eq 449 dL_law__444 (by decide) (fun _ => ?_) (fun q => absurd e3 q)
    refine ug_iload 1 dL_law__449 rfl ?_
    refine ug_if_ne 466 dL_law__451 (by decide) (fun q => absurd rfl q) (fun _ => ?_)
    refine ug_aload_n 5 dL_law__454 rfl rfl ?_
    refine ug_iconst dL_law__455 un_iconst_0 ?_
    refine ug_lald hx dL_law__456 ?_
    refine ug_iload 0 dL_law__457 rfl ?_
    refine ug_i2l dL_law__459 ?_
    refine ug_lcmp dL_law__460 ?_
    refine ug_if_eq 466 dL_law__461 (by decide) (fun _ => ?_) (fun q => absurd (ulaw_cmp e4) q)
    refine ug_goto 2807 dL_law__466 (by decide) ?_
    refine ug_iinc (v := (x4 + 9)) [(4, .int (x4 + 9)), (6, .int r), (5, .int 0), (0, .ref (ue_sb E)), (1, .ref (ue_d E 0)), (2, .ref (ue_d E 38)), (3, .ref (ue_d E 63))] 6 dL_law__2807 rfl rfl (Nat.le_of_ble_eq_true rfl) rfl ?_
    refine ug_goto 23 dL_law__2810 (by decide) ?_
    refine ug_sub [(0, .ref (ue_sb E)), (1, .ref (ue_d E 0)), (2, .ref (ue_d E 38)), (3, .ref (ue_d E 63)), (4, .int (x4 + 9))] [3, 4, 5, 6, 0] rfl ?_
    exact ih
  · obtain ⟨m9, ih⟩ := ih m2 (ce + 1) (sl + 6) hI (by omega) (by omega)
    refine ⟨m9, ?_⟩
    refine ug_aload_n 1 dL_law__413 rfl rfl ?_
    refine ug_aload_n 0 dL_law__414 rfl rfl ?_
    refine ug_iload 4 dL_law__415 rfl ?_
    refine ug_iconst dL_law__417 un_iconst_1 ?_
    refine ug_iadd dL_law__418 ?_
    refine ug_sld (hin 1 (Nat.le_of_ble_eq_true rfl)) dL_law__419 ?_
    refine ug_aload_n 3 dL_law__420 rfl rfl ?_
    refine ug_callW [.ref (ue_d E 0), .int (ue_sx E (x4 + 1).toNatClampNeg), .ref (ue_d E 63)] (c_L_work_i e1) kv_L_144 rfl (S := []) rfl (Nat.le_of_ble_eq_true rfl) (Nat.le_of_ble_eq_true rfl) (Nat.le_of_ble_eq_true rfl) ⟨by omega, by omega⟩ dL_law__421 ?_
    refine ug_istore [(5, .int 1), (0, .ref (ue_sb E)), (1, .ref (ue_d E 0)), (2, .ref (ue_d E 38)), (3, .ref (ue_d E 63)), (4, .int x4)] dL_law__424 (Nat.le_of_ble_eq_true rfl) rfl ?_
    refine ug_aload_n 3 dL_law__426 rfl rfl ?_
    refine ug_aload_n 1 dL_law__427 rfl rfl ?_
    refine ug_iload 5 dL_law__428 rfl ?_
    refine ug_iconst dL_law__430 un_iconst_1 ?_
    refine ug_iadd dL_law__431 ?_
    refine ug_sld (hin 1 (Nat.le_of_ble_eq_true rfl)) dL_law__432 ?_
    refine ug_callVL [.int b] [.int (ue_sx E (x4 + 1).toNatClampNeg)] (c_X8_work e2) kc_L_146 ro_38 rfl (S := []) rfl rfl (Nat.le_of_ble_eq_true rfl) (Nat.le_of_ble_eq_true rfl) (Nat.le_of_ble_eq_true rfl) ⟨by omega, by omega⟩ dL_law__433 ?_
    refine ug_istore [(6, .int b), (5, .int 1), (0, .ref (ue_sb E)), (1, .ref (ue_d E 0)), (2, .ref (ue_d E 38)), (3, .ref (ue_d E 63)), (4, .int x4)] dL_law__436 (Nat.le_of_ble_eq_true rfl) rfl ?_
    refine ug_aload_n 4 dL_law__438 rfl rfl ?_
    refine ug_callVL [.int (m2 38 0)] [] (c_X8_thrown rfl) kc_L_137 ro_38 rfl (S := []) rfl rfl (Nat.le_of_ble_eq_true rfl) (Nat.le_of_ble_eq_true rfl) (Nat.le_of_ble_eq_true rfl) ⟨by omega, by omega⟩ dL_law__439 ?_
    refine ug_iload 1 dL_law__442 rfl ?_
    refine ug_icmp_eq 449 dL_law__444 (by decide) (fun _ => ?_) (fun q => absurd e3 q)
    refine ug_iload 1 dL_law__449 rfl ?_
    refine ug_if_ne 466 dL_law__451 (by decide) (fun _ => ?_) (fun q => absurd q (by decide))
    refine ug_goto 2807 dL_law__466 (by decide) ?_
    refine ug_iinc (v := (x4 + 9)) [(4, .int (x4 + 9)), (6, .int b), (5, .int 1), (0, .ref (ue_sb E)), (1, .ref (ue_d E 0)), (2, .ref (ue_d E 38)), (3, .ref (ue_d E 63))] 6 dL_law__2807 rfl rfl (Nat.le_of_ble_eq_true rfl) rfl ?_
    refine ug_goto 23 dL_law__2810 (by decide) ?_
    refine ug_sub [(0, .ref (ue_sb E)), (1, .ref (ue_d E 0)), (2, .ref (ue_d E 38)), (3, .ref (ue_d E 63)), (4, .int (x4 + 9))] [3, 4, 5, 6, 0] rfl ?_
    exact ih
set_option maxRecDepth 20000 in
theorem law_book {l : Launch} {E : Ue} (hx : ue_x E = [.inr (3, 1)]) {I : Um → Prop} (h : uop_book I) {mc ms ce sl n : Nat} {x4 : Int32} (hin : ∀ q, q ≤ 8 → vp_in (x4 + nI q) (ue_sn E)) (ih : ∀ (m2 : Um) (ce sl : Nat), I m2 → ce + n ≤ mc → sl + 6 * n ≤ ms → ∃ m9, ug l E 2048 mc ms cL_law_ 8 RL (some .boolean) [] (.inl (some (.int 1), m9)) ce sl 23 [(0, .ref (ue_sb E)), (1, .ref (ue_d E 0)), (2, .ref (ue_d E 38)), (3, .ref (ue_d E 63)), (4, .int (x4 + 9))] [] m2) {mem : Um} (hI : I mem) (hc : ce + (n + 1) ≤ mc) (hs : sl + 6 * (n + 1) ≤ ms) : ∃ m9, ug l E 2048 mc ms cL_law_ 8 RL (some .boolean) [] (.inl (some (.int 1), m9)) ce sl 469 [(0, .ref (ue_sb E)), (1, .ref (ue_d E 0)), (2, .ref (ue_d E 38)), (3, .ref (ue_d E 63)), (4, .int x4)] [] mem := by
  rcases h mem (ue_sx E (x4 + 1).toNatClampNeg) hI with ⟨m1, r, m2, e1, e2, e3, e4, hI⟩ | ⟨m1, m2, b, e1, e2, e3, hI⟩
  · obtain ⟨m9, ih⟩ := ih m2 (ce + 1) (sl + 6) hI (by omega) (by omega)
    refine ⟨m9, ?_⟩
    refine ug_aload_n 1 dL_law__469 rfl rfl ?_
    refine ug_aload_n 0 dL_law__470 rfl rfl ?_
    refine ug_iload 4 dL_law__471 rfl ?_
    refine ug_iconst dL_law__473 un_iconst_1 ?_
    refine ug_iadd dL_law__474 ?_
    refine ug_sld (hin 1 (Nat.le_of_ble_eq_true rfl)) dL_law__475 ?_
    refine ug_aload_n 3 dL_law__476 rfl rfl ?_
    refine ug_callW [.ref (ue_d E 0), .int (ue_sx E (x4 + 1).toNatClampNeg), .ref (ue_d E 63)] (c_L_book_r hx e1) kv_L_147 rfl (S := []) rfl (Nat.le_of_ble_eq_true rfl) (Nat.le_of_ble_eq_true rfl) (Nat.le_of_ble_eq_true rfl) ⟨by omega, by omega⟩ dL_law__477 ?_
    refine ug_istore [(5, .int 0), (0, .ref (ue_sb E)), (1, .ref (ue_d E 0)), (2, .ref (ue_d E 38)), (3, .ref (ue_d E 63)), (4, .int x4)] dL_law__480 (Nat.le_of_ble_eq_true rfl) rfl ?_
    refine ug_aload_n 3 dL_law__482 rfl rfl ?_
    refine ug_aload_n 1 dL_law__483 rfl rfl ?_
    refine ug_iload 5 dL_law__484 rfl ?_
    refine ug_iconst dL_law__486 un_iconst_1 ?_
    refine ug_iadd dL_law__487 ?_
    refine ug_sld (hin 1 (Nat.le_of_ble_eq_true rfl)) dL_law__488 ?_
    refine ug_callVL [.int r] [.int (ue_sx E (x4 + 1).toNatClampNeg)] (c_X8_book e2) kc_L_149 ro_38 rfl (S := []) rfl rfl (Nat.le_of_ble_eq_true rfl) (Nat.le_of_ble_eq_true rfl) (Nat.le_of_ble_eq_true rfl) ⟨by omega, by omega⟩ dL_law__489 ?_
    refine ug_istore [(6, .int r), (5, .int 0), (0, .ref (ue_sb E)), (1, .ref (ue_d E 0)), (2, .ref (ue_d E 38)), (3, .ref (ue_d E 63)), (4, .int x4)] dL_law__492 (Nat.le_of_ble_eq_true rfl) rfl ?_
    refine ug_aload_n 4 dL_law__494 rfl rfl ?_
    refine ug_callVL [.int (m2 38 0)] [] (c_X8_thrown rfl) kc_L_137 ro_38 rfl (S := []) rfl rfl (Nat.le_of_ble_eq_true rfl) (Nat.le_of_ble_eq_true rfl) (Nat.le_of_ble_eq_true rfl) ⟨by omega, by omega⟩ dL_law__495 ?_
    refine ug_iload 1 dL_law__498 rfl ?_
    refine ug_icmp_eq 505 dL_law__500 (by decide) (fun _ => ?_) (fun q => absurd e3 q)
    refine ug_iload 1 dL_law__505 rfl ?_
    refine ug_if_ne 522 dL_law__507 (by decide) (fun q => absurd rfl q) (fun _ => ?_)
    refine ug_aload_n 5 dL_law__510 rfl rfl ?_
    refine ug_iconst dL_law__511 un_iconst_0 ?_
    refine ug_lald hx dL_law__512 ?_
    refine ug_iload 0 dL_law__513 rfl ?_
    refine ug_i2l dL_law__515 ?_
    refine ug_lcmp dL_law__516 ?_
    refine ug_if_eq 522 dL_law__517 (by decide) (fun _ => ?_) (fun q => absurd (ulaw_cmp e4) q)
    refine ug_goto 2807 dL_law__522 (by decide) ?_
    refine ug_iinc (v := (x4 + 9)) [(4, .int (x4 + 9)), (6, .int r), (5, .int 0), (0, .ref (ue_sb E)), (1, .ref (ue_d E 0)), (2, .ref (ue_d E 38)), (3, .ref (ue_d E 63))] 6 dL_law__2807 rfl rfl (Nat.le_of_ble_eq_true rfl) rfl ?_
    refine ug_goto 23 dL_law__2810 (by decide) ?_
    refine ug_sub [(0, .ref (ue_sb E)), (1, .ref (ue_d E 0)), (2, .ref (ue_d E 38)), (3, .ref (ue_d E 63)), (4, .int (x4 + 9))] [3, 4, 5, 6, 0] rfl ?_
    exact ih
  · obtain ⟨m9, ih⟩ := ih m2 (ce + 1) (sl + 6) hI (by omega) (by omega)
    refine ⟨m9, ?_⟩
    refine ug_aload_n 1 dL_law__469 rfl rfl ?_
    refine ug_aload_n 0 dL_law__470 rfl rfl ?_
    refine ug_iload 4 dL_law__471 rfl ?_
    refine ug_iconst dL_law__473 un_iconst_1 ?_
    refine ug_iadd dL_law__474 ?_
    refine ug_sld (hin 1 (Nat.le_of_ble_eq_true rfl)) dL_law__475 ?_
    refine ug_aload_n 3 dL_law__476 rfl rfl ?_
    refine ug_callW [.ref (ue_d E 0), .int (ue_sx E (x4 + 1).toNatClampNeg), .ref (ue_d E 63)] (c_L_book_i e1) kv_L_147 rfl (S := []) rfl (Nat.le_of_ble_eq_true rfl) (Nat.le_of_ble_eq_true rfl) (Nat.le_of_ble_eq_true rfl) ⟨by omega, by omega⟩ dL_law__477 ?_
    refine ug_istore [(5, .int 1), (0, .ref (ue_sb E)), (1, .ref (ue_d E 0)), (2, .ref (ue_d E 38)), (3, .ref (ue_d E 63)), (4, .int x4)] dL_law__480 (Nat.le_of_ble_eq_true rfl) rfl ?_
    refine ug_aload_n 3 dL_law__482 rfl rfl ?_
    refine ug_aload_n 1 dL_law__483 rfl rfl ?_
    refine ug_iload 5 dL_law__484 rfl ?_
    refine ug_iconst dL_law__486 un_iconst_1 ?_
    refine ug_iadd dL_law__487 ?_
    refine ug_sld (hin 1 (Nat.le_of_ble_eq_true rfl)) dL_law__488 ?_
    refine ug_callVL [.int b] [.int (ue_sx E (x4 + 1).toNatClampNeg)] (c_X8_book e2) kc_L_149 ro_38 rfl (S := []) rfl rfl (Nat.le_of_ble_eq_true rfl) (Nat.le_of_ble_eq_true rfl) (Nat.le_of_ble_eq_true rfl) ⟨by omega, by omega⟩ dL_law__489 ?_
    refine ug_istore [(6, .int b), (5, .int 1), (0, .ref (ue_sb E)), (1, .ref (ue_d E 0)), (2, .ref (ue_d E 38)), (3, .ref (ue_d E 63)), (4, .int x4)] dL_law__492 (Nat.le_of_ble_eq_true rfl) rfl ?_
    refine ug_aload_n 4 dL_law__494 rfl rfl ?_
    refine ug_callVL [.int (m2 38 0)] [] (c_X8_thrown rfl) kc_L_137 ro_38 rfl (S := []) rfl rfl (Nat.le_of_ble_eq_true rfl) (Nat.le_of_ble_eq_true rfl) (Nat.le_of_ble_eq_true rfl) ⟨by omega, by omega⟩ dL_law__495 ?_
    refine ug_iload 1 dL_law__498 rfl ?_
    refine ug_icmp_eq 505 dL_law__500 (by decide) (fun _ => ?_) (fun q => absurd e3 q)
    refine ug_iload 1 dL_law__505 rfl ?_
    refine ug_if_ne 522 dL_law__507 (by decide) (fun _ => ?_) (fun q => absurd q (by decide))
    refine ug_goto 2807 dL_law__522 (by decide) ?_
    refine ug_iinc (v := (x4 + 9)) [(4, .int (x4 + 9)), (6, .int b), (5, .int 1), (0, .ref (ue_sb E)), (1, .ref (ue_d E 0)), (2, .ref (ue_d E 38)), (3, .ref (ue_d E 63))] 6 dL_law__2807 rfl rfl (Nat.le_of_ble_eq_true rfl) rfl ?_
    refine ug_goto 23 dL_law__2810 (by decide) ?_
    refine ug_sub [(0, .ref (ue_sb E)), (1, .ref (ue_d E 0)), (2, .ref (ue_d E 38)), (3, .ref (ue_d E 63)), (4, .int (x4 + 9))] [3, 4, 5, 6, 0] rfl ?_
    exact ih
set_option maxRecDepth 20000 in
theorem law_fault {l : Launch} {E : Ue} (hx : ue_x E = [.inr (3, 1)]) {I : Um → Prop} (h : uop_fault I) {mc ms ce sl n : Nat} {x4 : Int32} (hin : ∀ q, q ≤ 8 → vp_in (x4 + nI q) (ue_sn E)) (ih : ∀ (m2 : Um) (ce sl : Nat), I m2 → ce + n ≤ mc → sl + 6 * n ≤ ms → ∃ m9, ug l E 2048 mc ms cL_law_ 8 RL (some .boolean) [] (.inl (some (.int 1), m9)) ce sl 23 [(0, .ref (ue_sb E)), (1, .ref (ue_d E 0)), (2, .ref (ue_d E 38)), (3, .ref (ue_d E 63)), (4, .int (x4 + 9))] [] m2) {mem : Um} (hI : I mem) (hc : ce + (n + 1) ≤ mc) (hs : sl + 6 * (n + 1) ≤ ms) : ∃ m9, ug l E 2048 mc ms cL_law_ 8 RL (some .boolean) [] (.inl (some (.int 1), m9)) ce sl 525 [(0, .ref (ue_sb E)), (1, .ref (ue_d E 0)), (2, .ref (ue_d E 38)), (3, .ref (ue_d E 63)), (4, .int x4)] [] mem := by
  obtain ⟨m1, r, m2, e1, e2, hI⟩ := h mem  hI
  obtain ⟨m9, ih⟩ := ih m2 ce sl hI (by omega) (by omega)
  refine ⟨m9, ?_⟩
  refine ug_aload_n 1 dL_law__525 rfl rfl ?_
  refine ug_callVL [.int r] [] (c_X7_fault e1) kc_L_150 ro_0 rfl (S := []) rfl rfl (Nat.le_of_ble_eq_true rfl) (Nat.le_of_ble_eq_true rfl) (Nat.le_of_ble_eq_true rfl) ⟨by omega, by omega⟩ dL_law__526 ?_
  refine ug_aload_n 2 dL_law__529 rfl rfl ?_
  refine ug_callVL [.int r, .int r] [] (c_X8_fault e2) kc_L_153 ro_38 rfl (S := [.int r]) rfl rfl (Nat.le_of_ble_eq_true rfl) (Nat.le_of_ble_eq_true rfl) (Nat.le_of_ble_eq_true rfl) ⟨by omega, by omega⟩ dL_law__530 ?_
  refine ug_icmp_eq 2807 dL_law__533 (by decide) (fun _ => ?_) (fun q => absurd rfl q)
  refine ug_iinc (v := (x4 + 9)) [(4, .int (x4 + 9)), (0, .ref (ue_sb E)), (1, .ref (ue_d E 0)), (2, .ref (ue_d E 38)), (3, .ref (ue_d E 63))] 4 dL_law__2807 rfl rfl (Nat.le_of_ble_eq_true rfl) rfl ?_
  refine ug_goto 23 dL_law__2810 (by decide) ?_
  refine ug_sub [(0, .ref (ue_sb E)), (1, .ref (ue_d E 0)), (2, .ref (ue_d E 38)), (3, .ref (ue_d E 63)), (4, .int (x4 + 9))] [1, 2, 3, 4, 0] rfl ?_
  exact ih
set_option maxRecDepth 20000 in
theorem law_undo {l : Launch} {E : Ue} (hx : ue_x E = [.inr (3, 1)]) {I : Um → Prop} (h : uop_undo I) {mc ms ce sl n : Nat} {x4 : Int32} (hin : ∀ q, q ≤ 8 → vp_in (x4 + nI q) (ue_sn E)) (ih : ∀ (m2 : Um) (ce sl : Nat), I m2 → ce + n ≤ mc → sl + 6 * n ≤ ms → ∃ m9, ug l E 2048 mc ms cL_law_ 8 RL (some .boolean) [] (.inl (some (.int 1), m9)) ce sl 23 [(0, .ref (ue_sb E)), (1, .ref (ue_d E 0)), (2, .ref (ue_d E 38)), (3, .ref (ue_d E 63)), (4, .int (x4 + 9))] [] m2) {mem : Um} (hI : I mem) (hc : ce + (n + 1) ≤ mc) (hs : sl + 6 * (n + 1) ≤ ms) : ∃ m9, ug l E 2048 mc ms cL_law_ 8 RL (some .boolean) [] (.inl (some (.int 1), m9)) ce sl 538 [(0, .ref (ue_sb E)), (1, .ref (ue_d E 0)), (2, .ref (ue_d E 38)), (3, .ref (ue_d E 63)), (4, .int x4)] [] mem := by
  obtain ⟨m1, r, m2, e1, e2, hI⟩ := h mem  hI
  obtain ⟨m9, ih⟩ := ih m2 ce sl hI (by omega) (by omega)
  refine ⟨m9, ?_⟩
  refine ug_aload_n 1 dL_law__538 rfl rfl ?_
  refine ug_callVL [.int r] [] (c_X7_undo e1) kc_L_154 ro_0 rfl (S := []) rfl rfl (Nat.le_of_ble_eq_true rfl) (Nat.le_of_ble_eq_true rfl) (Nat.le_of_ble_eq_true rfl) ⟨by omega, by omega⟩ dL_law__539 ?_
  refine ug_aload_n 2 dL_law__542 rfl rfl ?_
  refine ug_callVL [.int r, .int r] [] (c_X8_undo e2) kc_L_157 ro_38 rfl (S := [.int r]) rfl rfl (Nat.le_of_ble_eq_true rfl) (Nat.le_of_ble_eq_true rfl) (Nat.le_of_ble_eq_true rfl) ⟨by omega, by omega⟩ dL_law__543 ?_
  refine ug_icmp_eq 2807 dL_law__546 (by decide) (fun _ => ?_) (fun q => absurd rfl q)
  refine ug_iinc (v := (x4 + 9)) [(4, .int (x4 + 9)), (0, .ref (ue_sb E)), (1, .ref (ue_d E 0)), (2, .ref (ue_d E 38)), (3, .ref (ue_d E 63))] 4 dL_law__2807 rfl rfl (Nat.le_of_ble_eq_true rfl) rfl ?_
  refine ug_goto 23 dL_law__2810 (by decide) ?_
  refine ug_sub [(0, .ref (ue_sb E)), (1, .ref (ue_d E 0)), (2, .ref (ue_d E 38)), (3, .ref (ue_d E 63)), (4, .int (x4 + 9))] [1, 2, 3, 4, 0] rfl ?_
  exact ih
set_option maxRecDepth 20000 in
theorem law_told {l : Launch} {E : Ue} (hx : ue_x E = [.inr (3, 1)]) {I : Um → Prop} (h : uop_told I) {mc ms ce sl n : Nat} {x4 : Int32} (hin : ∀ q, q ≤ 8 → vp_in (x4 + nI q) (ue_sn E)) (ih : ∀ (m2 : Um) (ce sl : Nat), I m2 → ce + n ≤ mc → sl + 6 * n ≤ ms → ∃ m9, ug l E 2048 mc ms cL_law_ 8 RL (some .boolean) [] (.inl (some (.int 1), m9)) ce sl 23 [(0, .ref (ue_sb E)), (1, .ref (ue_d E 0)), (2, .ref (ue_d E 38)), (3, .ref (ue_d E 63)), (4, .int (x4 + 9))] [] m2) {mem : Um} (hI : I mem) (hc : ce + (n + 1) ≤ mc) (hs : sl + 6 * (n + 1) ≤ ms) : ∃ m9, ug l E 2048 mc ms cL_law_ 8 RL (some .boolean) [] (.inl (some (.int 1), m9)) ce sl 551 [(0, .ref (ue_sb E)), (1, .ref (ue_d E 0)), (2, .ref (ue_d E 38)), (3, .ref (ue_d E 63)), (4, .int x4)] [] mem := by
  rcases h mem (ue_sx E (x4 + 1).toNatClampNeg) hI with ⟨m1, r, m2, e1, e2, e3, e4, hI⟩ | ⟨m1, m2, b, e1, e2, e3, hI⟩
  · obtain ⟨m9, ih⟩ := ih m2 (ce + 1) (sl + 6) hI (by omega) (by omega)
    refine ⟨m9, ?_⟩
    refine ug_aload_n 1 dL_law__551 rfl rfl ?_
    refine ug_aload_n 0 dL_law__552 rfl rfl ?_
    refine ug_iload 4 dL_law__553 rfl ?_
    refine ug_iconst dL_law__555 un_iconst_1 ?_
    refine ug_iadd dL_law__556 ?_
    refine ug_sld (hin 1 (Nat.le_of_ble_eq_true rfl)) dL_law__557 ?_
    refine ug_aload_n 3 dL_law__558 rfl rfl ?_
    refine ug_callW [.ref (ue_d E 0), .int (ue_sx E (x4 + 1).toNatClampNeg), .ref (ue_d E 63)] (c_L_told_r hx e1) kv_L_158 rfl (S := []) rfl (Nat.le_of_ble_eq_true rfl) (Nat.le_of_ble_eq_true rfl) (Nat.le_of_ble_eq_true rfl) ⟨by omega, by omega⟩ dL_law__559 ?_
    refine ug_istore [(5, .int 0), (0, .ref (ue_sb E)), (1, .ref (ue_d E 0)), (2, .ref (ue_d E 38)), (3, .ref (ue_d E 63)), (4, .int x4)] dL_law__562 (Nat.le_of_ble_eq_true rfl) rfl ?_
    refine ug_aload_n 3 dL_law__564 rfl rfl ?_
    refine ug_aload_n 1 dL_law__565 rfl rfl ?_
    refine ug_iload 5 dL_law__566 rfl ?_
    refine ug_iconst dL_law__568 un_iconst_1 ?_
    refine ug_iadd dL_law__569 ?_
    refine ug_sld (hin 1 (Nat.le_of_ble_eq_true rfl)) dL_law__570 ?_
    refine ug_callVL [.int r] [.int (ue_sx E (x4 + 1).toNatClampNeg)] (c_X8_told e2) kc_L_160 ro_38 rfl (S := []) rfl rfl (Nat.le_of_ble_eq_true rfl) (Nat.le_of_ble_eq_true rfl) (Nat.le_of_ble_eq_true rfl) ⟨by omega, by omega⟩ dL_law__571 ?_
    refine ug_istore [(6, .int r), (5, .int 0), (0, .ref (ue_sb E)), (1, .ref (ue_d E 0)), (2, .ref (ue_d E 38)), (3, .ref (ue_d E 63)), (4, .int x4)] dL_law__574 (Nat.le_of_ble_eq_true rfl) rfl ?_
    refine ug_aload_n 4 dL_law__576 rfl rfl ?_
    refine ug_callVL [.int (m2 38 0)] [] (c_X8_thrown rfl) kc_L_137 ro_38 rfl (S := []) rfl rfl (Nat.le_of_ble_eq_true rfl) (Nat.le_of_ble_eq_true rfl) (Nat.le_of_ble_eq_true rfl) ⟨by omega, by omega⟩ dL_law__577 ?_
    refine ug_iload 1 dL_law__580 rfl ?_
    refine ug_icmp_eq 587 dL_law__582 (by decide) (fun _ => ?_) (fun q => absurd e3 q)
    refine ug_iload 1 dL_law__587 rfl ?_
    refine ug_if_ne 604 dL_law__589 (by decide) (fun q => absurd rfl q) (fun _ => ?_)
    refine ug_aload_n 5 dL_law__592 rfl rfl ?_
    refine ug_iconst dL_law__593 un_iconst_0 ?_
    refine ug_lald hx dL_law__594 ?_
    refine ug_iload 0 dL_law__595 rfl ?_
    refine ug_i2l dL_law__597 ?_
    refine ug_lcmp dL_law__598 ?_
    refine ug_if_eq 604 dL_law__599 (by decide) (fun _ => ?_) (fun q => absurd (ulaw_cmp e4) q)
    refine ug_goto 2807 dL_law__604 (by decide) ?_
    refine ug_iinc (v := (x4 + 9)) [(4, .int (x4 + 9)), (6, .int r), (5, .int 0), (0, .ref (ue_sb E)), (1, .ref (ue_d E 0)), (2, .ref (ue_d E 38)), (3, .ref (ue_d E 63))] 6 dL_law__2807 rfl rfl (Nat.le_of_ble_eq_true rfl) rfl ?_
    refine ug_goto 23 dL_law__2810 (by decide) ?_
    refine ug_sub [(0, .ref (ue_sb E)), (1, .ref (ue_d E 0)), (2, .ref (ue_d E 38)), (3, .ref (ue_d E 63)), (4, .int (x4 + 9))] [3, 4, 5, 6, 0] rfl ?_
    exact ih
  · obtain ⟨m9, ih⟩ := ih m2 (ce + 1) (sl + 6) hI (by omega) (by omega)
    refine ⟨m9, ?_⟩
    refine ug_aload_n 1 dL_law__551 rfl rfl ?_
    refine ug_aload_n 0 dL_law__552 rfl rfl ?_
    refine ug_iload 4 dL_law__553 rfl ?_
    refine ug_iconst dL_law__555 un_iconst_1 ?_
    refine ug_iadd dL_law__556 ?_
    refine ug_sld (hin 1 (Nat.le_of_ble_eq_true rfl)) dL_law__557 ?_
    refine ug_aload_n 3 dL_law__558 rfl rfl ?_
    refine ug_callW [.ref (ue_d E 0), .int (ue_sx E (x4 + 1).toNatClampNeg), .ref (ue_d E 63)] (c_L_told_i e1) kv_L_158 rfl (S := []) rfl (Nat.le_of_ble_eq_true rfl) (Nat.le_of_ble_eq_true rfl) (Nat.le_of_ble_eq_true rfl) ⟨by omega, by omega⟩ dL_law__559 ?_
    refine ug_istore [(5, .int 1), (0, .ref (ue_sb E)), (1, .ref (ue_d E 0)), (2, .ref (ue_d E 38)), (3, .ref (ue_d E 63)), (4, .int x4)] dL_law__562 (Nat.le_of_ble_eq_true rfl) rfl ?_
    refine ug_aload_n 3 dL_law__564 rfl rfl ?_
    refine ug_aload_n 1 dL_law__565 rfl rfl ?_
    refine ug_iload 5 dL_law__566 rfl ?_
    refine ug_iconst dL_law__568 un_iconst_1 ?_
    refine ug_iadd dL_law__569 ?_
    refine ug_sld (hin 1 (Nat.le_of_ble_eq_true rfl)) dL_law__570 ?_
    refine ug_callVL [.int b] [.int (ue_sx E (x4 + 1).toNatClampNeg)] (c_X8_told e2) kc_L_160 ro_38 rfl (S := []) rfl rfl (Nat.le_of_ble_eq_true rfl) (Nat.le_of_ble_eq_true rfl) (Nat.le_of_ble_eq_true rfl) ⟨by omega, by omega⟩ dL_law__571 ?_
    refine ug_istore [(6, .int b), (5, .int 1), (0, .ref (ue_sb E)), (1, .ref (ue_d E 0)), (2, .ref (ue_d E 38)), (3, .ref (ue_d E 63)), (4, .int x4)] dL_law__574 (Nat.le_of_ble_eq_true rfl) rfl ?_
    refine ug_aload_n 4 dL_law__576 rfl rfl ?_
    refine ug_callVL [.int (m2 38 0)] [] (c_X8_thrown rfl) kc_L_137 ro_38 rfl (S := []) rfl rfl (Nat.le_of_ble_eq_true rfl) (Nat.le_of_ble_eq_true rfl) (Nat.le_of_ble_eq_true rfl) ⟨by omega, by omega⟩ dL_law__577 ?_
    refine ug_iload 1 dL_law__580 rfl ?_
    refine ug_icmp_eq 587 dL_law__582 (by decide) (fun _ => ?_) (fun q => absurd e3 q)
    refine ug_iload 1 dL_law__587 rfl ?_
    refine ug_if_ne 604 dL_law__589 (by decide) (fun _ => ?_) (fun q => absurd q (by decide))
    refine ug_goto 2807 dL_law__604 (by decide) ?_
    refine ug_iinc (v := (x4 + 9)) [(4, .int (x4 + 9)), (6, .int b), (5, .int 1), (0, .ref (ue_sb E)), (1, .ref (ue_d E 0)), (2, .ref (ue_d E 38)), (3, .ref (ue_d E 63))] 6 dL_law__2807 rfl rfl (Nat.le_of_ble_eq_true rfl) rfl ?_
    refine ug_goto 23 dL_law__2810 (by decide) ?_
    refine ug_sub [(0, .ref (ue_sb E)), (1, .ref (ue_d E 0)), (2, .ref (ue_d E 38)), (3, .ref (ue_d E 63)), (4, .int (x4 + 9))] [3, 4, 5, 6, 0] rfl ?_
    exact ih
set_option maxRecDepth 20000 in
theorem law_view {l : Launch} {E : Ue} (hx : ue_x E = [.inr (3, 1)]) {I : Um → Prop} (h : uop_view I) {mc ms ce sl n : Nat} {x4 : Int32} (hin : ∀ q, q ≤ 8 → vp_in (x4 + nI q) (ue_sn E)) (ih : ∀ (m2 : Um) (ce sl : Nat), I m2 → ce + n ≤ mc → sl + 6 * n ≤ ms → ∃ m9, ug l E 2048 mc ms cL_law_ 8 RL (some .boolean) [] (.inl (some (.int 1), m9)) ce sl 23 [(0, .ref (ue_sb E)), (1, .ref (ue_d E 0)), (2, .ref (ue_d E 38)), (3, .ref (ue_d E 63)), (4, .int (x4 + 9))] [] m2) {mem : Um} (hI : I mem) (hc : ce + (n + 1) ≤ mc) (hs : sl + 6 * (n + 1) ≤ ms) : ∃ m9, ug l E 2048 mc ms cL_law_ 8 RL (some .boolean) [] (.inl (some (.int 1), m9)) ce sl 607 [(0, .ref (ue_sb E)), (1, .ref (ue_d E 0)), (2, .ref (ue_d E 38)), (3, .ref (ue_d E 63)), (4, .int x4)] [] mem := by
  rcases h mem (ue_sx E (x4 + 1).toNatClampNeg) (ue_sx E (x4 + 2).toNatClampNeg) hI with ⟨m1, r, m2, e1, e2, e3, e4, hI⟩ | ⟨m1, m2, b, e1, e2, e3, hI⟩ | ⟨m1, m2, b, e1, e2, e3, hI⟩
  · obtain ⟨m9, ih⟩ := ih m2 (ce + 1) (sl + 6) hI (by omega) (by omega)
    refine ⟨m9, ?_⟩
    refine ug_aload_n 1 dL_law__607 rfl rfl ?_
    refine ug_aload_n 0 dL_law__608 rfl rfl ?_
    refine ug_iload 4 dL_law__609 rfl ?_
    refine ug_iconst dL_law__611 un_iconst_1 ?_
    refine ug_iadd dL_law__612 ?_
    refine ug_sld (hin 1 (Nat.le_of_ble_eq_true rfl)) dL_law__613 ?_
    refine ug_aload_n 0 dL_law__614 rfl rfl ?_
    refine ug_iload 4 dL_law__615 rfl ?_
    refine ug_iconst dL_law__617 un_iconst_2 ?_
    refine ug_iadd dL_law__618 ?_
    refine ug_sld (hin 2 (Nat.le_of_ble_eq_true rfl)) dL_law__619 ?_
    refine ug_aload_n 3 dL_law__620 rfl rfl ?_
    refine ug_callW [.ref (ue_d E 0), .int (ue_sx E (x4 + 1).toNatClampNeg), .int (ue_sx E (x4 + 2).toNatClampNeg), .ref (ue_d E 63)] (c_L_view_r hx e1) kv_L_161 rfl (S := []) rfl (Nat.le_of_ble_eq_true rfl) (Nat.le_of_ble_eq_true rfl) (Nat.le_of_ble_eq_true rfl) ⟨by omega, by omega⟩ dL_law__621 ?_
    refine ug_istore [(5, .int 0), (0, .ref (ue_sb E)), (1, .ref (ue_d E 0)), (2, .ref (ue_d E 38)), (3, .ref (ue_d E 63)), (4, .int x4)] dL_law__624 (Nat.le_of_ble_eq_true rfl) rfl ?_
    refine ug_aload_n 3 dL_law__626 rfl rfl ?_
    refine ug_aload_n 1 dL_law__627 rfl rfl ?_
    refine ug_iload 5 dL_law__628 rfl ?_
    refine ug_iconst dL_law__630 un_iconst_1 ?_
    refine ug_iadd dL_law__631 ?_
    refine ug_sld (hin 1 (Nat.le_of_ble_eq_true rfl)) dL_law__632 ?_
    refine ug_aload_n 1 dL_law__633 rfl rfl ?_
    refine ug_iload 5 dL_law__634 rfl ?_
    refine ug_iconst dL_law__636 un_iconst_2 ?_
    refine ug_iadd dL_law__637 ?_
    refine ug_sld (hin 2 (Nat.le_of_ble_eq_true rfl)) dL_law__638 ?_
    refine ug_callVL [.int r] [.int (ue_sx E (x4 + 1).toNatClampNeg), .int (ue_sx E (x4 + 2).toNatClampNeg)] (c_X8_view e2) kc_L_164 ro_38 rfl (S := []) rfl rfl (Nat.le_of_ble_eq_true rfl) (Nat.le_of_ble_eq_true rfl) (Nat.le_of_ble_eq_true rfl) ⟨by omega, by omega⟩ dL_law__639 ?_
    refine ug_istore [(6, .int r), (5, .int 0), (0, .ref (ue_sb E)), (1, .ref (ue_d E 0)), (2, .ref (ue_d E 38)), (3, .ref (ue_d E 63)), (4, .int x4)] dL_law__642 (Nat.le_of_ble_eq_true rfl) rfl ?_
    refine ug_aload_n 4 dL_law__644 rfl rfl ?_
    refine ug_callVL [.int (m2 38 0)] [] (c_X8_thrown rfl) kc_L_137 ro_38 rfl (S := []) rfl rfl (Nat.le_of_ble_eq_true rfl) (Nat.le_of_ble_eq_true rfl) (Nat.le_of_ble_eq_true rfl) ⟨by omega, by omega⟩ dL_law__645 ?_
    refine ug_iload 1 dL_law__648 rfl ?_
    refine ug_icmp_eq 655 dL_law__650 (by decide) (fun _ => ?_) (fun q => absurd e3 q)
    refine ug_iload 1 dL_law__655 rfl ?_
    refine ug_if_ne 672 dL_law__657 (by decide) (fun q => absurd rfl q) (fun _ => ?_)
    refine ug_aload_n 5 dL_law__660 rfl rfl ?_
    refine ug_iconst dL_law__661 un_iconst_0 ?_
    refine ug_lald hx dL_law__662 ?_
    refine ug_iload 0 dL_law__663 rfl ?_
    refine ug_i2l dL_law__665 ?_
    refine ug_lcmp dL_law__666 ?_
    refine ug_if_eq 672 dL_law__667 (by decide) (fun _ => ?_) (fun q => absurd (ulaw_cmp e4) q)
    refine ug_goto 2807 dL_law__672 (by decide) ?_
    refine ug_iinc (v := (x4 + 9)) [(4, .int (x4 + 9)), (6, .int r), (5, .int 0), (0, .ref (ue_sb E)), (1, .ref (ue_d E 0)), (2, .ref (ue_d E 38)), (3, .ref (ue_d E 63))] 6 dL_law__2807 rfl rfl (Nat.le_of_ble_eq_true rfl) rfl ?_
    refine ug_goto 23 dL_law__2810 (by decide) ?_
    refine ug_sub [(0, .ref (ue_sb E)), (1, .ref (ue_d E 0)), (2, .ref (ue_d E 38)), (3, .ref (ue_d E 63)), (4, .int (x4 + 9))] [3, 4, 5, 6, 0] rfl ?_
    exact ih
  · obtain ⟨m9, ih⟩ := ih m2 (ce + 1) (sl + 6) hI (by omega) (by omega)
    refine ⟨m9, ?_⟩
    refine ug_aload_n 1 dL_law__607 rfl rfl ?_
    refine ug_aload_n 0 dL_law__608 rfl rfl ?_
    refine ug_iload 4 dL_law__609 rfl ?_
    refine ug_iconst dL_law__611 un_iconst_1 ?_
    refine ug_iadd dL_law__612 ?_
    refine ug_sld (hin 1 (Nat.le_of_ble_eq_true rfl)) dL_law__613 ?_
    refine ug_aload_n 0 dL_law__614 rfl rfl ?_
    refine ug_iload 4 dL_law__615 rfl ?_
    refine ug_iconst dL_law__617 un_iconst_2 ?_
    refine ug_iadd dL_law__618 ?_
    refine ug_sld (hin 2 (Nat.le_of_ble_eq_true rfl)) dL_law__619 ?_
    refine ug_aload_n 3 dL_law__620 rfl rfl ?_
    refine ug_callW [.ref (ue_d E 0), .int (ue_sx E (x4 + 1).toNatClampNeg), .int (ue_sx E (x4 + 2).toNatClampNeg), .ref (ue_d E 63)] (c_L_view_n e1) kv_L_161 rfl (S := []) rfl (Nat.le_of_ble_eq_true rfl) (Nat.le_of_ble_eq_true rfl) (Nat.le_of_ble_eq_true rfl) ⟨by omega, by omega⟩ dL_law__621 ?_
    refine ug_istore [(5, .int 1), (0, .ref (ue_sb E)), (1, .ref (ue_d E 0)), (2, .ref (ue_d E 38)), (3, .ref (ue_d E 63)), (4, .int x4)] dL_law__624 (Nat.le_of_ble_eq_true rfl) rfl ?_
    refine ug_aload_n 3 dL_law__626 rfl rfl ?_
    refine ug_aload_n 1 dL_law__627 rfl rfl ?_
    refine ug_iload 5 dL_law__628 rfl ?_
    refine ug_iconst dL_law__630 un_iconst_1 ?_
    refine ug_iadd dL_law__631 ?_
    refine ug_sld (hin 1 (Nat.le_of_ble_eq_true rfl)) dL_law__632 ?_
    refine ug_aload_n 1 dL_law__633 rfl rfl ?_
    refine ug_iload 5 dL_law__634 rfl ?_
    refine ug_iconst dL_law__636 un_iconst_2 ?_
    refine ug_iadd dL_law__637 ?_
    refine ug_sld (hin 2 (Nat.le_of_ble_eq_true rfl)) dL_law__638 ?_
    refine ug_callVL [.int b] [.int (ue_sx E (x4 + 1).toNatClampNeg), .int (ue_sx E (x4 + 2).toNatClampNeg)] (c_X8_view e2) kc_L_164 ro_38 rfl (S := []) rfl rfl (Nat.le_of_ble_eq_true rfl) (Nat.le_of_ble_eq_true rfl) (Nat.le_of_ble_eq_true rfl) ⟨by omega, by omega⟩ dL_law__639 ?_
    refine ug_istore [(6, .int b), (5, .int 1), (0, .ref (ue_sb E)), (1, .ref (ue_d E 0)), (2, .ref (ue_d E 38)), (3, .ref (ue_d E 63)), (4, .int x4)] dL_law__642 (Nat.le_of_ble_eq_true rfl) rfl ?_
    refine ug_aload_n 4 dL_law__644 rfl rfl ?_
    refine ug_callVL [.int (m2 38 0)] [] (c_X8_thrown rfl) kc_L_137 ro_38 rfl (S := []) rfl rfl (Nat.le_of_ble_eq_true rfl) (Nat.le_of_ble_eq_true rfl) (Nat.le_of_ble_eq_true rfl) ⟨by omega, by omega⟩ dL_law__645 ?_
    refine ug_iload 1 dL_law__648 rfl ?_
    refine ug_icmp_eq 655 dL_law__650 (by decide) (fun _ => ?_) (fun q => absurd e3 q)
    refine ug_iload 1 dL_law__655 rfl ?_
    refine ug_if_ne 672 dL_law__657 (by decide) (fun _ => ?_) (fun q => absurd q (by decide))
    refine ug_goto 2807 dL_law__672 (by decide) ?_
    refine ug_iinc (v := (x4 + 9)) [(4, .int (x4 + 9)), (6, .int b), (5, .int 1), (0, .ref (ue_sb E)), (1, .ref (ue_d E 0)), (2, .ref (ue_d E 38)), (3, .ref (ue_d E 63))] 6 dL_law__2807 rfl rfl (Nat.le_of_ble_eq_true rfl) rfl ?_
    refine ug_goto 23 dL_law__2810 (by decide) ?_
    refine ug_sub [(0, .ref (ue_sb E)), (1, .ref (ue_d E 0)), (2, .ref (ue_d E 38)), (3, .ref (ue_d E 63)), (4, .int (x4 + 9))] [3, 4, 5, 6, 0] rfl ?_
    exact ih
  · obtain ⟨m9, ih⟩ := ih m2 (ce + 1) (sl + 6) hI (by omega) (by omega)
    refine ⟨m9, ?_⟩
    refine ug_aload_n 1 dL_law__607 rfl rfl ?_
    refine ug_aload_n 0 dL_law__608 rfl rfl ?_
    refine ug_iload 4 dL_law__609 rfl ?_
    refine ug_iconst dL_law__611 un_iconst_1 ?_
    refine ug_iadd dL_law__612 ?_
    refine ug_sld (hin 1 (Nat.le_of_ble_eq_true rfl)) dL_law__613 ?_
    refine ug_aload_n 0 dL_law__614 rfl rfl ?_
    refine ug_iload 4 dL_law__615 rfl ?_
    refine ug_iconst dL_law__617 un_iconst_2 ?_
    refine ug_iadd dL_law__618 ?_
    refine ug_sld (hin 2 (Nat.le_of_ble_eq_true rfl)) dL_law__619 ?_
    refine ug_aload_n 3 dL_law__620 rfl rfl ?_
    refine ug_callW [.ref (ue_d E 0), .int (ue_sx E (x4 + 1).toNatClampNeg), .int (ue_sx E (x4 + 2).toNatClampNeg), .ref (ue_d E 63)] (c_L_view_i e1) kv_L_161 rfl (S := []) rfl (Nat.le_of_ble_eq_true rfl) (Nat.le_of_ble_eq_true rfl) (Nat.le_of_ble_eq_true rfl) ⟨by omega, by omega⟩ dL_law__621 ?_
    refine ug_istore [(5, .int 2), (0, .ref (ue_sb E)), (1, .ref (ue_d E 0)), (2, .ref (ue_d E 38)), (3, .ref (ue_d E 63)), (4, .int x4)] dL_law__624 (Nat.le_of_ble_eq_true rfl) rfl ?_
    refine ug_aload_n 3 dL_law__626 rfl rfl ?_
    refine ug_aload_n 1 dL_law__627 rfl rfl ?_
    refine ug_iload 5 dL_law__628 rfl ?_
    refine ug_iconst dL_law__630 un_iconst_1 ?_
    refine ug_iadd dL_law__631 ?_
    refine ug_sld (hin 1 (Nat.le_of_ble_eq_true rfl)) dL_law__632 ?_
    refine ug_aload_n 1 dL_law__633 rfl rfl ?_
    refine ug_iload 5 dL_law__634 rfl ?_
    refine ug_iconst dL_law__636 un_iconst_2 ?_
    refine ug_iadd dL_law__637 ?_
    refine ug_sld (hin 2 (Nat.le_of_ble_eq_true rfl)) dL_law__638 ?_
    refine ug_callVL [.int b] [.int (ue_sx E (x4 + 1).toNatClampNeg), .int (ue_sx E (x4 + 2).toNatClampNeg)] (c_X8_view e2) kc_L_164 ro_38 rfl (S := []) rfl rfl (Nat.le_of_ble_eq_true rfl) (Nat.le_of_ble_eq_true rfl) (Nat.le_of_ble_eq_true rfl) ⟨by omega, by omega⟩ dL_law__639 ?_
    refine ug_istore [(6, .int b), (5, .int 2), (0, .ref (ue_sb E)), (1, .ref (ue_d E 0)), (2, .ref (ue_d E 38)), (3, .ref (ue_d E 63)), (4, .int x4)] dL_law__642 (Nat.le_of_ble_eq_true rfl) rfl ?_
    refine ug_aload_n 4 dL_law__644 rfl rfl ?_
    refine ug_callVL [.int (m2 38 0)] [] (c_X8_thrown rfl) kc_L_137 ro_38 rfl (S := []) rfl rfl (Nat.le_of_ble_eq_true rfl) (Nat.le_of_ble_eq_true rfl) (Nat.le_of_ble_eq_true rfl) ⟨by omega, by omega⟩ dL_law__645 ?_
    refine ug_iload 1 dL_law__648 rfl ?_
    refine ug_icmp_eq 655 dL_law__650 (by decide) (fun _ => ?_) (fun q => absurd e3 q)
    refine ug_iload 1 dL_law__655 rfl ?_
    refine ug_if_ne 672 dL_law__657 (by decide) (fun _ => ?_) (fun q => absurd q (by decide))
    refine ug_goto 2807 dL_law__672 (by decide) ?_
    refine ug_iinc (v := (x4 + 9)) [(4, .int (x4 + 9)), (6, .int b), (5, .int 2), (0, .ref (ue_sb E)), (1, .ref (ue_d E 0)), (2, .ref (ue_d E 38)), (3, .ref (ue_d E 63))] 6 dL_law__2807 rfl rfl (Nat.le_of_ble_eq_true rfl) rfl ?_
    refine ug_goto 23 dL_law__2810 (by decide) ?_
    refine ug_sub [(0, .ref (ue_sb E)), (1, .ref (ue_d E 0)), (2, .ref (ue_d E 38)), (3, .ref (ue_d E 63)), (4, .int (x4 + 9))] [3, 4, 5, 6, 0] rfl ?_
    exact ih
set_option maxRecDepth 20000 in
theorem law_tenant {l : Launch} {E : Ue} (hx : ue_x E = [.inr (3, 1)]) {I : Um → Prop} (h : uop_tenant I) {mc ms ce sl n : Nat} {x4 : Int32} (hin : ∀ q, q ≤ 8 → vp_in (x4 + nI q) (ue_sn E)) (ih : ∀ (m2 : Um) (ce sl : Nat), I m2 → ce + n ≤ mc → sl + 6 * n ≤ ms → ∃ m9, ug l E 2048 mc ms cL_law_ 8 RL (some .boolean) [] (.inl (some (.int 1), m9)) ce sl 23 [(0, .ref (ue_sb E)), (1, .ref (ue_d E 0)), (2, .ref (ue_d E 38)), (3, .ref (ue_d E 63)), (4, .int (x4 + 9))] [] m2) {mem : Um} (hI : I mem) (hc : ce + (n + 1) ≤ mc) (hs : sl + 6 * (n + 1) ≤ ms) : ∃ m9, ug l E 2048 mc ms cL_law_ 8 RL (some .boolean) [] (.inl (some (.int 1), m9)) ce sl 675 [(0, .ref (ue_sb E)), (1, .ref (ue_d E 0)), (2, .ref (ue_d E 38)), (3, .ref (ue_d E 63)), (4, .int x4)] [] mem := by
  rcases h mem (ue_sx E (x4 + 1).toNatClampNeg) (ue_sx E (x4 + 2).toNatClampNeg) hI with ⟨m1, r, m2, e1, e2, e3, e4, hI⟩ | ⟨m1, m2, b, e1, e2, e3, hI⟩ | ⟨m1, m2, b, e1, e2, e3, hI⟩
  · obtain ⟨m9, ih⟩ := ih m2 (ce + 1) (sl + 6) hI (by omega) (by omega)
    refine ⟨m9, ?_⟩
    refine ug_aload_n 1 dL_law__675 rfl rfl ?_
    refine ug_aload_n 0 dL_law__676 rfl rfl ?_
    refine ug_iload 4 dL_law__677 rfl ?_
    refine ug_iconst dL_law__679 un_iconst_1 ?_
    refine ug_iadd dL_law__680 ?_
    refine ug_sld (hin 1 (Nat.le_of_ble_eq_true rfl)) dL_law__681 ?_
    refine ug_aload_n 0 dL_law__682 rfl rfl ?_
    refine ug_iload 4 dL_law__683 rfl ?_
    refine ug_iconst dL_law__685 un_iconst_2 ?_
    refine ug_iadd dL_law__686 ?_
    refine ug_sld (hin 2 (Nat.le_of_ble_eq_true rfl)) dL_law__687 ?_
    refine ug_aload_n 3 dL_law__688 rfl rfl ?_
    refine ug_callW [.ref (ue_d E 0), .int (ue_sx E (x4 + 1).toNatClampNeg), .int (ue_sx E (x4 + 2).toNatClampNeg), .ref (ue_d E 63)] (c_L_tenant_r hx e1) kv_L_165 rfl (S := []) rfl (Nat.le_of_ble_eq_true rfl) (Nat.le_of_ble_eq_true rfl) (Nat.le_of_ble_eq_true rfl) ⟨by omega, by omega⟩ dL_law__689 ?_
    refine ug_istore [(5, .int 0), (0, .ref (ue_sb E)), (1, .ref (ue_d E 0)), (2, .ref (ue_d E 38)), (3, .ref (ue_d E 63)), (4, .int x4)] dL_law__692 (Nat.le_of_ble_eq_true rfl) rfl ?_
    refine ug_aload_n 3 dL_law__694 rfl rfl ?_
    refine ug_aload_n 1 dL_law__695 rfl rfl ?_
    refine ug_iload 5 dL_law__696 rfl ?_
    refine ug_iconst dL_law__698 un_iconst_1 ?_
    refine ug_iadd dL_law__699 ?_
    refine ug_sld (hin 1 (Nat.le_of_ble_eq_true rfl)) dL_law__700 ?_
    refine ug_aload_n 1 dL_law__701 rfl rfl ?_
    refine ug_iload 5 dL_law__702 rfl ?_
    refine ug_iconst dL_law__704 un_iconst_2 ?_
    refine ug_iadd dL_law__705 ?_
    refine ug_sld (hin 2 (Nat.le_of_ble_eq_true rfl)) dL_law__706 ?_
    refine ug_callVL [.int r] [.int (ue_sx E (x4 + 1).toNatClampNeg), .int (ue_sx E (x4 + 2).toNatClampNeg)] (c_X8_tenant e2) kc_L_167 ro_38 rfl (S := []) rfl rfl (Nat.le_of_ble_eq_true rfl) (Nat.le_of_ble_eq_true rfl) (Nat.le_of_ble_eq_true rfl) ⟨by omega, by omega⟩ dL_law__707 ?_
    refine ug_istore [(6, .int r), (5, .int 0), (0, .ref (ue_sb E)), (1, .ref (ue_d E 0)), (2, .ref (ue_d E 38)), (3, .ref (ue_d E 63)), (4, .int x4)] dL_law__710 (Nat.le_of_ble_eq_true rfl) rfl ?_
    refine ug_aload_n 4 dL_law__712 rfl rfl ?_
    refine ug_callVL [.int (m2 38 0)] [] (c_X8_thrown rfl) kc_L_137 ro_38 rfl (S := []) rfl rfl (Nat.le_of_ble_eq_true rfl) (Nat.le_of_ble_eq_true rfl) (Nat.le_of_ble_eq_true rfl) ⟨by omega, by omega⟩ dL_law__713 ?_
    refine ug_iload 1 dL_law__716 rfl ?_
    refine ug_icmp_eq 723 dL_law__718 (by decide) (fun _ => ?_) (fun q => absurd e3 q)
    refine ug_iload 1 dL_law__723 rfl ?_
    refine ug_if_ne 740 dL_law__725 (by decide) (fun q => absurd rfl q) (fun _ => ?_)
    refine ug_aload_n 5 dL_law__728 rfl rfl ?_
    refine ug_iconst dL_law__729 un_iconst_0 ?_
    refine ug_lald hx dL_law__730 ?_
    refine ug_iload 0 dL_law__731 rfl ?_
    refine ug_i2l dL_law__733 ?_
    refine ug_lcmp dL_law__734 ?_
    refine ug_if_eq 740 dL_law__735 (by decide) (fun _ => ?_) (fun q => absurd (ulaw_cmp e4) q)
    refine ug_goto 2807 dL_law__740 (by decide) ?_
    refine ug_iinc (v := (x4 + 9)) [(4, .int (x4 + 9)), (6, .int r), (5, .int 0), (0, .ref (ue_sb E)), (1, .ref (ue_d E 0)), (2, .ref (ue_d E 38)), (3, .ref (ue_d E 63))] 6 dL_law__2807 rfl rfl (Nat.le_of_ble_eq_true rfl) rfl ?_
    refine ug_goto 23 dL_law__2810 (by decide) ?_
    refine ug_sub [(0, .ref (ue_sb E)), (1, .ref (ue_d E 0)), (2, .ref (ue_d E 38)), (3, .ref (ue_d E 63)), (4, .int (x4 + 9))] [3, 4, 5, 6, 0] rfl ?_
    exact ih
  · obtain ⟨m9, ih⟩ := ih m2 (ce + 1) (sl + 6) hI (by omega) (by omega)
    refine ⟨m9, ?_⟩
    refine ug_aload_n 1 dL_law__675 rfl rfl ?_
    refine ug_aload_n 0 dL_law__676 rfl rfl ?_
    refine ug_iload 4 dL_law__677 rfl ?_
    refine ug_iconst dL_law__679 un_iconst_1 ?_
    refine ug_iadd dL_law__680 ?_
    refine ug_sld (hin 1 (Nat.le_of_ble_eq_true rfl)) dL_law__681 ?_
    refine ug_aload_n 0 dL_law__682 rfl rfl ?_
    refine ug_iload 4 dL_law__683 rfl ?_
    refine ug_iconst dL_law__685 un_iconst_2 ?_
    refine ug_iadd dL_law__686 ?_
    refine ug_sld (hin 2 (Nat.le_of_ble_eq_true rfl)) dL_law__687 ?_
    refine ug_aload_n 3 dL_law__688 rfl rfl ?_
    refine ug_callW [.ref (ue_d E 0), .int (ue_sx E (x4 + 1).toNatClampNeg), .int (ue_sx E (x4 + 2).toNatClampNeg), .ref (ue_d E 63)] (c_L_tenant_n e1) kv_L_165 rfl (S := []) rfl (Nat.le_of_ble_eq_true rfl) (Nat.le_of_ble_eq_true rfl) (Nat.le_of_ble_eq_true rfl) ⟨by omega, by omega⟩ dL_law__689 ?_
    refine ug_istore [(5, .int 1), (0, .ref (ue_sb E)), (1, .ref (ue_d E 0)), (2, .ref (ue_d E 38)), (3, .ref (ue_d E 63)), (4, .int x4)] dL_law__692 (Nat.le_of_ble_eq_true rfl) rfl ?_
    refine ug_aload_n 3 dL_law__694 rfl rfl ?_
    refine ug_aload_n 1 dL_law__695 rfl rfl ?_
    refine ug_iload 5 dL_law__696 rfl ?_
    refine ug_iconst dL_law__698 un_iconst_1 ?_
    refine ug_iadd dL_law__699 ?_
    refine ug_sld (hin 1 (Nat.le_of_ble_eq_true rfl)) dL_law__700 ?_
    refine ug_aload_n 1 dL_law__701 rfl rfl ?_
    refine ug_iload 5 dL_law__702 rfl ?_
    refine ug_iconst dL_law__704 un_iconst_2 ?_
    refine ug_iadd dL_law__705 ?_
    refine ug_sld (hin 2 (Nat.le_of_ble_eq_true rfl)) dL_law__706 ?_
    refine ug_callVL [.int b] [.int (ue_sx E (x4 + 1).toNatClampNeg), .int (ue_sx E (x4 + 2).toNatClampNeg)] (c_X8_tenant e2) kc_L_167 ro_38 rfl (S := []) rfl rfl (Nat.le_of_ble_eq_true rfl) (Nat.le_of_ble_eq_true rfl) (Nat.le_of_ble_eq_true rfl) ⟨by omega, by omega⟩ dL_law__707 ?_
    refine ug_istore [(6, .int b), (5, .int 1), (0, .ref (ue_sb E)), (1, .ref (ue_d E 0)), (2, .ref (ue_d E 38)), (3, .ref (ue_d E 63)), (4, .int x4)] dL_law__710 (Nat.le_of_ble_eq_true rfl) rfl ?_
    refine ug_aload_n 4 dL_law__712 rfl rfl ?_
    refine ug_callVL [.int (m2 38 0)] [] (c_X8_thrown rfl) kc_L_137 ro_38 rfl (S := []) rfl rfl (Nat.le_of_ble_eq_true rfl) (Nat.le_of_ble_eq_true rfl) (Nat.le_of_ble_eq_true rfl) ⟨by omega, by omega⟩ dL_law__713 ?_
    refine ug_iload 1 dL_law__716 rfl ?_
    refine ug_icmp_eq 723 dL_law__718 (by decide) (fun _ => ?_) (fun q => absurd e3 q)
    refine ug_iload 1 dL_law__723 rfl ?_
    refine ug_if_ne 740 dL_law__725 (by decide) (fun _ => ?_) (fun q => absurd q (by decide))
    refine ug_goto 2807 dL_law__740 (by decide) ?_
    refine ug_iinc (v := (x4 + 9)) [(4, .int (x4 + 9)), (6, .int b), (5, .int 1), (0, .ref (ue_sb E)), (1, .ref (ue_d E 0)), (2, .ref (ue_d E 38)), (3, .ref (ue_d E 63))] 6 dL_law__2807 rfl rfl (Nat.le_of_ble_eq_true rfl) rfl ?_
    refine ug_goto 23 dL_law__2810 (by decide) ?_
    refine ug_sub [(0, .ref (ue_sb E)), (1, .ref (ue_d E 0)), (2, .ref (ue_d E 38)), (3, .ref (ue_d E 63)), (4, .int (x4 + 9))] [3, 4, 5, 6, 0] rfl ?_
    exact ih
  · obtain ⟨m9, ih⟩ := ih m2 (ce + 1) (sl + 6) hI (by omega) (by omega)
    refine ⟨m9, ?_⟩
    refine ug_aload_n 1 dL_law__675 rfl rfl ?_
    refine ug_aload_n 0 dL_law__676 rfl rfl ?_
    refine ug_iload 4 dL_law__677 rfl ?_
    refine ug_iconst dL_law__679 un_iconst_1 ?_
    refine ug_iadd dL_law__680 ?_
    refine ug_sld (hin 1 (Nat.le_of_ble_eq_true rfl)) dL_law__681 ?_
    refine ug_aload_n 0 dL_law__682 rfl rfl ?_
    refine ug_iload 4 dL_law__683 rfl ?_
    refine ug_iconst dL_law__685 un_iconst_2 ?_
    refine ug_iadd dL_law__686 ?_
    refine ug_sld (hin 2 (Nat.le_of_ble_eq_true rfl)) dL_law__687 ?_
    refine ug_aload_n 3 dL_law__688 rfl rfl ?_
    refine ug_callW [.ref (ue_d E 0), .int (ue_sx E (x4 + 1).toNatClampNeg), .int (ue_sx E (x4 + 2).toNatClampNeg), .ref (ue_d E 63)] (c_L_tenant_i e1) kv_L_165 rfl (S := []) rfl (Nat.le_of_ble_eq_true rfl) (Nat.le_of_ble_eq_true rfl) (Nat.le_of_ble_eq_true rfl) ⟨by omega, by omega⟩ dL_law__689 ?_
    refine ug_istore [(5, .int 2), (0, .ref (ue_sb E)), (1, .ref (ue_d E 0)), (2, .ref (ue_d E 38)), (3, .ref (ue_d E 63)), (4, .int x4)] dL_law__692 (Nat.le_of_ble_eq_true rfl) rfl ?_
    refine ug_aload_n 3 dL_law__694 rfl rfl ?_
    refine ug_aload_n 1 dL_law__695 rfl rfl ?_
    refine ug_iload 5 dL_law__696 rfl ?_
    refine ug_iconst dL_law__698 un_iconst_1 ?_
    refine ug_iadd dL_law__699 ?_
    refine ug_sld (hin 1 (Nat.le_of_ble_eq_true rfl)) dL_law__700 ?_
    refine ug_aload_n 1 dL_law__701 rfl rfl ?_
    refine ug_iload 5 dL_law__702 rfl ?_
    refine ug_iconst dL_law__704 un_iconst_2 ?_
    refine ug_iadd dL_law__705 ?_
    refine ug_sld (hin 2 (Nat.le_of_ble_eq_true rfl)) dL_law__706 ?_
    refine ug_callVL [.int b] [.int (ue_sx E (x4 + 1).toNatClampNeg), .int (ue_sx E (x4 + 2).toNatClampNeg)] (c_X8_tenant e2) kc_L_167 ro_38 rfl (S := []) rfl rfl (Nat.le_of_ble_eq_true rfl) (Nat.le_of_ble_eq_true rfl) (Nat.le_of_ble_eq_true rfl) ⟨by omega, by omega⟩ dL_law__707 ?_
    refine ug_istore [(6, .int b), (5, .int 2), (0, .ref (ue_sb E)), (1, .ref (ue_d E 0)), (2, .ref (ue_d E 38)), (3, .ref (ue_d E 63)), (4, .int x4)] dL_law__710 (Nat.le_of_ble_eq_true rfl) rfl ?_
    refine ug_aload_n 4 dL_law__712 rfl rfl ?_
    refine ug_callVL [.int (m2 38 0)] [] (c_X8_thrown rfl) kc_L_137 ro_38 rfl (S := []) rfl rfl (Nat.le_of_ble_eq_true rfl) (Nat.le_of_ble_eq_true rfl) (Nat.le_of_ble_eq_true rfl) ⟨by omega, by omega⟩ dL_law__713 ?_
    refine ug_iload 1 dL_law__716 rfl ?_
    refine ug_icmp_eq 723 dL_law__718 (by decide) (fun _ => ?_) (fun q => absurd e3 q)
    refine ug_iload 1 dL_law__723 rfl ?_
    refine ug_if_ne 740 dL_law__725 (by decide) (fun _ => ?_) (fun q => absurd q (by decide))
    refine ug_goto 2807 dL_law__740 (by decide) ?_
    refine ug_iinc (v := (x4 + 9)) [(4, .int (x4 + 9)), (6, .int b), (5, .int 2), (0, .ref (ue_sb E)), (1, .ref (ue_d E 0)), (2, .ref (ue_d E 38)), (3, .ref (ue_d E 63))] 6 dL_law__2807 rfl rfl (Nat.le_of_ble_eq_true rfl) rfl ?_
    refine ug_goto 23 dL_law__2810 (by decide) ?_
    refine ug_sub [(0, .ref (ue_sb E)), (1, .ref (ue_d E 0)), (2, .ref (ue_d E 38)), (3, .ref (ue_d E 63)), (4, .int (x4 + 9))] [3, 4, 5, 6, 0] rfl ?_
    exact ih
set_option maxRecDepth 20000 in
theorem law_bubble {l : Launch} {E : Ue} (hx : ue_x E = [.inr (3, 1)]) {I : Um → Prop} (h : uop_bubble I) {mc ms ce sl n : Nat} {x4 : Int32} (hin : ∀ q, q ≤ 8 → vp_in (x4 + nI q) (ue_sn E)) (ih : ∀ (m2 : Um) (ce sl : Nat), I m2 → ce + n ≤ mc → sl + 6 * n ≤ ms → ∃ m9, ug l E 2048 mc ms cL_law_ 8 RL (some .boolean) [] (.inl (some (.int 1), m9)) ce sl 23 [(0, .ref (ue_sb E)), (1, .ref (ue_d E 0)), (2, .ref (ue_d E 38)), (3, .ref (ue_d E 63)), (4, .int (x4 + 9))] [] m2) {mem : Um} (hI : I mem) (hc : ce + (n + 1) ≤ mc) (hs : sl + 6 * (n + 1) ≤ ms) : ∃ m9, ug l E 2048 mc ms cL_law_ 8 RL (some .boolean) [] (.inl (some (.int 1), m9)) ce sl 743 [(0, .ref (ue_sb E)), (1, .ref (ue_d E 0)), (2, .ref (ue_d E 38)), (3, .ref (ue_d E 63)), (4, .int x4)] [] mem := by
  rcases h mem (ue_sx E (x4 + 1).toNatClampNeg) (ue_sx E (x4 + 2).toNatClampNeg) hI with ⟨m1, r, m2, e1, e2, e3, e4, hI⟩ | ⟨m1, m2, b, e1, e2, e3, hI⟩ | ⟨m1, m2, b, e1, e2, e3, hI⟩
  · obtain ⟨m9, ih⟩ := ih m2 (ce + 1) (sl + 6) hI (by omega) (by omega)
    refine ⟨m9, ?_⟩
    refine ug_aload_n 1 dL_law__743 rfl rfl ?_
    refine ug_aload_n 0 dL_law__744 rfl rfl ?_
    refine ug_iload 4 dL_law__745 rfl ?_
    refine ug_iconst dL_law__747 un_iconst_1 ?_
    refine ug_iadd dL_law__748 ?_
    refine ug_sld (hin 1 (Nat.le_of_ble_eq_true rfl)) dL_law__749 ?_
    refine ug_aload_n 0 dL_law__750 rfl rfl ?_
    refine ug_iload 4 dL_law__751 rfl ?_
    refine ug_iconst dL_law__753 un_iconst_2 ?_
    refine ug_iadd dL_law__754 ?_
    refine ug_sld (hin 2 (Nat.le_of_ble_eq_true rfl)) dL_law__755 ?_
    refine ug_aload_n 3 dL_law__756 rfl rfl ?_
    refine ug_callW [.ref (ue_d E 0), .int (ue_sx E (x4 + 1).toNatClampNeg), .int (ue_sx E (x4 + 2).toNatClampNeg), .ref (ue_d E 63)] (c_L_bubble_r hx e1) kv_L_168 rfl (S := []) rfl (Nat.le_of_ble_eq_true rfl) (Nat.le_of_ble_eq_true rfl) (Nat.le_of_ble_eq_true rfl) ⟨by omega, by omega⟩ dL_law__757 ?_
    refine ug_istore [(5, .int 0), (0, .ref (ue_sb E)), (1, .ref (ue_d E 0)), (2, .ref (ue_d E 38)), (3, .ref (ue_d E 63)), (4, .int x4)] dL_law__760 (Nat.le_of_ble_eq_true rfl) rfl ?_
    refine ug_aload_n 3 dL_law__762 rfl rfl ?_
    refine ug_aload_n 1 dL_law__763 rfl rfl ?_
    refine ug_iload 5 dL_law__764 rfl ?_
    refine ug_iconst dL_law__766 un_iconst_1 ?_
    refine ug_iadd dL_law__767 ?_
    refine ug_sld (hin 1 (Nat.le_of_ble_eq_true rfl)) dL_law__768 ?_
    refine ug_aload_n 1 dL_law__769 rfl rfl ?_
    refine ug_iload 5 dL_law__770 rfl ?_
    refine ug_iconst dL_law__772 un_iconst_2 ?_
    refine ug_iadd dL_law__773 ?_
    refine ug_sld (hin 2 (Nat.le_of_ble_eq_true rfl)) dL_law__774 ?_
    refine ug_callVL [.int r] [.int (ue_sx E (x4 + 1).toNatClampNeg), .int (ue_sx E (x4 + 2).toNatClampNeg)] (c_X8_bubble e2) kc_L_170 ro_38 rfl (S := []) rfl rfl (Nat.le_of_ble_eq_true rfl) (Nat.le_of_ble_eq_true rfl) (Nat.le_of_ble_eq_true rfl) ⟨by omega, by omega⟩ dL_law__775 ?_
    refine ug_istore [(6, .int r), (5, .int 0), (0, .ref (ue_sb E)), (1, .ref (ue_d E 0)), (2, .ref (ue_d E 38)), (3, .ref (ue_d E 63)), (4, .int x4)] dL_law__778 (Nat.le_of_ble_eq_true rfl) rfl ?_
    refine ug_aload_n 4 dL_law__780 rfl rfl ?_
    refine ug_callVL [.int (m2 38 0)] [] (c_X8_thrown rfl) kc_L_137 ro_38 rfl (S := []) rfl rfl (Nat.le_of_ble_eq_true rfl) (Nat.le_of_ble_eq_true rfl) (Nat.le_of_ble_eq_true rfl) ⟨by omega, by omega⟩ dL_law__781 ?_
    refine ug_iload 1 dL_law__784 rfl ?_
    refine ug_icmp_eq 791 dL_law__786 (by decide) (fun _ => ?_) (fun q => absurd e3 q)
    refine ug_iload 1 dL_law__791 rfl ?_
    refine ug_if_ne 808 dL_law__793 (by decide) (fun q => absurd rfl q) (fun _ => ?_)
    refine ug_aload_n 5 dL_law__796 rfl rfl ?_
    refine ug_iconst dL_law__797 un_iconst_0 ?_
    refine ug_lald hx dL_law__798 ?_
    refine ug_iload 0 dL_law__799 rfl ?_
    refine ug_i2l dL_law__801 ?_
    refine ug_lcmp dL_law__802 ?_
    refine ug_if_eq 808 dL_law__803 (by decide) (fun _ => ?_) (fun q => absurd (ulaw_cmp e4) q)
    refine ug_goto 2807 dL_law__808 (by decide) ?_
    refine ug_iinc (v := (x4 + 9)) [(4, .int (x4 + 9)), (6, .int r), (5, .int 0), (0, .ref (ue_sb E)), (1, .ref (ue_d E 0)), (2, .ref (ue_d E 38)), (3, .ref (ue_d E 63))] 6 dL_law__2807 rfl rfl (Nat.le_of_ble_eq_true rfl) rfl ?_
    refine ug_goto 23 dL_law__2810 (by decide) ?_
    refine ug_sub [(0, .ref (ue_sb E)), (1, .ref (ue_d E 0)), (2, .ref (ue_d E 38)), (3, .ref (ue_d E 63)), (4, .int (x4 + 9))] [3, 4, 5, 6, 0] rfl ?_
    exact ih
  · obtain ⟨m9, ih⟩ := ih m2 (ce + 1) (sl + 6) hI (by omega) (by omega)
    refine ⟨m9, ?_⟩
    refine ug_aload_n 1 dL_law__743 rfl rfl ?_
    refine ug_aload_n 0 dL_law__744 rfl rfl ?_
    refine ug_iload 4 dL_law__745 rfl ?_
    refine ug_iconst dL_law__747 un_iconst_1 ?_
    refine ug_iadd dL_law__748 ?_
    refine ug_sld (hin 1 (Nat.le_of_ble_eq_true rfl)) dL_law__749 ?_
    refine ug_aload_n 0 dL_law__750 rfl rfl ?_
    refine ug_iload 4 dL_law__751 rfl ?_
    refine ug_iconst dL_law__753 un_iconst_2 ?_
    refine ug_iadd dL_law__754 ?_
    refine ug_sld (hin 2 (Nat.le_of_ble_eq_true rfl)) dL_law__755 ?_
    refine ug_aload_n 3 dL_law__756 rfl rfl ?_
    refine ug_callW [.ref (ue_d E 0), .int (ue_sx E (x4 + 1).toNatClampNeg), .int (ue_sx E (x4 + 2).toNatClampNeg), .ref (ue_d E 63)] (c_L_bubble_n e1) kv_L_168 rfl (S := []) rfl (Nat.le_of_ble_eq_true rfl) (Nat.le_of_ble_eq_true rfl) (Nat.le_of_ble_eq_true rfl) ⟨by omega, by omega⟩ dL_law__757 ?_
    refine ug_istore [(5, .int 1), (0, .ref (ue_sb E)), (1, .ref (ue_d E 0)), (2, .ref (ue_d E 38)), (3, .ref (ue_d E 63)), (4, .int x4)] dL_law__760 (Nat.le_of_ble_eq_true rfl) rfl ?_
    refine ug_aload_n 3 dL_law__762 rfl rfl ?_
    refine ug_aload_n 1 dL_law__763 rfl rfl ?_
    refine ug_iload 5 dL_law__764 rfl ?_
    refine ug_iconst dL_law__766 un_iconst_1 ?_
    refine ug_iadd dL_law__767 ?_
    refine ug_sld (hin 1 (Nat.le_of_ble_eq_true rfl)) dL_law__768 ?_
    refine ug_aload_n 1 dL_law__769 rfl rfl ?_
    refine ug_iload 5 dL_law__770 rfl ?_
    refine ug_iconst dL_law__772 un_iconst_2 ?_
    refine ug_iadd dL_law__773 ?_
    refine ug_sld (hin 2 (Nat.le_of_ble_eq_true rfl)) dL_law__774 ?_
    refine ug_callVL [.int b] [.int (ue_sx E (x4 + 1).toNatClampNeg), .int (ue_sx E (x4 + 2).toNatClampNeg)] (c_X8_bubble e2) kc_L_170 ro_38 rfl (S := []) rfl rfl (Nat.le_of_ble_eq_true rfl) (Nat.le_of_ble_eq_true rfl) (Nat.le_of_ble_eq_true rfl) ⟨by omega, by omega⟩ dL_law__775 ?_
    refine ug_istore [(6, .int b), (5, .int 1), (0, .ref (ue_sb E)), (1, .ref (ue_d E 0)), (2, .ref (ue_d E 38)), (3, .ref (ue_d E 63)), (4, .int x4)] dL_law__778 (Nat.le_of_ble_eq_true rfl) rfl ?_
    refine ug_aload_n 4 dL_law__780 rfl rfl ?_
    refine ug_callVL [.int (m2 38 0)] [] (c_X8_thrown rfl) kc_L_137 ro_38 rfl (S := []) rfl rfl (Nat.le_of_ble_eq_true rfl) (Nat.le_of_ble_eq_true rfl) (Nat.le_of_ble_eq_true rfl) ⟨by omega, by omega⟩ dL_law__781 ?_
    refine ug_iload 1 dL_law__784 rfl ?_
    refine ug_icmp_eq 791 dL_law__786 (by decide) (fun _ => ?_) (fun q => absurd e3 q)
    refine ug_iload 1 dL_law__791 rfl ?_
    refine ug_if_ne 808 dL_law__793 (by decide) (fun _ => ?_) (fun q => absurd q (by decide))
    refine ug_goto 2807 dL_law__808 (by decide) ?_
    refine ug_iinc (v := (x4 + 9)) [(4, .int (x4 + 9)), (6, .int b), (5, .int 1), (0, .ref (ue_sb E)), (1, .ref (ue_d E 0)), (2, .ref (ue_d E 38)), (3, .ref (ue_d E 63))] 6 dL_law__2807 rfl rfl (Nat.le_of_ble_eq_true rfl) rfl ?_
    refine ug_goto 23 dL_law__2810 (by decide) ?_
    refine ug_sub [(0, .ref (ue_sb E)), (1, .ref (ue_d E 0)), (2, .ref (ue_d E 38)), (3, .ref (ue_d E 63)), (4, .int (x4 + 9))] [3, 4, 5, 6, 0] rfl ?_
    exact ih
  · obtain ⟨m9, ih⟩ := ih m2 (ce + 1) (sl + 6) hI (by omega) (by omega)
    refine ⟨m9, ?_⟩
    refine ug_aload_n 1 dL_law__743 rfl rfl ?_
    refine ug_aload_n 0 dL_law__744 rfl rfl ?_
    refine ug_iload 4 dL_law__745 rfl ?_
    refine ug_iconst dL_law__747 un_iconst_1 ?_
    refine ug_iadd dL_law__748 ?_
    refine ug_sld (hin 1 (Nat.le_of_ble_eq_true rfl)) dL_law__749 ?_
    refine ug_aload_n 0 dL_law__750 rfl rfl ?_
    refine ug_iload 4 dL_law__751 rfl ?_
    refine ug_iconst dL_law__753 un_iconst_2 ?_
    refine ug_iadd dL_law__754 ?_
    refine ug_sld (hin 2 (Nat.le_of_ble_eq_true rfl)) dL_law__755 ?_
    refine ug_aload_n 3 dL_law__756 rfl rfl ?_
    refine ug_callW [.ref (ue_d E 0), .int (ue_sx E (x4 + 1).toNatClampNeg), .int (ue_sx E (x4 + 2).toNatClampNeg), .ref (ue_d E 63)] (c_L_bubble_i e1) kv_L_168 rfl (S := []) rfl (Nat.le_of_ble_eq_true rfl) (Nat.le_of_ble_eq_true rfl) (Nat.le_of_ble_eq_true rfl) ⟨by omega, by omega⟩ dL_law__757 ?_
    refine ug_istore [(5, .int 2), (0, .ref (ue_sb E)), (1, .ref (ue_d E 0)), (2, .ref (ue_d E 38)), (3, .ref (ue_d E 63)), (4, .int x4)] dL_law__760 (Nat.le_of_ble_eq_true rfl) rfl ?_
    refine ug_aload_n 3 dL_law__762 rfl rfl ?_
    refine ug_aload_n 1 dL_law__763 rfl rfl ?_
    refine ug_iload 5 dL_law__764 rfl ?_
    refine ug_iconst dL_law__766 un_iconst_1 ?_
    refine ug_iadd dL_law__767 ?_
    refine ug_sld (hin 1 (Nat.le_of_ble_eq_true rfl)) dL_law__768 ?_
    refine ug_aload_n 1 dL_law__769 rfl rfl ?_
    refine ug_iload 5 dL_law__770 rfl ?_
    refine ug_iconst dL_law__772 un_iconst_2 ?_
    refine ug_iadd dL_law__773 ?_
    refine ug_sld (hin 2 (Nat.le_of_ble_eq_true rfl)) dL_law__774 ?_
    refine ug_callVL [.int b] [.int (ue_sx E (x4 + 1).toNatClampNeg), .int (ue_sx E (x4 + 2).toNatClampNeg)] (c_X8_bubble e2) kc_L_170 ro_38 rfl (S := []) rfl rfl (Nat.le_of_ble_eq_true rfl) (Nat.le_of_ble_eq_true rfl) (Nat.le_of_ble_eq_true rfl) ⟨by omega, by omega⟩ dL_law__775 ?_
    refine ug_istore [(6, .int b), (5, .int 2), (0, .ref (ue_sb E)), (1, .ref (ue_d E 0)), (2, .ref (ue_d E 38)), (3, .ref (ue_d E 63)), (4, .int x4)] dL_law__778 (Nat.le_of_ble_eq_true rfl) rfl ?_
    refine ug_aload_n 4 dL_law__780 rfl rfl ?_
    refine ug_callVL [.int (m2 38 0)] [] (c_X8_thrown rfl) kc_L_137 ro_38 rfl (S := []) rfl rfl (Nat.le_of_ble_eq_true rfl) (Nat.le_of_ble_eq_true rfl) (Nat.le_of_ble_eq_true rfl) ⟨by omega, by omega⟩ dL_law__781 ?_
    refine ug_iload 1 dL_law__784 rfl ?_
    refine ug_icmp_eq 791 dL_law__786 (by decide) (fun _ => ?_) (fun q => absurd e3 q)
    refine ug_iload 1 dL_law__791 rfl ?_
    refine ug_if_ne 808 dL_law__793 (by decide) (fun _ => ?_) (fun q => absurd q (by decide))
    refine ug_goto 2807 dL_law__808 (by decide) ?_
    refine ug_iinc (v := (x4 + 9)) [(4, .int (x4 + 9)), (6, .int b), (5, .int 2), (0, .ref (ue_sb E)), (1, .ref (ue_d E 0)), (2, .ref (ue_d E 38)), (3, .ref (ue_d E 63))] 6 dL_law__2807 rfl rfl (Nat.le_of_ble_eq_true rfl) rfl ?_
    refine ug_goto 23 dL_law__2810 (by decide) ?_
    refine ug_sub [(0, .ref (ue_sb E)), (1, .ref (ue_d E 0)), (2, .ref (ue_d E 38)), (3, .ref (ue_d E 63)), (4, .int (x4 + 9))] [3, 4, 5, 6, 0] rfl ?_
    exact ih
set_option maxRecDepth 20000 in
theorem law_would {l : Launch} {E : Ue} (hx : ue_x E = [.inr (3, 1)]) {I : Um → Prop} (h : uop_would I) {mc ms ce sl n : Nat} {x4 : Int32} (hin : ∀ q, q ≤ 8 → vp_in (x4 + nI q) (ue_sn E)) (ih : ∀ (m2 : Um) (ce sl : Nat), I m2 → ce + n ≤ mc → sl + 6 * n ≤ ms → ∃ m9, ug l E 2048 mc ms cL_law_ 8 RL (some .boolean) [] (.inl (some (.int 1), m9)) ce sl 23 [(0, .ref (ue_sb E)), (1, .ref (ue_d E 0)), (2, .ref (ue_d E 38)), (3, .ref (ue_d E 63)), (4, .int (x4 + 9))] [] m2) {mem : Um} (hI : I mem) (hc : ce + (n + 1) ≤ mc) (hs : sl + 6 * (n + 1) ≤ ms) : ∃ m9, ug l E 2048 mc ms cL_law_ 8 RL (some .boolean) [] (.inl (some (.int 1), m9)) ce sl 811 [(0, .ref (ue_sb E)), (1, .ref (ue_d E 0)), (2, .ref (ue_d E 38)), (3, .ref (ue_d E 63)), (4, .int x4)] [] mem := by
  rcases h mem (ue_sx E (x4 + 1).toNatClampNeg) (ue_sx E (x4 + 2).toNatClampNeg) (ue_sx E (x4 + 3).toNatClampNeg) (ue_sx E (x4 + 4).toNatClampNeg) (ue_sx E (x4 + 5).toNatClampNeg) (ue_sx E (x4 + 6).toNatClampNeg) (ue_sx E (x4 + 7).toNatClampNeg) (ue_sx E (x4 + 8).toNatClampNeg) hI with ⟨m1, r, m2, e1, e2, e3, e4, hI⟩ | ⟨m1, m2, b, e1, e2, e3, hI⟩
  · obtain ⟨m9, ih⟩ := ih m2 (ce + 1) (sl + 6) hI (by omega) (by omega)
    refine ⟨m9, ?_⟩
    refine ug_aload_n 1 dL_law__811 rfl rfl ?_
    refine ug_aload_n 0 dL_law__812 rfl rfl ?_
    refine ug_iload 4 dL_law__813 rfl ?_
    refine ug_iconst dL_law__815 un_iconst_1 ?_
    refine ug_iadd dL_law__816 ?_
    refine ug_sld (hin 1 (Nat.le_of_ble_eq_true rfl)) dL_law__817 ?_
    refine ug_aload_n 0 dL_law__818 rfl rfl ?_
    refine ug_iload 4 dL_law__819 rfl ?_
    refine ug_iconst dL_law__821 un_iconst_2 ?_
    refine ug_iadd dL_law__822 ?_
    refine ug_sld (hin 2 (Nat.le_of_ble_eq_true rfl)) dL_law__823 ?_
    refine ug_aload_n 0 dL_law__824 rfl rfl ?_
    refine ug_iload 4 dL_law__825 rfl ?_
    refine ug_iconst dL_law__827 un_iconst_3 ?_
    refine ug_iadd dL_law__828 ?_
    refine ug_sld (hin 3 (Nat.le_of_ble_eq_true rfl)) dL_law__829 ?_
    refine ug_aload_n 0 dL_law__830 rfl rfl ?_
    refine ug_iload 4 dL_law__831 rfl ?_
    refine ug_iconst dL_law__833 un_iconst_4 ?_
    refine ug_iadd dL_law__834 ?_
    refine ug_sld (hin 4 (Nat.le_of_ble_eq_true rfl)) dL_law__835 ?_
    refine ug_aload_n 0 dL_law__836 rfl rfl ?_
    refine ug_iload 4 dL_law__837 rfl ?_
    refine ug_iconst dL_law__839 un_iconst_5 ?_
    refine ug_iadd dL_law__840 ?_
    refine ug_sld (hin 5 (Nat.le_of_ble_eq_true rfl)) dL_law__841 ?_
    refine ug_aload_n 0 dL_law__842 rfl rfl ?_
    refine ug_iload 4 dL_law__843 rfl ?_
    refine ug_bipush dL_law__845 (v := 6) (by decide) ?_
    refine ug_iadd dL_law__847 ?_
    refine ug_sld (hin 6 (Nat.le_of_ble_eq_true rfl)) dL_law__848 ?_
    refine ug_aload_n 0 dL_law__849 rfl rfl ?_
    refine ug_iload 4 dL_law__850 rfl ?_
    refine ug_bipush dL_law__852 (v := 7) (by decide) ?_
    refine ug_iadd dL_law__854 ?_
    refine ug_sld (hin 7 (Nat.le_of_ble_eq_true rfl)) dL_law__855 ?_
    refine ug_aload_n 0 dL_law__856 rfl rfl ?_
    refine ug_iload 4 dL_law__857 rfl ?_
    refine ug_bipush dL_law__859 (v := 8) (by decide) ?_
    refine ug_iadd dL_law__861 ?_
    refine ug_sld (hin 8 (Nat.le_of_ble_eq_true rfl)) dL_law__862 ?_
    refine ug_aload_n 3 dL_law__863 rfl rfl ?_
    refine ug_callW [.ref (ue_d E 0), .int (ue_sx E (x4 + 1).toNatClampNeg), .int (ue_sx E (x4 + 2).toNatClampNeg), .int (ue_sx E (x4 + 3).toNatClampNeg), .int (ue_sx E (x4 + 4).toNatClampNeg), .int (ue_sx E (x4 + 5).toNatClampNeg), .int (ue_sx E (x4 + 6).toNatClampNeg), .int (ue_sx E (x4 + 7).toNatClampNeg), .int (ue_sx E (x4 + 8).toNatClampNeg), .ref (ue_d E 63)] (c_L_would_r hx e1) kv_L_171 rfl (S := []) rfl (Nat.le_of_ble_eq_true rfl) (Nat.le_of_ble_eq_true rfl) (Nat.le_of_ble_eq_true rfl) ⟨by omega, by omega⟩ dL_law__864 ?_
    refine ug_istore [(5, .int 0), (0, .ref (ue_sb E)), (1, .ref (ue_d E 0)), (2, .ref (ue_d E 38)), (3, .ref (ue_d E 63)), (4, .int x4)] dL_law__867 (Nat.le_of_ble_eq_true rfl) rfl ?_
    refine ug_aload_n 3 dL_law__869 rfl rfl ?_
    refine ug_aload_n 1 dL_law__870 rfl rfl ?_
    refine ug_iload 5 dL_law__871 rfl ?_
    refine ug_iconst dL_law__873 un_iconst_1 ?_
    refine ug_iadd dL_law__874 ?_
    refine ug_sld (hin 1 (Nat.le_of_ble_eq_true rfl)) dL_law__875 ?_
    refine ug_aload_n 1 dL_law__876 rfl rfl ?_
    refine ug_iload 5 dL_law__877 rfl ?_
    refine ug_iconst dL_law__879 un_iconst_2 ?_
    refine ug_iadd dL_law__880 ?_
    refine ug_sld (hin 2 (Nat.le_of_ble_eq_true rfl)) dL_law__881 ?_
    refine ug_aload_n 1 dL_law__882 rfl rfl ?_
    refine ug_iload 5 dL_law__883 rfl ?_
    refine ug_iconst dL_law__885 un_iconst_3 ?_
    refine ug_iadd dL_law__886 ?_
    refine ug_sld (hin 3 (Nat.le_of_ble_eq_true rfl)) dL_law__887 ?_
    refine ug_aload_n 1 dL_law__888 rfl rfl ?_
    refine ug_iload 5 dL_law__889 rfl ?_
    refine ug_iconst dL_law__891 un_iconst_4 ?_
    refine ug_iadd dL_law__892 ?_
    refine ug_sld (hin 4 (Nat.le_of_ble_eq_true rfl)) dL_law__893 ?_
    refine ug_aload_n 1 dL_law__894 rfl rfl ?_
    refine ug_iload 5 dL_law__895 rfl ?_
    refine ug_iconst dL_law__897 un_iconst_5 ?_
    refine ug_iadd dL_law__898 ?_
    refine ug_sld (hin 5 (Nat.le_of_ble_eq_true rfl)) dL_law__899 ?_
    refine ug_aload_n 1 dL_law__900 rfl rfl ?_
    refine ug_iload 5 dL_law__901 rfl ?_
    refine ug_bipush dL_law__903 (v := 6) (by decide) ?_
    refine ug_iadd dL_law__905 ?_
    refine ug_sld (hin 6 (Nat.le_of_ble_eq_true rfl)) dL_law__906 ?_
    refine ug_aload_n 1 dL_law__907 rfl rfl ?_
    refine ug_iload 5 dL_law__908 rfl ?_
    refine ug_bipush dL_law__910 (v := 7) (by decide) ?_
    refine ug_iadd dL_law__912 ?_
    refine ug_sld (hin 7 (Nat.le_of_ble_eq_true rfl)) dL_law__913 ?_
    refine ug_aload_n 1 dL_law__914 rfl rfl ?_
    refine ug_iload 5 dL_law__915 rfl ?_
    refine ug_bipush dL_law__917 (v := 8) (by decide) ?_
    refine ug_iadd dL_law__919 ?_
    refine ug_sld (hin 8 (Nat.le_of_ble_eq_true rfl)) dL_law__920 ?_
    refine ug_callVL [.int r] [.int (ue_sx E (x4 + 1).toNatClampNeg), .int (ue_sx E (x4 + 2).toNatClampNeg), .int (ue_sx E (x4 + 3).toNatClampNeg), .int (ue_sx E (x4 + 4).toNatClampNeg), .int (ue_sx E (x4 + 5).toNatClampNeg), .int (ue_sx E (x4 + 6).toNatClampNeg), .int (ue_sx E (x4 + 7).toNatClampNeg), .int (ue_sx E (x4 + 8).toNatClampNeg)] (c_X8_would e2) kc_L_174 ro_38 rfl (S := []) rfl rfl (Nat.le_of_ble_eq_true rfl) (Nat.le_of_ble_eq_true rfl) (Nat.le_of_ble_eq_true rfl) ⟨by omega, by omega⟩ dL_law__921 ?_
    refine ug_istore [(6, .int r), (5, .int 0), (0, .ref (ue_sb E)), (1, .ref (ue_d E 0)), (2, .ref (ue_d E 38)), (3, .ref (ue_d E 63)), (4, .int x4)] dL_law__924 (Nat.le_of_ble_eq_true rfl) rfl ?_
    refine ug_aload_n 4 dL_law__926 rfl rfl ?_
    refine ug_callVL [.int (m2 38 0)] [] (c_X8_thrown rfl) kc_L_137 ro_38 rfl (S := []) rfl rfl (Nat.le_of_ble_eq_true rfl) (Nat.le_of_ble_eq_true rfl) (Nat.le_of_ble_eq_true rfl) ⟨by omega, by omega⟩ dL_law__927 ?_
    refine ug_iload 1 dL_law__930 rfl ?_
    refine ug_icmp_eq 937 dL_law__932 (by decide) (fun _ => ?_) (fun q => absurd e3 q)
    refine ug_iload 1 dL_law__937 rfl ?_
    refine ug_if_ne 954 dL_law__939 (by decide) (fun q => absurd rfl q) (fun _ => ?_)
    refine ug_aload_n 5 dL_law__942 rfl rfl ?_
    refine ug_iconst dL_law__943 un_iconst_0 ?_
    refine ug_lald hx dL_law__944 ?_
    refine ug_iload 0 dL_law__945 rfl ?_
    refine ug_i2l dL_law__947 ?_
    refine ug_lcmp dL_law__948 ?_
    refine ug_if_eq 954 dL_law__949 (by decide) (fun _ => ?_) (fun q => absurd (ulaw_cmp e4) q)
    refine ug_goto 2807 dL_law__954 (by decide) ?_
    refine ug_iinc (v := (x4 + 9)) [(4, .int (x4 + 9)), (6, .int r), (5, .int 0), (0, .ref (ue_sb E)), (1, .ref (ue_d E 0)), (2, .ref (ue_d E 38)), (3, .ref (ue_d E 63))] 6 dL_law__2807 rfl rfl (Nat.le_of_ble_eq_true rfl) rfl ?_
    refine ug_goto 23 dL_law__2810 (by decide) ?_
    refine ug_sub [(0, .ref (ue_sb E)), (1, .ref (ue_d E 0)), (2, .ref (ue_d E 38)), (3, .ref (ue_d E 63)), (4, .int (x4 + 9))] [3, 4, 5, 6, 0] rfl ?_
    exact ih
  · obtain ⟨m9, ih⟩ := ih m2 (ce + 1) (sl + 6) hI (by omega) (by omega)
    refine ⟨m9, ?_⟩
    refine ug_aload_n 1 dL_law__811 rfl rfl ?_
    refine ug_aload_n 0 dL_law__812 rfl rfl ?_
    refine ug_iload 4 dL_law__813 rfl ?_
    refine ug_iconst dL_law__815 un_iconst_1 ?_
    refine ug_iadd dL_law__816 ?_
    refine ug_sld (hin 1 (Nat.le_of_ble_eq_true rfl)) dL_law__817 ?_
    refine ug_aload_n 0 dL_law__818 rfl rfl ?_
    refine ug_iload 4 dL_law__819 rfl ?_
    refine ug_iconst dL_law__821 un_iconst_2 ?_
    refine ug_iadd dL_law__822 ?_
    refine ug_sld (hin 2 (Nat.le_of_ble_eq_true rfl)) dL_law__823 ?_
    refine ug_aload_n 0 dL_law__824 rfl rfl ?_
    refine ug_iload 4 dL_law__825 rfl ?_
    refine ug_iconst dL_law__827 un_iconst_3 ?_
    refine ug_iadd dL_law__828 ?_
    refine ug_sld (hin 3 (Nat.le_of_ble_eq_true rfl)) dL_law__829 ?_
    refine ug_aload_n 0 dL_law__830 rfl rfl ?_
    refine ug_iload 4 dL_law__831 rfl ?_
    refine ug_iconst dL_law__833 un_iconst_4 ?_
    refine ug_iadd dL_law__834 ?_
    refine ug_sld (hin 4 (Nat.le_of_ble_eq_true rfl)) dL_law__835 ?_
    refine ug_aload_n 0 dL_law__836 rfl rfl ?_
    refine ug_iload 4 dL_law__837 rfl ?_
    refine ug_iconst dL_law__839 un_iconst_5 ?_
    refine ug_iadd dL_law__840 ?_
    refine ug_sld (hin 5 (Nat.le_of_ble_eq_true rfl)) dL_law__841 ?_
    refine ug_aload_n 0 dL_law__842 rfl rfl ?_
    refine ug_iload 4 dL_law__843 rfl ?_
    refine ug_bipush dL_law__845 (v := 6) (by decide) ?_
    refine ug_iadd dL_law__847 ?_
    refine ug_sld (hin 6 (Nat.le_of_ble_eq_true rfl)) dL_law__848 ?_
    refine ug_aload_n 0 dL_law__849 rfl rfl ?_
    refine ug_iload 4 dL_law__850 rfl ?_
    refine ug_bipush dL_law__852 (v := 7) (by decide) ?_
    refine ug_iadd dL_law__854 ?_
    refine ug_sld (hin 7 (Nat.le_of_ble_eq_true rfl)) dL_law__855 ?_
    refine ug_aload_n 0 dL_law__856 rfl rfl ?_
    refine ug_iload 4 dL_law__857 rfl ?_
    refine ug_bipush dL_law__859 (v := 8) (by decide) ?_
    refine ug_iadd dL_law__861 ?_
    refine ug_sld (hin 8 (Nat.le_of_ble_eq_true rfl)) dL_law__862 ?_
    refine ug_aload_n 3 dL_law__863 rfl rfl ?_
    refine ug_callW [.ref (ue_d E 0), .int (ue_sx E (x4 + 1).toNatClampNeg), .int (ue_sx E (x4 + 2).toNatClampNeg), .int (ue_sx E (x4 + 3).toNatClampNeg), .int (ue_sx E (x4 + 4).toNatClampNeg), .int (ue_sx E (x4 + 5).toNatClampNeg), .int (ue_sx E (x4 + 6).toNatClampNeg), .int (ue_sx E (x4 + 7).toNatClampNeg), .int (ue_sx E (x4 + 8).toNatClampNeg), .ref (ue_d E 63)] (c_L_would_i e1) kv_L_171 rfl (S := []) rfl (Nat.le_of_ble_eq_true rfl) (Nat.le_of_ble_eq_true rfl) (Nat.le_of_ble_eq_true rfl) ⟨by omega, by omega⟩ dL_law__864 ?_
    refine ug_istore [(5, .int 1), (0, .ref (ue_sb E)), (1, .ref (ue_d E 0)), (2, .ref (ue_d E 38)), (3, .ref (ue_d E 63)), (4, .int x4)] dL_law__867 (Nat.le_of_ble_eq_true rfl) rfl ?_
    refine ug_aload_n 3 dL_law__869 rfl rfl ?_
    refine ug_aload_n 1 dL_law__870 rfl rfl ?_
    refine ug_iload 5 dL_law__871 rfl ?_
    refine ug_iconst dL_law__873 un_iconst_1 ?_
    refine ug_iadd dL_law__874 ?_
    refine ug_sld (hin 1 (Nat.le_of_ble_eq_true rfl)) dL_law__875 ?_
    refine ug_aload_n 1 dL_law__876 rfl rfl ?_
    refine ug_iload 5 dL_law__877 rfl ?_
    refine ug_iconst dL_law__879 un_iconst_2 ?_
    refine ug_iadd dL_law__880 ?_
    refine ug_sld (hin 2 (Nat.le_of_ble_eq_true rfl)) dL_law__881 ?_
    refine ug_aload_n 1 dL_law__882 rfl rfl ?_
    refine ug_iload 5 dL_law__883 rfl ?_
    refine ug_iconst dL_law__885 un_iconst_3 ?_
    refine ug_iadd dL_law__886 ?_
    refine ug_sld (hin 3 (Nat.le_of_ble_eq_true rfl)) dL_law__887 ?_
    refine ug_aload_n 1 dL_law__888 rfl rfl ?_
    refine ug_iload 5 dL_law__889 rfl ?_
    refine ug_iconst dL_law__891 un_iconst_4 ?_
    refine ug_iadd dL_law__892 ?_
    refine ug_sld (hin 4 (Nat.le_of_ble_eq_true rfl)) dL_law__893 ?_
    refine ug_aload_n 1 dL_law__894 rfl rfl ?_
    refine ug_iload 5 dL_law__895 rfl ?_
    refine ug_iconst dL_law__897 un_iconst_5 ?_
    refine ug_iadd dL_law__898 ?_
    refine ug_sld (hin 5 (Nat.le_of_ble_eq_true rfl)) dL_law__899 ?_
    refine ug_aload_n 1 dL_law__900 rfl rfl ?_
    refine ug_iload 5 dL_law__901 rfl ?_
    refine ug_bipush dL_law__903 (v := 6) (by decide) ?_
    refine ug_iadd dL_law__905 ?_
    refine ug_sld (hin 6 (Nat.le_of_ble_eq_true rfl)) dL_law__906 ?_
    refine ug_aload_n 1 dL_law__907 rfl rfl ?_
    refine ug_iload 5 dL_law__908 rfl ?_
    refine ug_bipush dL_law__910 (v := 7) (by decide) ?_
    refine ug_iadd dL_law__912 ?_
    refine ug_sld (hin 7 (Nat.le_of_ble_eq_true rfl)) dL_law__913 ?_
    refine ug_aload_n 1 dL_law__914 rfl rfl ?_
    refine ug_iload 5 dL_law__915 rfl ?_
    refine ug_bipush dL_law__917 (v := 8) (by decide) ?_
    refine ug_iadd dL_law__919 ?_
    refine ug_sld (hin 8 (Nat.le_of_ble_eq_true rfl)) dL_law__920 ?_
    refine ug_callVL [.int b] [.int (ue_sx E (x4 + 1).toNatClampNeg), .int (ue_sx E (x4 + 2).toNatClampNeg), .int (ue_sx E (x4 + 3).toNatClampNeg), .int (ue_sx E (x4 + 4).toNatClampNeg), .int (ue_sx E (x4 + 5).toNatClampNeg), .int (ue_sx E (x4 + 6).toNatClampNeg), .int (ue_sx E (x4 + 7).toNatClampNeg), .int (ue_sx E (x4 + 8).toNatClampNeg)] (c_X8_would e2) kc_L_174 ro_38 rfl (S := []) rfl rfl (Nat.le_of_ble_eq_true rfl) (Nat.le_of_ble_eq_true rfl) (Nat.le_of_ble_eq_true rfl) ⟨by omega, by omega⟩ dL_law__921 ?_
    refine ug_istore [(6, .int b), (5, .int 1), (0, .ref (ue_sb E)), (1, .ref (ue_d E 0)), (2, .ref (ue_d E 38)), (3, .ref (ue_d E 63)), (4, .int x4)] dL_law__924 (Nat.le_of_ble_eq_true rfl) rfl ?_
    refine ug_aload_n 4 dL_law__926 rfl rfl ?_
    refine ug_callVL [.int (m2 38 0)] [] (c_X8_thrown rfl) kc_L_137 ro_38 rfl (S := []) rfl rfl (Nat.le_of_ble_eq_true rfl) (Nat.le_of_ble_eq_true rfl) (Nat.le_of_ble_eq_true rfl) ⟨by omega, by omega⟩ dL_law__927 ?_
    refine ug_iload 1 dL_law__930 rfl ?_
    refine ug_icmp_eq 937 dL_law__932 (by decide) (fun _ => ?_) (fun q => absurd e3 q)
    refine ug_iload 1 dL_law__937 rfl ?_
    refine ug_if_ne 954 dL_law__939 (by decide) (fun _ => ?_) (fun q => absurd q (by decide))
    refine ug_goto 2807 dL_law__954 (by decide) ?_
    refine ug_iinc (v := (x4 + 9)) [(4, .int (x4 + 9)), (6, .int b), (5, .int 1), (0, .ref (ue_sb E)), (1, .ref (ue_d E 0)), (2, .ref (ue_d E 38)), (3, .ref (ue_d E 63))] 6 dL_law__2807 rfl rfl (Nat.le_of_ble_eq_true rfl) rfl ?_
    refine ug_goto 23 dL_law__2810 (by decide) ?_
    refine ug_sub [(0, .ref (ue_sb E)), (1, .ref (ue_d E 0)), (2, .ref (ue_d E 38)), (3, .ref (ue_d E 63)), (4, .int (x4 + 9))] [3, 4, 5, 6, 0] rfl ?_
    exact ih
set_option maxRecDepth 20000 in
theorem law_ahead {l : Launch} {E : Ue} (hx : ue_x E = [.inr (3, 1)]) {I : Um → Prop} (h : uop_ahead I) {mc ms ce sl n : Nat} {x4 : Int32} (hin : ∀ q, q ≤ 8 → vp_in (x4 + nI q) (ue_sn E)) (ih : ∀ (m2 : Um) (ce sl : Nat), I m2 → ce + n ≤ mc → sl + 6 * n ≤ ms → ∃ m9, ug l E 2048 mc ms cL_law_ 8 RL (some .boolean) [] (.inl (some (.int 1), m9)) ce sl 23 [(0, .ref (ue_sb E)), (1, .ref (ue_d E 0)), (2, .ref (ue_d E 38)), (3, .ref (ue_d E 63)), (4, .int (x4 + 9))] [] m2) {mem : Um} (hI : I mem) (hc : ce + (n + 1) ≤ mc) (hs : sl + 6 * (n + 1) ≤ ms) : ∃ m9, ug l E 2048 mc ms cL_law_ 8 RL (some .boolean) [] (.inl (some (.int 1), m9)) ce sl 957 [(0, .ref (ue_sb E)), (1, .ref (ue_d E 0)), (2, .ref (ue_d E 38)), (3, .ref (ue_d E 63)), (4, .int x4)] [] mem := by
  rcases h mem (ue_sx E (x4 + 1).toNatClampNeg) (ue_sx E (x4 + 2).toNatClampNeg) hI with ⟨m1, r, m2, e1, e2, e3, e4, hI⟩ | ⟨m1, m2, b, e1, e2, e3, hI⟩
  · obtain ⟨m9, ih⟩ := ih m2 (ce + 1) (sl + 6) hI (by omega) (by omega)
    refine ⟨m9, ?_⟩
    refine ug_aload_n 1 dL_law__957 rfl rfl ?_
    refine ug_aload_n 0 dL_law__958 rfl rfl ?_
    refine ug_iload 4 dL_law__959 rfl ?_
    refine ug_iconst dL_law__961 un_iconst_1 ?_
    refine ug_iadd dL_law__962 ?_
    refine ug_sld (hin 1 (Nat.le_of_ble_eq_true rfl)) dL_law__963 ?_
    refine ug_aload_n 0 dL_law__964 rfl rfl ?_
    refine ug_iload 4 dL_law__965 rfl ?_
    refine ug_iconst dL_law__967 un_iconst_2 ?_
    refine ug_iadd dL_law__968 ?_
    refine ug_sld (hin 2 (Nat.le_of_ble_eq_true rfl)) dL_law__969 ?_
    refine ug_aload_n 3 dL_law__970 rfl rfl ?_
    refine ug_callW [.ref (ue_d E 0), .int (ue_sx E (x4 + 1).toNatClampNeg), .int (ue_sx E (x4 + 2).toNatClampNeg), .ref (ue_d E 63)] (c_L_ahead_r hx e1) kv_L_175 rfl (S := []) rfl (Nat.le_of_ble_eq_true rfl) (Nat.le_of_ble_eq_true rfl) (Nat.le_of_ble_eq_true rfl) ⟨by omega, by omega⟩ dL_law__971 ?_
    refine ug_istore [(5, .int 0), (0, .ref (ue_sb E)), (1, .ref (ue_d E 0)), (2, .ref (ue_d E 38)), (3, .ref (ue_d E 63)), (4, .int x4)] dL_law__974 (Nat.le_of_ble_eq_true rfl) rfl ?_
    refine ug_aload_n 3 dL_law__976 rfl rfl ?_
    refine ug_aload_n 1 dL_law__977 rfl rfl ?_
    refine ug_iload 5 dL_law__978 rfl ?_
    refine ug_iconst dL_law__980 un_iconst_1 ?_
    refine ug_iadd dL_law__981 ?_
    refine ug_sld (hin 1 (Nat.le_of_ble_eq_true rfl)) dL_law__982 ?_
    refine ug_aload_n 1 dL_law__983 rfl rfl ?_
    refine ug_iload 5 dL_law__984 rfl ?_
    refine ug_iconst dL_law__986 un_iconst_2 ?_
    refine ug_iadd dL_law__987 ?_
    refine ug_sld (hin 2 (Nat.le_of_ble_eq_true rfl)) dL_law__988 ?_
    refine ug_callVL [.int r] [.int (ue_sx E (x4 + 1).toNatClampNeg), .int (ue_sx E (x4 + 2).toNatClampNeg)] (c_X8_ahead e2) kc_L_177 ro_38 rfl (S := []) rfl rfl (Nat.le_of_ble_eq_true rfl) (Nat.le_of_ble_eq_true rfl) (Nat.le_of_ble_eq_true rfl) ⟨by omega, by omega⟩ dL_law__989 ?_
    refine ug_istore [(6, .int r), (5, .int 0), (0, .ref (ue_sb E)), (1, .ref (ue_d E 0)), (2, .ref (ue_d E 38)), (3, .ref (ue_d E 63)), (4, .int x4)] dL_law__992 (Nat.le_of_ble_eq_true rfl) rfl ?_
    refine ug_aload_n 4 dL_law__994 rfl rfl ?_
    refine ug_callVL [.int (m2 38 0)] [] (c_X8_thrown rfl) kc_L_137 ro_38 rfl (S := []) rfl rfl (Nat.le_of_ble_eq_true rfl) (Nat.le_of_ble_eq_true rfl) (Nat.le_of_ble_eq_true rfl) ⟨by omega, by omega⟩ dL_law__995 ?_
    refine ug_iload 1 dL_law__998 rfl ?_
    refine ug_icmp_eq 1005 dL_law__1000 (by decide) (fun _ => ?_) (fun q => absurd e3 q)
    refine ug_iload 1 dL_law__1005 rfl ?_
    refine ug_if_ne 1022 dL_law__1007 (by decide) (fun q => absurd rfl q) (fun _ => ?_)
    refine ug_aload_n 5 dL_law__1010 rfl rfl ?_
    refine ug_iconst dL_law__1011 un_iconst_0 ?_
    refine ug_lald hx dL_law__1012 ?_
    refine ug_iload 0 dL_law__1013 rfl ?_
    refine ug_i2l dL_law__1015 ?_
    refine ug_lcmp dL_law__1016 ?_
    refine ug_if_eq 1022 dL_law__1017 (by decide) (fun _ => ?_) (fun q => absurd (ulaw_cmp e4) q)
    refine ug_goto 2807 dL_law__1022 (by decide) ?_
    refine ug_iinc (v := (x4 + 9)) [(4, .int (x4 + 9)), (6, .int r), (5, .int 0), (0, .ref (ue_sb E)), (1, .ref (ue_d E 0)), (2, .ref (ue_d E 38)), (3, .ref (ue_d E 63))] 6 dL_law__2807 rfl rfl (Nat.le_of_ble_eq_true rfl) rfl ?_
    refine ug_goto 23 dL_law__2810 (by decide) ?_
    refine ug_sub [(0, .ref (ue_sb E)), (1, .ref (ue_d E 0)), (2, .ref (ue_d E 38)), (3, .ref (ue_d E 63)), (4, .int (x4 + 9))] [3, 4, 5, 6, 0] rfl ?_
    exact ih
  · obtain ⟨m9, ih⟩ := ih m2 (ce + 1) (sl + 6) hI (by omega) (by omega)
    refine ⟨m9, ?_⟩
    refine ug_aload_n 1 dL_law__957 rfl rfl ?_
    refine ug_aload_n 0 dL_law__958 rfl rfl ?_
    refine ug_iload 4 dL_law__959 rfl ?_
    refine ug_iconst dL_law__961 un_iconst_1 ?_
    refine ug_iadd dL_law__962 ?_
    refine ug_sld (hin 1 (Nat.le_of_ble_eq_true rfl)) dL_law__963 ?_
    refine ug_aload_n 0 dL_law__964 rfl rfl ?_
    refine ug_iload 4 dL_law__965 rfl ?_
    refine ug_iconst dL_law__967 un_iconst_2 ?_
    refine ug_iadd dL_law__968 ?_
    refine ug_sld (hin 2 (Nat.le_of_ble_eq_true rfl)) dL_law__969 ?_
    refine ug_aload_n 3 dL_law__970 rfl rfl ?_
    refine ug_callW [.ref (ue_d E 0), .int (ue_sx E (x4 + 1).toNatClampNeg), .int (ue_sx E (x4 + 2).toNatClampNeg), .ref (ue_d E 63)] (c_L_ahead_i e1) kv_L_175 rfl (S := []) rfl (Nat.le_of_ble_eq_true rfl) (Nat.le_of_ble_eq_true rfl) (Nat.le_of_ble_eq_true rfl) ⟨by omega, by omega⟩ dL_law__971 ?_
    refine ug_istore [(5, .int 1), (0, .ref (ue_sb E)), (1, .ref (ue_d E 0)), (2, .ref (ue_d E 38)), (3, .ref (ue_d E 63)), (4, .int x4)] dL_law__974 (Nat.le_of_ble_eq_true rfl) rfl ?_
    refine ug_aload_n 3 dL_law__976 rfl rfl ?_
    refine ug_aload_n 1 dL_law__977 rfl rfl ?_
    refine ug_iload 5 dL_law__978 rfl ?_
    refine ug_iconst dL_law__980 un_iconst_1 ?_
    refine ug_iadd dL_law__981 ?_
    refine ug_sld (hin 1 (Nat.le_of_ble_eq_true rfl)) dL_law__982 ?_
    refine ug_aload_n 1 dL_law__983 rfl rfl ?_
    refine ug_iload 5 dL_law__984 rfl ?_
    refine ug_iconst dL_law__986 un_iconst_2 ?_
    refine ug_iadd dL_law__987 ?_
    refine ug_sld (hin 2 (Nat.le_of_ble_eq_true rfl)) dL_law__988 ?_
    refine ug_callVL [.int b] [.int (ue_sx E (x4 + 1).toNatClampNeg), .int (ue_sx E (x4 + 2).toNatClampNeg)] (c_X8_ahead e2) kc_L_177 ro_38 rfl (S := []) rfl rfl (Nat.le_of_ble_eq_true rfl) (Nat.le_of_ble_eq_true rfl) (Nat.le_of_ble_eq_true rfl) ⟨by omega, by omega⟩ dL_law__989 ?_
    refine ug_istore [(6, .int b), (5, .int 1), (0, .ref (ue_sb E)), (1, .ref (ue_d E 0)), (2, .ref (ue_d E 38)), (3, .ref (ue_d E 63)), (4, .int x4)] dL_law__992 (Nat.le_of_ble_eq_true rfl) rfl ?_
    refine ug_aload_n 4 dL_law__994 rfl rfl ?_
    refine ug_callVL [.int (m2 38 0)] [] (c_X8_thrown rfl) kc_L_137 ro_38 rfl (S := []) rfl rfl (Nat.le_of_ble_eq_true rfl) (Nat.le_of_ble_eq_true rfl) (Nat.le_of_ble_eq_true rfl) ⟨by omega, by omega⟩ dL_law__995 ?_
    refine ug_iload 1 dL_law__998 rfl ?_
    refine ug_icmp_eq 1005 dL_law__1000 (by decide) (fun _ => ?_) (fun q => absurd e3 q)
    refine ug_iload 1 dL_law__1005 rfl ?_
    refine ug_if_ne 1022 dL_law__1007 (by decide) (fun _ => ?_) (fun q => absurd q (by decide))
    refine ug_goto 2807 dL_law__1022 (by decide) ?_
    refine ug_iinc (v := (x4 + 9)) [(4, .int (x4 + 9)), (6, .int b), (5, .int 1), (0, .ref (ue_sb E)), (1, .ref (ue_d E 0)), (2, .ref (ue_d E 38)), (3, .ref (ue_d E 63))] 6 dL_law__2807 rfl rfl (Nat.le_of_ble_eq_true rfl) rfl ?_
    refine ug_goto 23 dL_law__2810 (by decide) ?_
    refine ug_sub [(0, .ref (ue_sb E)), (1, .ref (ue_d E 0)), (2, .ref (ue_d E 38)), (3, .ref (ue_d E 63)), (4, .int (x4 + 9))] [3, 4, 5, 6, 0] rfl ?_
    exact ih
set_option maxRecDepth 20000 in
theorem law_wall {l : Launch} {E : Ue} (hx : ue_x E = [.inr (3, 1)]) {I : Um → Prop} (h : uop_wall I) {mc ms ce sl n : Nat} {x4 : Int32} (hin : ∀ q, q ≤ 8 → vp_in (x4 + nI q) (ue_sn E)) (ih : ∀ (m2 : Um) (ce sl : Nat), I m2 → ce + n ≤ mc → sl + 6 * n ≤ ms → ∃ m9, ug l E 2048 mc ms cL_law_ 8 RL (some .boolean) [] (.inl (some (.int 1), m9)) ce sl 23 [(0, .ref (ue_sb E)), (1, .ref (ue_d E 0)), (2, .ref (ue_d E 38)), (3, .ref (ue_d E 63)), (4, .int (x4 + 9))] [] m2) {mem : Um} (hI : I mem) (hc : ce + (n + 1) ≤ mc) (hs : sl + 6 * (n + 1) ≤ ms) : ∃ m9, ug l E 2048 mc ms cL_law_ 8 RL (some .boolean) [] (.inl (some (.int 1), m9)) ce sl 1025 [(0, .ref (ue_sb E)), (1, .ref (ue_d E 0)), (2, .ref (ue_d E 38)), (3, .ref (ue_d E 63)), (4, .int x4)] [] mem := by
  rcases h mem (ue_sx E (x4 + 1).toNatClampNeg) (ue_sx E (x4 + 2).toNatClampNeg) (ue_sx E (x4 + 3).toNatClampNeg) hI with ⟨m1, r, m2, e1, e2, e3, e4, hI⟩ | ⟨m1, m2, b, e1, e2, e3, hI⟩ | ⟨m1, m2, b, e1, e2, e3, hI⟩
  · obtain ⟨m9, ih⟩ := ih m2 (ce + 1) (sl + 6) hI (by omega) (by omega)
    refine ⟨m9, ?_⟩
    refine ug_aload_n 1 dL_law__1025 rfl rfl ?_
    refine ug_aload_n 0 dL_law__1026 rfl rfl ?_
    refine ug_iload 4 dL_law__1027 rfl ?_
    refine ug_iconst dL_law__1029 un_iconst_1 ?_
    refine ug_iadd dL_law__1030 ?_
    refine ug_sld (hin 1 (Nat.le_of_ble_eq_true rfl)) dL_law__1031 ?_
    refine ug_aload_n 0 dL_law__1032 rfl rfl ?_
    refine ug_iload 4 dL_law__1033 rfl ?_
    refine ug_iconst dL_law__1035 un_iconst_2 ?_
    refine ug_iadd dL_law__1036 ?_
    refine ug_sld (hin 2 (Nat.le_of_ble_eq_true rfl)) dL_law__1037 ?_
    refine ug_aload_n 0 dL_law__1038 rfl rfl ?_
    refine ug_iload 4 dL_law__1039 rfl ?_
    refine ug_iconst dL_law__1041 un_iconst_3 ?_
    refine ug_iadd dL_law__1042 ?_
    refine ug_sld (hin 3 (Nat.le_of_ble_eq_true rfl)) dL_law__1043 ?_
    refine ug_aload_n 3 dL_law__1044 rfl rfl ?_
    refine ug_callW [.ref (ue_d E 0), .int (ue_sx E (x4 + 1).toNatClampNeg), .int (ue_sx E (x4 + 2).toNatClampNeg), .int (ue_sx E (x4 + 3).toNatClampNeg), .ref (ue_d E 63)] (c_L_wall_r hx e1) kv_L_178 rfl (S := []) rfl (Nat.le_of_ble_eq_true rfl) (Nat.le_of_ble_eq_true rfl) (Nat.le_of_ble_eq_true rfl) ⟨by omega, by omega⟩ dL_law__1045 ?_
    refine ug_istore [(5, .int 0), (0, .ref (ue_sb E)), (1, .ref (ue_d E 0)), (2, .ref (ue_d E 38)), (3, .ref (ue_d E 63)), (4, .int x4)] dL_law__1048 (Nat.le_of_ble_eq_true rfl) rfl ?_
    refine ug_aload_n 3 dL_law__1050 rfl rfl ?_
    refine ug_aload_n 1 dL_law__1051 rfl rfl ?_
    refine ug_iload 5 dL_law__1052 rfl ?_
    refine ug_iconst dL_law__1054 un_iconst_1 ?_
    refine ug_iadd dL_law__1055 ?_
    refine ug_sld (hin 1 (Nat.le_of_ble_eq_true rfl)) dL_law__1056 ?_
    refine ug_aload_n 1 dL_law__1057 rfl rfl ?_
    refine ug_iload 5 dL_law__1058 rfl ?_
    refine ug_iconst dL_law__1060 un_iconst_2 ?_
    refine ug_iadd dL_law__1061 ?_
    refine ug_sld (hin 2 (Nat.le_of_ble_eq_true rfl)) dL_law__1062 ?_
    refine ug_aload_n 1 dL_law__1063 rfl rfl ?_
    refine ug_iload 5 dL_law__1064 rfl ?_
    refine ug_iconst dL_law__1066 un_iconst_3 ?_
    refine ug_iadd dL_law__1067 ?_
    refine ug_sld (hin 3 (Nat.le_of_ble_eq_true rfl)) dL_law__1068 ?_
    refine ug_callVL [.int r] [.int (ue_sx E (x4 + 1).toNatClampNeg), .int (ue_sx E (x4 + 2).toNatClampNeg), .int (ue_sx E (x4 + 3).toNatClampNeg)] (c_X8_wall e2) kc_L_181 ro_38 rfl (S := []) rfl rfl (Nat.le_of_ble_eq_true rfl) (Nat.le_of_ble_eq_true rfl) (Nat.le_of_ble_eq_true rfl) ⟨by omega, by omega⟩ dL_law__1069 ?_
    refine ug_istore [(6, .int r), (5, .int 0), (0, .ref (ue_sb E)), (1, .ref (ue_d E 0)), (2, .ref (ue_d E 38)), (3, .ref (ue_d E 63)), (4, .int x4)] dL_law__1072 (Nat.le_of_ble_eq_true rfl) rfl ?_
    refine ug_aload_n 4 dL_law__1074 rfl rfl ?_
    refine ug_callVL [.int (m2 38 0)] [] (c_X8_thrown rfl) kc_L_137 ro_38 rfl (S := []) rfl rfl (Nat.le_of_ble_eq_true rfl) (Nat.le_of_ble_eq_true rfl) (Nat.le_of_ble_eq_true rfl) ⟨by omega, by omega⟩ dL_law__1075 ?_
    refine ug_iload 1 dL_law__1078 rfl ?_
    refine ug_icmp_eq 1085 dL_law__1080 (by decide) (fun _ => ?_) (fun q => absurd e3 q)
    refine ug_iload 1 dL_law__1085 rfl ?_
    refine ug_if_ne 1102 dL_law__1087 (by decide) (fun q => absurd rfl q) (fun _ => ?_)
    refine ug_aload_n 5 dL_law__1090 rfl rfl ?_
    refine ug_iconst dL_law__1091 un_iconst_0 ?_
    refine ug_lald hx dL_law__1092 ?_
    refine ug_iload 0 dL_law__1093 rfl ?_
    refine ug_i2l dL_law__1095 ?_
    refine ug_lcmp dL_law__1096 ?_
    refine ug_if_eq 1102 dL_law__1097 (by decide) (fun _ => ?_) (fun q => absurd (ulaw_cmp e4) q)
    refine ug_goto 2807 dL_law__1102 (by decide) ?_
    refine ug_iinc (v := (x4 + 9)) [(4, .int (x4 + 9)), (6, .int r), (5, .int 0), (0, .ref (ue_sb E)), (1, .ref (ue_d E 0)), (2, .ref (ue_d E 38)), (3, .ref (ue_d E 63))] 6 dL_law__2807 rfl rfl (Nat.le_of_ble_eq_true rfl) rfl ?_
    refine ug_goto 23 dL_law__2810 (by decide) ?_
    refine ug_sub [(0, .ref (ue_sb E)), (1, .ref (ue_d E 0)), (2, .ref (ue_d E 38)), (3, .ref (ue_d E 63)), (4, .int (x4 + 9))] [3, 4, 5, 6, 0] rfl ?_
    exact ih
  · obtain ⟨m9, ih⟩ := ih m2 (ce + 1) (sl + 6) hI (by omega) (by omega)
    refine ⟨m9, ?_⟩
    refine ug_aload_n 1 dL_law__1025 rfl rfl ?_
    refine ug_aload_n 0 dL_law__1026 rfl rfl ?_
    refine ug_iload 4 dL_law__1027 rfl ?_
    refine ug_iconst dL_law__1029 un_iconst_1 ?_
    refine ug_iadd dL_law__1030 ?_
    refine ug_sld (hin 1 (Nat.le_of_ble_eq_true rfl)) dL_law__1031 ?_
    refine ug_aload_n 0 dL_law__1032 rfl rfl ?_
    refine ug_iload 4 dL_law__1033 rfl ?_
    refine ug_iconst dL_law__1035 un_iconst_2 ?_
    refine ug_iadd dL_law__1036 ?_
    refine ug_sld (hin 2 (Nat.le_of_ble_eq_true rfl)) dL_law__1037 ?_
    refine ug_aload_n 0 dL_law__1038 rfl rfl ?_
    refine ug_iload 4 dL_law__1039 rfl ?_
    refine ug_iconst dL_law__1041 un_iconst_3 ?_
    refine ug_iadd dL_law__1042 ?_
    refine ug_sld (hin 3 (Nat.le_of_ble_eq_true rfl)) dL_law__1043 ?_
    refine ug_aload_n 3 dL_law__1044 rfl rfl ?_
    refine ug_callW [.ref (ue_d E 0), .int (ue_sx E (x4 + 1).toNatClampNeg), .int (ue_sx E (x4 + 2).toNatClampNeg), .int (ue_sx E (x4 + 3).toNatClampNeg), .ref (ue_d E 63)] (c_L_wall_n e1) kv_L_178 rfl (S := []) rfl (Nat.le_of_ble_eq_true rfl) (Nat.le_of_ble_eq_true rfl) (Nat.le_of_ble_eq_true rfl) ⟨by omega, by omega⟩ dL_law__1045 ?_
    refine ug_istore [(5, .int 1), (0, .ref (ue_sb E)), (1, .ref (ue_d E 0)), (2, .ref (ue_d E 38)), (3, .ref (ue_d E 63)), (4, .int x4)] dL_law__1048 (Nat.le_of_ble_eq_true rfl) rfl ?_
    refine ug_aload_n 3 dL_law__1050 rfl rfl ?_
    refine ug_aload_n 1 dL_law__1051 rfl rfl ?_
    refine ug_iload 5 dL_law__1052 rfl ?_
    refine ug_iconst dL_law__1054 un_iconst_1 ?_
    refine ug_iadd dL_law__1055 ?_
    refine ug_sld (hin 1 (Nat.le_of_ble_eq_true rfl)) dL_law__1056 ?_
    refine ug_aload_n 1 dL_law__1057 rfl rfl ?_
    refine ug_iload 5 dL_law__1058 rfl ?_
    refine ug_iconst dL_law__1060 un_iconst_2 ?_
    refine ug_iadd dL_law__1061 ?_
    refine ug_sld (hin 2 (Nat.le_of_ble_eq_true rfl)) dL_law__1062 ?_
    refine ug_aload_n 1 dL_law__1063 rfl rfl ?_
    refine ug_iload 5 dL_law__1064 rfl ?_
    refine ug_iconst dL_law__1066 un_iconst_3 ?_
    refine ug_iadd dL_law__1067 ?_
    refine ug_sld (hin 3 (Nat.le_of_ble_eq_true rfl)) dL_law__1068 ?_
    refine ug_callVL [.int b] [.int (ue_sx E (x4 + 1).toNatClampNeg), .int (ue_sx E (x4 + 2).toNatClampNeg), .int (ue_sx E (x4 + 3).toNatClampNeg)] (c_X8_wall e2) kc_L_181 ro_38 rfl (S := []) rfl rfl (Nat.le_of_ble_eq_true rfl) (Nat.le_of_ble_eq_true rfl) (Nat.le_of_ble_eq_true rfl) ⟨by omega, by omega⟩ dL_law__1069 ?_
    refine ug_istore [(6, .int b), (5, .int 1), (0, .ref (ue_sb E)), (1, .ref (ue_d E 0)), (2, .ref (ue_d E 38)), (3, .ref (ue_d E 63)), (4, .int x4)] dL_law__1072 (Nat.le_of_ble_eq_true rfl) rfl ?_
    refine ug_aload_n 4 dL_law__1074 rfl rfl ?_
    refine ug_callVL [.int (m2 38 0)] [] (c_X8_thrown rfl) kc_L_137 ro_38 rfl (S := []) rfl rfl (Nat.le_of_ble_eq_true rfl) (Nat.le_of_ble_eq_true rfl) (Nat.le_of_ble_eq_true rfl) ⟨by omega, by omega⟩ dL_law__1075 ?_
    refine ug_iload 1 dL_law__1078 rfl ?_
    refine ug_icmp_eq 1085 dL_law__1080 (by decide) (fun _ => ?_) (fun q => absurd e3 q)
    refine ug_iload 1 dL_law__1085 rfl ?_
    refine ug_if_ne 1102 dL_law__1087 (by decide) (fun _ => ?_) (fun q => absurd q (by decide))
    refine ug_goto 2807 dL_law__1102 (by decide) ?_
    refine ug_iinc (v := (x4 + 9)) [(4, .int (x4 + 9)), (6, .int b), (5, .int 1), (0, .ref (ue_sb E)), (1, .ref (ue_d E 0)), (2, .ref (ue_d E 38)), (3, .ref (ue_d E 63))] 6 dL_law__2807 rfl rfl (Nat.le_of_ble_eq_true rfl) rfl ?_
    refine ug_goto 23 dL_law__2810 (by decide) ?_
    refine ug_sub [(0, .ref (ue_sb E)), (1, .ref (ue_d E 0)), (2, .ref (ue_d E 38)), (3, .ref (ue_d E 63)), (4, .int (x4 + 9))] [3, 4, 5, 6, 0] rfl ?_
    exact ih
  · obtain ⟨m9, ih⟩ := ih m2 (ce + 1) (sl + 6) hI (by omega) (by omega)
    refine ⟨m9, ?_⟩
    refine ug_aload_n 1 dL_law__1025 rfl rfl ?_
    refine ug_aload_n 0 dL_law__1026 rfl rfl ?_
    refine ug_iload 4 dL_law__1027 rfl ?_
    refine ug_iconst dL_law__1029 un_iconst_1 ?_
    refine ug_iadd dL_law__1030 ?_
    refine ug_sld (hin 1 (Nat.le_of_ble_eq_true rfl)) dL_law__1031 ?_
    refine ug_aload_n 0 dL_law__1032 rfl rfl ?_
    refine ug_iload 4 dL_law__1033 rfl ?_
    refine ug_iconst dL_law__1035 un_iconst_2 ?_
    refine ug_iadd dL_law__1036 ?_
    refine ug_sld (hin 2 (Nat.le_of_ble_eq_true rfl)) dL_law__1037 ?_
    refine ug_aload_n 0 dL_law__1038 rfl rfl ?_
    refine ug_iload 4 dL_law__1039 rfl ?_
    refine ug_iconst dL_law__1041 un_iconst_3 ?_
    refine ug_iadd dL_law__1042 ?_
    refine ug_sld (hin 3 (Nat.le_of_ble_eq_true rfl)) dL_law__1043 ?_
    refine ug_aload_n 3 dL_law__1044 rfl rfl ?_
    refine ug_callW [.ref (ue_d E 0), .int (ue_sx E (x4 + 1).toNatClampNeg), .int (ue_sx E (x4 + 2).toNatClampNeg), .int (ue_sx E (x4 + 3).toNatClampNeg), .ref (ue_d E 63)] (c_L_wall_i e1) kv_L_178 rfl (S := []) rfl (Nat.le_of_ble_eq_true rfl) (Nat.le_of_ble_eq_true rfl) (Nat.le_of_ble_eq_true rfl) ⟨by omega, by omega⟩ dL_law__1045 ?_
    refine ug_istore [(5, .int 2), (0, .ref (ue_sb E)), (1, .ref (ue_d E 0)), (2, .ref (ue_d E 38)), (3, .ref (ue_d E 63)), (4, .int x4)] dL_law__1048 (Nat.le_of_ble_eq_true rfl) rfl ?_
    refine ug_aload_n 3 dL_law__1050 rfl rfl ?_
    refine ug_aload_n 1 dL_law__1051 rfl rfl ?_
    refine ug_iload 5 dL_law__1052 rfl ?_
    refine ug_iconst dL_law__1054 un_iconst_1 ?_
    refine ug_iadd dL_law__1055 ?_
    refine ug_sld (hin 1 (Nat.le_of_ble_eq_true rfl)) dL_law__1056 ?_
    refine ug_aload_n 1 dL_law__1057 rfl rfl ?_
    refine ug_iload 5 dL_law__1058 rfl ?_
    refine ug_iconst dL_law__1060 un_iconst_2 ?_
    refine ug_iadd dL_law__1061 ?_
    refine ug_sld (hin 2 (Nat.le_of_ble_eq_true rfl)) dL_law__1062 ?_
    refine ug_aload_n 1 dL_law__1063 rfl rfl ?_
    refine ug_iload 5 dL_law__1064 rfl ?_
    refine ug_iconst dL_law__1066 un_iconst_3 ?_
    refine ug_iadd dL_law__1067 ?_
    refine ug_sld (hin 3 (Nat.le_of_ble_eq_true rfl)) dL_law__1068 ?_
    refine ug_callVL [.int b] [.int (ue_sx E (x4 + 1).toNatClampNeg), .int (ue_sx E (x4 + 2).toNatClampNeg), .int (ue_sx E (x4 + 3).toNatClampNeg)] (c_X8_wall e2) kc_L_181 ro_38 rfl (S := []) rfl rfl (Nat.le_of_ble_eq_true rfl) (Nat.le_of_ble_eq_true rfl) (Nat.le_of_ble_eq_true rfl) ⟨by omega, by omega⟩ dL_law__1069 ?_
    refine ug_istore [(6, .int b), (5, .int 2), (0, .ref (ue_sb E)), (1, .ref (ue_d E 0)), (2, .ref (ue_d E 38)), (3, .ref (ue_d E 63)), (4, .int x4)] dL_law__1072 (Nat.le_of_ble_eq_true rfl) rfl ?_
    refine ug_aload_n 4 dL_law__1074 rfl rfl ?_
    refine ug_callVL [.int (m2 38 0)] [] (c_X8_thrown rfl) kc_L_137 ro_38 rfl (S := []) rfl rfl (Nat.le_of_ble_eq_true rfl) (Nat.le_of_ble_eq_true rfl) (Nat.le_of_ble_eq_true rfl) ⟨by omega, by omega⟩ dL_law__1075 ?_
    refine ug_iload 1 dL_law__1078 rfl ?_
    refine ug_icmp_eq 1085 dL_law__1080 (by decide) (fun _ => ?_) (fun q => absurd e3 q)
    refine ug_iload 1 dL_law__1085 rfl ?_
    refine ug_if_ne 1102 dL_law__1087 (by decide) (fun _ => ?_) (fun q => absurd q (by decide))
    refine ug_goto 2807 dL_law__1102 (by decide) ?_
    refine ug_iinc (v := (x4 + 9)) [(4, .int (x4 + 9)), (6, .int b), (5, .int 2), (0, .ref (ue_sb E)), (1, .ref (ue_d E 0)), (2, .ref (ue_d E 38)), (3, .ref (ue_d E 63))] 6 dL_law__2807 rfl rfl (Nat.le_of_ble_eq_true rfl) rfl ?_
    refine ug_goto 23 dL_law__2810 (by decide) ?_
    refine ug_sub [(0, .ref (ue_sb E)), (1, .ref (ue_d E 0)), (2, .ref (ue_d E 38)), (3, .ref (ue_d E 63)), (4, .int (x4 + 9))] [3, 4, 5, 6, 0] rfl ?_
    exact ih
set_option maxRecDepth 20000 in
theorem law_lasts {l : Launch} {E : Ue} (hx : ue_x E = [.inr (3, 1)]) {I : Um → Prop} (h : uop_lasts I) {mc ms ce sl n : Nat} {x4 : Int32} (hin : ∀ q, q ≤ 8 → vp_in (x4 + nI q) (ue_sn E)) (ih : ∀ (m2 : Um) (ce sl : Nat), I m2 → ce + n ≤ mc → sl + 6 * n ≤ ms → ∃ m9, ug l E 2048 mc ms cL_law_ 8 RL (some .boolean) [] (.inl (some (.int 1), m9)) ce sl 23 [(0, .ref (ue_sb E)), (1, .ref (ue_d E 0)), (2, .ref (ue_d E 38)), (3, .ref (ue_d E 63)), (4, .int (x4 + 9))] [] m2) {mem : Um} (hI : I mem) (hc : ce + (n + 1) ≤ mc) (hs : sl + 6 * (n + 1) ≤ ms) : ∃ m9, ug l E 2048 mc ms cL_law_ 8 RL (some .boolean) [] (.inl (some (.int 1), m9)) ce sl 1105 [(0, .ref (ue_sb E)), (1, .ref (ue_d E 0)), (2, .ref (ue_d E 38)), (3, .ref (ue_d E 63)), (4, .int x4)] [] mem := by
  rcases h mem (ue_sx E (x4 + 1).toNatClampNeg) hI with ⟨m1, r, m2, e1, e2, e3, e4, hI⟩ | ⟨m1, m2, b, e1, e2, e3, hI⟩
  · obtain ⟨m9, ih⟩ := ih m2 (ce + 1) (sl + 6) hI (by omega) (by omega)
    refine ⟨m9, ?_⟩
    refine ug_aload_n 1 dL_law__1105 rfl rfl ?_
    refine ug_aload_n 0 dL_law__1106 rfl rfl ?_
    refine ug_iload 4 dL_law__1107 rfl ?_
    refine ug_iconst dL_law__1109 un_iconst_1 ?_
    refine ug_iadd dL_law__1110 ?_
    refine ug_sld (hin 1 (Nat.le_of_ble_eq_true rfl)) dL_law__1111 ?_
    refine ug_aload_n 3 dL_law__1112 rfl rfl ?_
    refine ug_callW [.ref (ue_d E 0), .int (ue_sx E (x4 + 1).toNatClampNeg), .ref (ue_d E 63)] (c_L_lasts_r hx e1) kv_L_182 rfl (S := []) rfl (Nat.le_of_ble_eq_true rfl) (Nat.le_of_ble_eq_true rfl) (Nat.le_of_ble_eq_true rfl) ⟨by omega, by omega⟩ dL_law__1113 ?_
    refine ug_istore [(5, .int 0), (0, .ref (ue_sb E)), (1, .ref (ue_d E 0)), (2, .ref (ue_d E 38)), (3, .ref (ue_d E 63)), (4, .int x4)] dL_law__1116 (Nat.le_of_ble_eq_true rfl) rfl ?_
    refine ug_aload_n 3 dL_law__1118 rfl rfl ?_
    refine ug_aload_n 1 dL_law__1119 rfl rfl ?_
    refine ug_iload 5 dL_law__1120 rfl ?_
    refine ug_iconst dL_law__1122 un_iconst_1 ?_
    refine ug_iadd dL_law__1123 ?_
    refine ug_sld (hin 1 (Nat.le_of_ble_eq_true rfl)) dL_law__1124 ?_
    refine ug_callVL [.int r] [.int (ue_sx E (x4 + 1).toNatClampNeg)] (c_X8_lasts e2) kc_L_184 ro_38 rfl (S := []) rfl rfl (Nat.le_of_ble_eq_true rfl) (Nat.le_of_ble_eq_true rfl) (Nat.le_of_ble_eq_true rfl) ⟨by omega, by omega⟩ dL_law__1125 ?_
    refine ug_istore [(6, .int r), (5, .int 0), (0, .ref (ue_sb E)), (1, .ref (ue_d E 0)), (2, .ref (ue_d E 38)), (3, .ref (ue_d E 63)), (4, .int x4)] dL_law__1128 (Nat.le_of_ble_eq_true rfl) rfl ?_
    refine ug_aload_n 4 dL_law__1130 rfl rfl ?_
    refine ug_callVL [.int (m2 38 0)] [] (c_X8_thrown rfl) kc_L_137 ro_38 rfl (S := []) rfl rfl (Nat.le_of_ble_eq_true rfl) (Nat.le_of_ble_eq_true rfl) (Nat.le_of_ble_eq_true rfl) ⟨by omega, by omega⟩ dL_law__1131 ?_
    refine ug_iload 1 dL_law__1134 rfl ?_
    refine ug_icmp_eq 1141 dL_law__1136 (by decide) (fun _ => ?_) (fun q => absurd e3 q)
    refine ug_iload 1 dL_law__1141 rfl ?_
    refine ug_if_ne 1158 dL_law__1143 (by decide) (fun q => absurd rfl q) (fun _ => ?_)
    refine ug_aload_n 5 dL_law__1146 rfl rfl ?_
    refine ug_iconst dL_law__1147 un_iconst_0 ?_
    refine ug_lald hx dL_law__1148 ?_
    refine ug_iload 0 dL_law__1149 rfl ?_
    refine ug_i2l dL_law__1151 ?_
    refine ug_lcmp dL_law__1152 ?_
    refine ug_if_eq 1158 dL_law__1153 (by decide) (fun _ => ?_) (fun q => absurd (ulaw_cmp e4) q)
    refine ug_goto 2807 dL_law__1158 (by decide) ?_
    refine ug_iinc (v := (x4 + 9)) [(4, .int (x4 + 9)), (6, .int r), (5, .int 0), (0, .ref (ue_sb E)), (1, .ref (ue_d E 0)), (2, .ref (ue_d E 38)), (3, .ref (ue_d E 63))] 6 dL_law__2807 rfl rfl (Nat.le_of_ble_eq_true rfl) rfl ?_
    refine ug_goto 23 dL_law__2810 (by decide) ?_
    refine ug_sub [(0, .ref (ue_sb E)), (1, .ref (ue_d E 0)), (2, .ref (ue_d E 38)), (3, .ref (ue_d E 63)), (4, .int (x4 + 9))] [3, 4, 5, 6, 0] rfl ?_
    exact ih
  · obtain ⟨m9, ih⟩ := ih m2 (ce + 1) (sl + 6) hI (by omega) (by omega)
    refine ⟨m9, ?_⟩
    refine ug_aload_n 1 dL_law__1105 rfl rfl ?_
    refine ug_aload_n 0 dL_law__1106 rfl rfl ?_
    refine ug_iload 4 dL_law__1107 rfl ?_
    refine ug_iconst dL_law__1109 un_iconst_1 ?_
    refine ug_iadd dL_law__1110 ?_
    refine ug_sld (hin 1 (Nat.le_of_ble_eq_true rfl)) dL_law__1111 ?_
    refine ug_aload_n 3 dL_law__1112 rfl rfl ?_
    refine ug_callW [.ref (ue_d E 0), .int (ue_sx E (x4 + 1).toNatClampNeg), .ref (ue_d E 63)] (c_L_lasts_n e1) kv_L_182 rfl (S := []) rfl (Nat.le_of_ble_eq_true rfl) (Nat.le_of_ble_eq_true rfl) (Nat.le_of_ble_eq_true rfl) ⟨by omega, by omega⟩ dL_law__1113 ?_
    refine ug_istore [(5, .int 1), (0, .ref (ue_sb E)), (1, .ref (ue_d E 0)), (2, .ref (ue_d E 38)), (3, .ref (ue_d E 63)), (4, .int x4)] dL_law__1116 (Nat.le_of_ble_eq_true rfl) rfl ?_
    refine ug_aload_n 3 dL_law__1118 rfl rfl ?_
    refine ug_aload_n 1 dL_law__1119 rfl rfl ?_
    refine ug_iload 5 dL_law__1120 rfl ?_
    refine ug_iconst dL_law__1122 un_iconst_1 ?_
    refine ug_iadd dL_law__1123 ?_
    refine ug_sld (hin 1 (Nat.le_of_ble_eq_true rfl)) dL_law__1124 ?_
    refine ug_callVL [.int b] [.int (ue_sx E (x4 + 1).toNatClampNeg)] (c_X8_lasts e2) kc_L_184 ro_38 rfl (S := []) rfl rfl (Nat.le_of_ble_eq_true rfl) (Nat.le_of_ble_eq_true rfl) (Nat.le_of_ble_eq_true rfl) ⟨by omega, by omega⟩ dL_law__1125 ?_
    refine ug_istore [(6, .int b), (5, .int 1), (0, .ref (ue_sb E)), (1, .ref (ue_d E 0)), (2, .ref (ue_d E 38)), (3, .ref (ue_d E 63)), (4, .int x4)] dL_law__1128 (Nat.le_of_ble_eq_true rfl) rfl ?_
    refine ug_aload_n 4 dL_law__1130 rfl rfl ?_
    refine ug_callVL [.int (m2 38 0)] [] (c_X8_thrown rfl) kc_L_137 ro_38 rfl (S := []) rfl rfl (Nat.le_of_ble_eq_true rfl) (Nat.le_of_ble_eq_true rfl) (Nat.le_of_ble_eq_true rfl) ⟨by omega, by omega⟩ dL_law__1131 ?_
    refine ug_iload 1 dL_law__1134 rfl ?_
    refine ug_icmp_eq 1141 dL_law__1136 (by decide) (fun _ => ?_) (fun q => absurd e3 q)
    refine ug_iload 1 dL_law__1141 rfl ?_
    refine ug_if_ne 1158 dL_law__1143 (by decide) (fun _ => ?_) (fun q => absurd q (by decide))
    refine ug_goto 2807 dL_law__1158 (by decide) ?_
    refine ug_iinc (v := (x4 + 9)) [(4, .int (x4 + 9)), (6, .int b), (5, .int 1), (0, .ref (ue_sb E)), (1, .ref (ue_d E 0)), (2, .ref (ue_d E 38)), (3, .ref (ue_d E 63))] 6 dL_law__2807 rfl rfl (Nat.le_of_ble_eq_true rfl) rfl ?_
    refine ug_goto 23 dL_law__2810 (by decide) ?_
    refine ug_sub [(0, .ref (ue_sb E)), (1, .ref (ue_d E 0)), (2, .ref (ue_d E 38)), (3, .ref (ue_d E 63)), (4, .int (x4 + 9))] [3, 4, 5, 6, 0] rfl ?_
    exact ih
set_option maxRecDepth 20000 in
theorem law_pitch {l : Launch} {E : Ue} (hx : ue_x E = [.inr (3, 1)]) {I : Um → Prop} (h : uop_pitch I) {mc ms ce sl n : Nat} {x4 : Int32} (hin : ∀ q, q ≤ 8 → vp_in (x4 + nI q) (ue_sn E)) (ih : ∀ (m2 : Um) (ce sl : Nat), I m2 → ce + n ≤ mc → sl + 6 * n ≤ ms → ∃ m9, ug l E 2048 mc ms cL_law_ 8 RL (some .boolean) [] (.inl (some (.int 1), m9)) ce sl 23 [(0, .ref (ue_sb E)), (1, .ref (ue_d E 0)), (2, .ref (ue_d E 38)), (3, .ref (ue_d E 63)), (4, .int (x4 + 9))] [] m2) {mem : Um} (hI : I mem) (hc : ce + (n + 1) ≤ mc) (hs : sl + 6 * (n + 1) ≤ ms) : ∃ m9, ug l E 2048 mc ms cL_law_ 8 RL (some .boolean) [] (.inl (some (.int 1), m9)) ce sl 1161 [(0, .ref (ue_sb E)), (1, .ref (ue_d E 0)), (2, .ref (ue_d E 38)), (3, .ref (ue_d E 63)), (4, .int x4)] [] mem := by
  rcases h mem (ue_sx E (x4 + 1).toNatClampNeg) (ue_sx E (x4 + 2).toNatClampNeg) hI with ⟨m1, r, m2, e1, e2, e3, e4, hI⟩ | ⟨m1, m2, b, e1, e2, e3, hI⟩
  · obtain ⟨m9, ih⟩ := ih m2 (ce + 1) (sl + 6) hI (by omega) (by omega)
    refine ⟨m9, ?_⟩
    refine ug_aload_n 1 dL_law__1161 rfl rfl ?_
    refine ug_aload_n 0 dL_law__1162 rfl rfl ?_
    refine ug_iload 4 dL_law__1163 rfl ?_
    refine ug_iconst dL_law__1165 un_iconst_1 ?_
    refine ug_iadd dL_law__1166 ?_
    refine ug_sld (hin 1 (Nat.le_of_ble_eq_true rfl)) dL_law__1167 ?_
    refine ug_aload_n 0 dL_law__1168 rfl rfl ?_
    refine ug_iload 4 dL_law__1169 rfl ?_
    refine ug_iconst dL_law__1171 un_iconst_2 ?_
    refine ug_iadd dL_law__1172 ?_
    refine ug_sld (hin 2 (Nat.le_of_ble_eq_true rfl)) dL_law__1173 ?_
    refine ug_aload_n 3 dL_law__1174 rfl rfl ?_
    refine ug_callW [.ref (ue_d E 0), .int (ue_sx E (x4 + 1).toNatClampNeg), .int (ue_sx E (x4 + 2).toNatClampNeg), .ref (ue_d E 63)] (c_L_pitch_r hx e1) kv_L_185 rfl (S := []) rfl (Nat.le_of_ble_eq_true rfl) (Nat.le_of_ble_eq_true rfl) (Nat.le_of_ble_eq_true rfl) ⟨by omega, by omega⟩ dL_law__1175 ?_
    refine ug_istore [(5, .int 0), (0, .ref (ue_sb E)), (1, .ref (ue_d E 0)), (2, .ref (ue_d E 38)), (3, .ref (ue_d E 63)), (4, .int x4)] dL_law__1178 (Nat.le_of_ble_eq_true rfl) rfl ?_
    refine ug_aload_n 3 dL_law__1180 rfl rfl ?_
    refine ug_aload_n 1 dL_law__1181 rfl rfl ?_
    refine ug_iload 5 dL_law__1182 rfl ?_
    refine ug_iconst dL_law__1184 un_iconst_1 ?_
    refine ug_iadd dL_law__1185 ?_
    refine ug_sld (hin 1 (Nat.le_of_ble_eq_true rfl)) dL_law__1186 ?_
    refine ug_aload_n 1 dL_law__1187 rfl rfl ?_
    refine ug_iload 5 dL_law__1188 rfl ?_
    refine ug_iconst dL_law__1190 un_iconst_2 ?_
    refine ug_iadd dL_law__1191 ?_
    refine ug_sld (hin 2 (Nat.le_of_ble_eq_true rfl)) dL_law__1192 ?_
    refine ug_callVL [.int r] [.int (ue_sx E (x4 + 1).toNatClampNeg), .int (ue_sx E (x4 + 2).toNatClampNeg)] (c_X8_pitch e2) kc_L_187 ro_38 rfl (S := []) rfl rfl (Nat.le_of_ble_eq_true rfl) (Nat.le_of_ble_eq_true rfl) (Nat.le_of_ble_eq_true rfl) ⟨by omega, by omega⟩ dL_law__1193 ?_
    refine ug_istore [(6, .int r), (5, .int 0), (0, .ref (ue_sb E)), (1, .ref (ue_d E 0)), (2, .ref (ue_d E 38)), (3, .ref (ue_d E 63)), (4, .int x4)] dL_law__1196 (Nat.le_of_ble_eq_true rfl) rfl ?_
    refine ug_aload_n 4 dL_law__1198 rfl rfl ?_
    refine ug_callVL [.int (m2 38 0)] [] (c_X8_thrown rfl) kc_L_137 ro_38 rfl (S := []) rfl rfl (Nat.le_of_ble_eq_true rfl) (Nat.le_of_ble_eq_true rfl) (Nat.le_of_ble_eq_true rfl) ⟨by omega, by omega⟩ dL_law__1199 ?_
    refine ug_iload 1 dL_law__1202 rfl ?_
    refine ug_icmp_eq 1209 dL_law__1204 (by decide) (fun _ => ?_) (fun q => absurd e3 q)
    refine ug_iload 1 dL_law__1209 rfl ?_
    refine ug_if_ne 1226 dL_law__1211 (by decide) (fun q => absurd rfl q) (fun _ => ?_)
    refine ug_aload_n 5 dL_law__1214 rfl rfl ?_
    refine ug_iconst dL_law__1215 un_iconst_0 ?_
    refine ug_lald hx dL_law__1216 ?_
    refine ug_iload 0 dL_law__1217 rfl ?_
    refine ug_i2l dL_law__1219 ?_
    refine ug_lcmp dL_law__1220 ?_
    refine ug_if_eq 1226 dL_law__1221 (by decide) (fun _ => ?_) (fun q => absurd (ulaw_cmp e4) q)
    refine ug_goto 2807 dL_law__1226 (by decide) ?_
    refine ug_iinc (v := (x4 + 9)) [(4, .int (x4 + 9)), (6, .int r), (5, .int 0), (0, .ref (ue_sb E)), (1, .ref (ue_d E 0)), (2, .ref (ue_d E 38)), (3, .ref (ue_d E 63))] 6 dL_law__2807 rfl rfl (Nat.le_of_ble_eq_true rfl) rfl ?_
    refine ug_goto 23 dL_law__2810 (by decide) ?_
    refine ug_sub [(0, .ref (ue_sb E)), (1, .ref (ue_d E 0)), (2, .ref (ue_d E 38)), (3, .ref (ue_d E 63)), (4, .int (x4 + 9))] [3, 4, 5, 6, 0] rfl ?_
    exact ih
  · obtain ⟨m9, ih⟩ := ih m2 (ce + 1) (sl + 6) hI (by omega) (by omega)
    refine ⟨m9, ?_⟩
    refine ug_aload_n 1 dL_law__1161 rfl rfl ?_
    refine ug_aload_n 0 dL_law__1162 rfl rfl ?_
    refine ug_iload 4 dL_law__1163 rfl ?_
    refine ug_iconst dL_law__1165 un_iconst_1 ?_
    refine ug_iadd dL_law__1166 ?_
    refine ug_sld (hin 1 (Nat.le_of_ble_eq_true rfl)) dL_law__1167 ?_
    refine ug_aload_n 0 dL_law__1168 rfl rfl ?_
    refine ug_iload 4 dL_law__1169 rfl ?_
    refine ug_iconst dL_law__1171 un_iconst_2 ?_
    refine ug_iadd dL_law__1172 ?_
    refine ug_sld (hin 2 (Nat.le_of_ble_eq_true rfl)) dL_law__1173 ?_
    refine ug_aload_n 3 dL_law__1174 rfl rfl ?_
    refine ug_callW [.ref (ue_d E 0), .int (ue_sx E (x4 + 1).toNatClampNeg), .int (ue_sx E (x4 + 2).toNatClampNeg), .ref (ue_d E 63)] (c_L_pitch_i e1) kv_L_185 rfl (S := []) rfl (Nat.le_of_ble_eq_true rfl) (Nat.le_of_ble_eq_true rfl) (Nat.le_of_ble_eq_true rfl) ⟨by omega, by omega⟩ dL_law__1175 ?_
    refine ug_istore [(5, .int 1), (0, .ref (ue_sb E)), (1, .ref (ue_d E 0)), (2, .ref (ue_d E 38)), (3, .ref (ue_d E 63)), (4, .int x4)] dL_law__1178 (Nat.le_of_ble_eq_true rfl) rfl ?_
    refine ug_aload_n 3 dL_law__1180 rfl rfl ?_
    refine ug_aload_n 1 dL_law__1181 rfl rfl ?_
    refine ug_iload 5 dL_law__1182 rfl ?_
    refine ug_iconst dL_law__1184 un_iconst_1 ?_
    refine ug_iadd dL_law__1185 ?_
    refine ug_sld (hin 1 (Nat.le_of_ble_eq_true rfl)) dL_law__1186 ?_
    refine ug_aload_n 1 dL_law__1187 rfl rfl ?_
    refine ug_iload 5 dL_law__1188 rfl ?_
    refine ug_iconst dL_law__1190 un_iconst_2 ?_
    refine ug_iadd dL_law__1191 ?_
    refine ug_sld (hin 2 (Nat.le_of_ble_eq_true rfl)) dL_law__1192 ?_
    refine ug_callVL [.int b] [.int (ue_sx E (x4 + 1).toNatClampNeg), .int (ue_sx E (x4 + 2).toNatClampNeg)] (c_X8_pitch e2) kc_L_187 ro_38 rfl (S := []) rfl rfl (Nat.le_of_ble_eq_true rfl) (Nat.le_of_ble_eq_true rfl) (Nat.le_of_ble_eq_true rfl) ⟨by omega, by omega⟩ dL_law__1193 ?_
    refine ug_istore [(6, .int b), (5, .int 1), (0, .ref (ue_sb E)), (1, .ref (ue_d E 0)), (2, .ref (ue_d E 38)), (3, .ref (ue_d E 63)), (4, .int x4)] dL_law__1196 (Nat.le_of_ble_eq_true rfl) rfl ?_
    refine ug_aload_n 4 dL_law__1198 rfl rfl ?_
    refine ug_callVL [.int (m2 38 0)] [] (c_X8_thrown rfl) kc_L_137 ro_38 rfl (S := []) rfl rfl (Nat.le_of_ble_eq_true rfl) (Nat.le_of_ble_eq_true rfl) (Nat.le_of_ble_eq_true rfl) ⟨by omega, by omega⟩ dL_law__1199 ?_
    refine ug_iload 1 dL_law__1202 rfl ?_
    refine ug_icmp_eq 1209 dL_law__1204 (by decide) (fun _ => ?_) (fun q => absurd e3 q)
    refine ug_iload 1 dL_law__1209 rfl ?_
    refine ug_if_ne 1226 dL_law__1211 (by decide) (fun _ => ?_) (fun q => absurd q (by decide))
    refine ug_goto 2807 dL_law__1226 (by decide) ?_
    refine ug_iinc (v := (x4 + 9)) [(4, .int (x4 + 9)), (6, .int b), (5, .int 1), (0, .ref (ue_sb E)), (1, .ref (ue_d E 0)), (2, .ref (ue_d E 38)), (3, .ref (ue_d E 63))] 6 dL_law__2807 rfl rfl (Nat.le_of_ble_eq_true rfl) rfl ?_
    refine ug_goto 23 dL_law__2810 (by decide) ?_
    refine ug_sub [(0, .ref (ue_sb E)), (1, .ref (ue_d E 0)), (2, .ref (ue_d E 38)), (3, .ref (ue_d E 63)), (4, .int (x4 + 9))] [3, 4, 5, 6, 0] rfl ?_
    exact ih
set_option maxRecDepth 20000 in
theorem law_street {l : Launch} {E : Ue} (hx : ue_x E = [.inr (3, 1)]) {I : Um → Prop} (h : uop_street I) {mc ms ce sl n : Nat} {x4 : Int32} (hin : ∀ q, q ≤ 8 → vp_in (x4 + nI q) (ue_sn E)) (ih : ∀ (m2 : Um) (ce sl : Nat), I m2 → ce + n ≤ mc → sl + 6 * n ≤ ms → ∃ m9, ug l E 2048 mc ms cL_law_ 8 RL (some .boolean) [] (.inl (some (.int 1), m9)) ce sl 23 [(0, .ref (ue_sb E)), (1, .ref (ue_d E 0)), (2, .ref (ue_d E 38)), (3, .ref (ue_d E 63)), (4, .int (x4 + 9))] [] m2) {mem : Um} (hI : I mem) (hc : ce + (n + 1) ≤ mc) (hs : sl + 6 * (n + 1) ≤ ms) : ∃ m9, ug l E 2048 mc ms cL_law_ 8 RL (some .boolean) [] (.inl (some (.int 1), m9)) ce sl 1229 [(0, .ref (ue_sb E)), (1, .ref (ue_d E 0)), (2, .ref (ue_d E 38)), (3, .ref (ue_d E 63)), (4, .int x4)] [] mem := by
  rcases h mem (ue_sx E (x4 + 1).toNatClampNeg) (ue_sx E (x4 + 2).toNatClampNeg) hI with ⟨m1, r, m2, e1, e2, e3, e4, hI⟩ | ⟨m1, m2, b, e1, e2, e3, hI⟩
  · obtain ⟨m9, ih⟩ := ih m2 (ce + 1) (sl + 6) hI (by omega) (by omega)
    refine ⟨m9, ?_⟩
    refine ug_aload_n 1 dL_law__1229 rfl rfl ?_
    refine ug_aload_n 0 dL_law__1230 rfl rfl ?_
    refine ug_iload 4 dL_law__1231 rfl ?_
    refine ug_iconst dL_law__1233 un_iconst_1 ?_
    refine ug_iadd dL_law__1234 ?_
    refine ug_sld (hin 1 (Nat.le_of_ble_eq_true rfl)) dL_law__1235 ?_
    refine ug_aload_n 0 dL_law__1236 rfl rfl ?_
    refine ug_iload 4 dL_law__1237 rfl ?_
    refine ug_iconst dL_law__1239 un_iconst_2 ?_
    refine ug_iadd dL_law__1240 ?_
    refine ug_sld (hin 2 (Nat.le_of_ble_eq_true rfl)) dL_law__1241 ?_
    refine ug_aload_n 3 dL_law__1242 rfl rfl ?_
    refine ug_callW [.ref (ue_d E 0), .int (ue_sx E (x4 + 1).toNatClampNeg), .int (ue_sx E (x4 + 2).toNatClampNeg), .ref (ue_d E 63)] (c_L_street_r hx e1) kv_L_188 rfl (S := []) rfl (Nat.le_of_ble_eq_true rfl) (Nat.le_of_ble_eq_true rfl) (Nat.le_of_ble_eq_true rfl) ⟨by omega, by omega⟩ dL_law__1243 ?_
    refine ug_istore [(5, .int 0), (0, .ref (ue_sb E)), (1, .ref (ue_d E 0)), (2, .ref (ue_d E 38)), (3, .ref (ue_d E 63)), (4, .int x4)] dL_law__1246 (Nat.le_of_ble_eq_true rfl) rfl ?_
    refine ug_aload_n 3 dL_law__1248 rfl rfl ?_
    refine ug_aload_n 1 dL_law__1249 rfl rfl ?_
    refine ug_iload 5 dL_law__1250 rfl ?_
    refine ug_iconst dL_law__1252 un_iconst_1 ?_
    refine ug_iadd dL_law__1253 ?_
    refine ug_sld (hin 1 (Nat.le_of_ble_eq_true rfl)) dL_law__1254 ?_
    refine ug_aload_n 1 dL_law__1255 rfl rfl ?_
    refine ug_iload 5 dL_law__1256 rfl ?_
    refine ug_iconst dL_law__1258 un_iconst_2 ?_
    refine ug_iadd dL_law__1259 ?_
    refine ug_sld (hin 2 (Nat.le_of_ble_eq_true rfl)) dL_law__1260 ?_
    refine ug_callVL [.int r] [.int (ue_sx E (x4 + 1).toNatClampNeg), .int (ue_sx E (x4 + 2).toNatClampNeg)] (c_X8_street e2) kc_L_190 ro_38 rfl (S := []) rfl rfl (Nat.le_of_ble_eq_true rfl) (Nat.le_of_ble_eq_true rfl) (Nat.le_of_ble_eq_true rfl) ⟨by omega, by omega⟩ dL_law__1261 ?_
    refine ug_istore [(6, .int r), (5, .int 0), (0, .ref (ue_sb E)), (1, .ref (ue_d E 0)), (2, .ref (ue_d E 38)), (3, .ref (ue_d E 63)), (4, .int x4)] dL_law__1264 (Nat.le_of_ble_eq_true rfl) rfl ?_
    refine ug_aload_n 4 dL_law__1266 rfl rfl ?_
    refine ug_callVL [.int (m2 38 0)] [] (c_X8_thrown rfl) kc_L_137 ro_38 rfl (S := []) rfl rfl (Nat.le_of_ble_eq_true rfl) (Nat.le_of_ble_eq_true rfl) (Nat.le_of_ble_eq_true rfl) ⟨by omega, by omega⟩ dL_law__1267 ?_
    refine ug_iload 1 dL_law__1270 rfl ?_
    refine ug_icmp_eq 1277 dL_law__1272 (by decide) (fun _ => ?_) (fun q => absurd e3 q)
    refine ug_iload 1 dL_law__1277 rfl ?_
    refine ug_if_ne 1294 dL_law__1279 (by decide) (fun q => absurd rfl q) (fun _ => ?_)
    refine ug_aload_n 5 dL_law__1282 rfl rfl ?_
    refine ug_iconst dL_law__1283 un_iconst_0 ?_
    refine ug_lald hx dL_law__1284 ?_
    refine ug_iload 0 dL_law__1285 rfl ?_
    refine ug_i2l dL_law__1287 ?_
    refine ug_lcmp dL_law__1288 ?_
    refine ug_if_eq 1294 dL_law__1289 (by decide) (fun _ => ?_) (fun q => absurd (ulaw_cmp e4) q)
    refine ug_goto 2807 dL_law__1294 (by decide) ?_
    refine ug_iinc (v := (x4 + 9)) [(4, .int (x4 + 9)), (6, .int r), (5, .int 0), (0, .ref (ue_sb E)), (1, .ref (ue_d E 0)), (2, .ref (ue_d E 38)), (3, .ref (ue_d E 63))] 6 dL_law__2807 rfl rfl (Nat.le_of_ble_eq_true rfl) rfl ?_
    refine ug_goto 23 dL_law__2810 (by decide) ?_
    refine ug_sub [(0, .ref (ue_sb E)), (1, .ref (ue_d E 0)), (2, .ref (ue_d E 38)), (3, .ref (ue_d E 63)), (4, .int (x4 + 9))] [3, 4, 5, 6, 0] rfl ?_
    exact ih
  · obtain ⟨m9, ih⟩ := ih m2 (ce + 1) (sl + 6) hI (by omega) (by omega)
    refine ⟨m9, ?_⟩
    refine ug_aload_n 1 dL_law__1229 rfl rfl ?_
    refine ug_aload_n 0 dL_law__1230 rfl rfl ?_
    refine ug_iload 4 dL_law__1231 rfl ?_
    refine ug_iconst dL_law__1233 un_iconst_1 ?_
    refine ug_iadd dL_law__1234 ?_
    refine ug_sld (hin 1 (Nat.le_of_ble_eq_true rfl)) dL_law__1235 ?_
    refine ug_aload_n 0 dL_law__1236 rfl rfl ?_
    refine ug_iload 4 dL_law__1237 rfl ?_
    refine ug_iconst dL_law__1239 un_iconst_2 ?_
    refine ug_iadd dL_law__1240 ?_
    refine ug_sld (hin 2 (Nat.le_of_ble_eq_true rfl)) dL_law__1241 ?_
    refine ug_aload_n 3 dL_law__1242 rfl rfl ?_
    refine ug_callW [.ref (ue_d E 0), .int (ue_sx E (x4 + 1).toNatClampNeg), .int (ue_sx E (x4 + 2).toNatClampNeg), .ref (ue_d E 63)] (c_L_street_i e1) kv_L_188 rfl (S := []) rfl (Nat.le_of_ble_eq_true rfl) (Nat.le_of_ble_eq_true rfl) (Nat.le_of_ble_eq_true rfl) ⟨by omega, by omega⟩ dL_law__1243 ?_
    refine ug_istore [(5, .int 1), (0, .ref (ue_sb E)), (1, .ref (ue_d E 0)), (2, .ref (ue_d E 38)), (3, .ref (ue_d E 63)), (4, .int x4)] dL_law__1246 (Nat.le_of_ble_eq_true rfl) rfl ?_
    refine ug_aload_n 3 dL_law__1248 rfl rfl ?_
    refine ug_aload_n 1 dL_law__1249 rfl rfl ?_
    refine ug_iload 5 dL_law__1250 rfl ?_
    refine ug_iconst dL_law__1252 un_iconst_1 ?_
    refine ug_iadd dL_law__1253 ?_
    refine ug_sld (hin 1 (Nat.le_of_ble_eq_true rfl)) dL_law__1254 ?_
    refine ug_aload_n 1 dL_law__1255 rfl rfl ?_
    refine ug_iload 5 dL_law__1256 rfl ?_
    refine ug_iconst dL_law__1258 un_iconst_2 ?_
    refine ug_iadd dL_law__1259 ?_
    refine ug_sld (hin 2 (Nat.le_of_ble_eq_true rfl)) dL_law__1260 ?_
    refine ug_callVL [.int b] [.int (ue_sx E (x4 + 1).toNatClampNeg), .int (ue_sx E (x4 + 2).toNatClampNeg)] (c_X8_street e2) kc_L_190 ro_38 rfl (S := []) rfl rfl (Nat.le_of_ble_eq_true rfl) (Nat.le_of_ble_eq_true rfl) (Nat.le_of_ble_eq_true rfl) ⟨by omega, by omega⟩ dL_law__1261 ?_
    refine ug_istore [(6, .int b), (5, .int 1), (0, .ref (ue_sb E)), (1, .ref (ue_d E 0)), (2, .ref (ue_d E 38)), (3, .ref (ue_d E 63)), (4, .int x4)] dL_law__1264 (Nat.le_of_ble_eq_true rfl) rfl ?_
    refine ug_aload_n 4 dL_law__1266 rfl rfl ?_
    refine ug_callVL [.int (m2 38 0)] [] (c_X8_thrown rfl) kc_L_137 ro_38 rfl (S := []) rfl rfl (Nat.le_of_ble_eq_true rfl) (Nat.le_of_ble_eq_true rfl) (Nat.le_of_ble_eq_true rfl) ⟨by omega, by omega⟩ dL_law__1267 ?_
    refine ug_iload 1 dL_law__1270 rfl ?_
    refine ug_icmp_eq 1277 dL_law__1272 (by decide) (fun _ => ?_) (fun q => absurd e3 q)
    refine ug_iload 1 dL_law__1277 rfl ?_
    refine ug_if_ne 1294 dL_law__1279 (by decide) (fun _ => ?_) (fun q => absurd q (by decide))
    refine ug_goto 2807 dL_law__1294 (by decide) ?_
    refine ug_iinc (v := (x4 + 9)) [(4, .int (x4 + 9)), (6, .int b), (5, .int 1), (0, .ref (ue_sb E)), (1, .ref (ue_d E 0)), (2, .ref (ue_d E 38)), (3, .ref (ue_d E 63))] 6 dL_law__2807 rfl rfl (Nat.le_of_ble_eq_true rfl) rfl ?_
    refine ug_goto 23 dL_law__2810 (by decide) ?_
    refine ug_sub [(0, .ref (ue_sb E)), (1, .ref (ue_d E 0)), (2, .ref (ue_d E 38)), (3, .ref (ue_d E 63)), (4, .int (x4 + 9))] [3, 4, 5, 6, 0] rfl ?_
    exact ih
set_option maxRecDepth 20000 in
theorem law_fits {l : Launch} {E : Ue} (hx : ue_x E = [.inr (3, 1)]) {I : Um → Prop} (h : uop_fits I) {mc ms ce sl n : Nat} {x4 : Int32} (hin : ∀ q, q ≤ 8 → vp_in (x4 + nI q) (ue_sn E)) (ih : ∀ (m2 : Um) (ce sl : Nat), I m2 → ce + n ≤ mc → sl + 6 * n ≤ ms → ∃ m9, ug l E 2048 mc ms cL_law_ 8 RL (some .boolean) [] (.inl (some (.int 1), m9)) ce sl 23 [(0, .ref (ue_sb E)), (1, .ref (ue_d E 0)), (2, .ref (ue_d E 38)), (3, .ref (ue_d E 63)), (4, .int (x4 + 9))] [] m2) {mem : Um} (hI : I mem) (hc : ce + (n + 1) ≤ mc) (hs : sl + 6 * (n + 1) ≤ ms) : ∃ m9, ug l E 2048 mc ms cL_law_ 8 RL (some .boolean) [] (.inl (some (.int 1), m9)) ce sl 1297 [(0, .ref (ue_sb E)), (1, .ref (ue_d E 0)), (2, .ref (ue_d E 38)), (3, .ref (ue_d E 63)), (4, .int x4)] [] mem := by
  rcases h mem (ue_sx E (x4 + 1).toNatClampNeg) hI with ⟨m1, r, m2, e1, e2, e3, e4, hI⟩ | ⟨m1, m2, b, e1, e2, e3, hI⟩
  · obtain ⟨m9, ih⟩ := ih m2 (ce + 1) (sl + 6) hI (by omega) (by omega)
    refine ⟨m9, ?_⟩
    refine ug_aload_n 1 dL_law__1297 rfl rfl ?_
    refine ug_aload_n 0 dL_law__1298 rfl rfl ?_
    refine ug_iload 4 dL_law__1299 rfl ?_
    refine ug_iconst dL_law__1301 un_iconst_1 ?_
    refine ug_iadd dL_law__1302 ?_
    refine ug_sld (hin 1 (Nat.le_of_ble_eq_true rfl)) dL_law__1303 ?_
    refine ug_aload_n 3 dL_law__1304 rfl rfl ?_
    refine ug_callW [.ref (ue_d E 0), .int (ue_sx E (x4 + 1).toNatClampNeg), .ref (ue_d E 63)] (c_L_fits_r hx e1) kv_L_191 rfl (S := []) rfl (Nat.le_of_ble_eq_true rfl) (Nat.le_of_ble_eq_true rfl) (Nat.le_of_ble_eq_true rfl) ⟨by omega, by omega⟩ dL_law__1305 ?_
    refine ug_istore [(5, .int 0), (0, .ref (ue_sb E)), (1, .ref (ue_d E 0)), (2, .ref (ue_d E 38)), (3, .ref (ue_d E 63)), (4, .int x4)] dL_law__1308 (Nat.le_of_ble_eq_true rfl) rfl ?_
    refine ug_aload_n 3 dL_law__1310 rfl rfl ?_
    refine ug_aload_n 1 dL_law__1311 rfl rfl ?_
    refine ug_iload 5 dL_law__1312 rfl ?_
    refine ug_iconst dL_law__1314 un_iconst_1 ?_
    refine ug_iadd dL_law__1315 ?_
    refine ug_sld (hin 1 (Nat.le_of_ble_eq_true rfl)) dL_law__1316 ?_
    refine ug_callVL [.int r] [.int (ue_sx E (x4 + 1).toNatClampNeg)] (c_X8_fits e2) kc_L_193 ro_38 rfl (S := []) rfl rfl (Nat.le_of_ble_eq_true rfl) (Nat.le_of_ble_eq_true rfl) (Nat.le_of_ble_eq_true rfl) ⟨by omega, by omega⟩ dL_law__1317 ?_
    refine ug_istore [(6, .int r), (5, .int 0), (0, .ref (ue_sb E)), (1, .ref (ue_d E 0)), (2, .ref (ue_d E 38)), (3, .ref (ue_d E 63)), (4, .int x4)] dL_law__1320 (Nat.le_of_ble_eq_true rfl) rfl ?_
    refine ug_aload_n 4 dL_law__1322 rfl rfl ?_
    refine ug_callVL [.int (m2 38 0)] [] (c_X8_thrown rfl) kc_L_137 ro_38 rfl (S := []) rfl rfl (Nat.le_of_ble_eq_true rfl) (Nat.le_of_ble_eq_true rfl) (Nat.le_of_ble_eq_true rfl) ⟨by omega, by omega⟩ dL_law__1323 ?_
    refine ug_iload 1 dL_law__1326 rfl ?_
    refine ug_icmp_eq 1333 dL_law__1328 (by decide) (fun _ => ?_) (fun q => absurd e3 q)
    refine ug_iload 1 dL_law__1333 rfl ?_
    refine ug_if_ne 1350 dL_law__1335 (by decide) (fun q => absurd rfl q) (fun _ => ?_)
    refine ug_aload_n 5 dL_law__1338 rfl rfl ?_
    refine ug_iconst dL_law__1339 un_iconst_0 ?_
    refine ug_lald hx dL_law__1340 ?_
    refine ug_iload 0 dL_law__1341 rfl ?_
    refine ug_i2l dL_law__1343 ?_
    refine ug_lcmp dL_law__1344 ?_
    refine ug_if_eq 1350 dL_law__1345 (by decide) (fun _ => ?_) (fun q => absurd (ulaw_cmp e4) q)
    refine ug_goto 2807 dL_law__1350 (by decide) ?_
    refine ug_iinc (v := (x4 + 9)) [(4, .int (x4 + 9)), (6, .int r), (5, .int 0), (0, .ref (ue_sb E)), (1, .ref (ue_d E 0)), (2, .ref (ue_d E 38)), (3, .ref (ue_d E 63))] 6 dL_law__2807 rfl rfl (Nat.le_of_ble_eq_true rfl) rfl ?_
    refine ug_goto 23 dL_law__2810 (by decide) ?_
    refine ug_sub [(0, .ref (ue_sb E)), (1, .ref (ue_d E 0)), (2, .ref (ue_d E 38)), (3, .ref (ue_d E 63)), (4, .int (x4 + 9))] [3, 4, 5, 6, 0] rfl ?_
    exact ih
  · obtain ⟨m9, ih⟩ := ih m2 (ce + 1) (sl + 6) hI (by omega) (by omega)
    refine ⟨m9, ?_⟩
    refine ug_aload_n 1 dL_law__1297 rfl rfl ?_
    refine ug_aload_n 0 dL_law__1298 rfl rfl ?_
    refine ug_iload 4 dL_law__1299 rfl ?_
    refine ug_iconst dL_law__1301 un_iconst_1 ?_
    refine ug_iadd dL_law__1302 ?_
    refine ug_sld (hin 1 (Nat.le_of_ble_eq_true rfl)) dL_law__1303 ?_
    refine ug_aload_n 3 dL_law__1304 rfl rfl ?_
    refine ug_callW [.ref (ue_d E 0), .int (ue_sx E (x4 + 1).toNatClampNeg), .ref (ue_d E 63)] (c_L_fits_i e1) kv_L_191 rfl (S := []) rfl (Nat.le_of_ble_eq_true rfl) (Nat.le_of_ble_eq_true rfl) (Nat.le_of_ble_eq_true rfl) ⟨by omega, by omega⟩ dL_law__1305 ?_
    refine ug_istore [(5, .int 1), (0, .ref (ue_sb E)), (1, .ref (ue_d E 0)), (2, .ref (ue_d E 38)), (3, .ref (ue_d E 63)), (4, .int x4)] dL_law__1308 (Nat.le_of_ble_eq_true rfl) rfl ?_
    refine ug_aload_n 3 dL_law__1310 rfl rfl ?_
    refine ug_aload_n 1 dL_law__1311 rfl rfl ?_
    refine ug_iload 5 dL_law__1312 rfl ?_
    refine ug_iconst dL_law__1314 un_iconst_1 ?_
    refine ug_iadd dL_law__1315 ?_
    refine ug_sld (hin 1 (Nat.le_of_ble_eq_true rfl)) dL_law__1316 ?_
    refine ug_callVL [.int b] [.int (ue_sx E (x4 + 1).toNatClampNeg)] (c_X8_fits e2) kc_L_193 ro_38 rfl (S := []) rfl rfl (Nat.le_of_ble_eq_true rfl) (Nat.le_of_ble_eq_true rfl) (Nat.le_of_ble_eq_true rfl) ⟨by omega, by omega⟩ dL_law__1317 ?_
    refine ug_istore [(6, .int b), (5, .int 1), (0, .ref (ue_sb E)), (1, .ref (ue_d E 0)), (2, .ref (ue_d E 38)), (3, .ref (ue_d E 63)), (4, .int x4)] dL_law__1320 (Nat.le_of_ble_eq_true rfl) rfl ?_
    refine ug_aload_n 4 dL_law__1322 rfl rfl ?_
    refine ug_callVL [.int (m2 38 0)] [] (c_X8_thrown rfl) kc_L_137 ro_38 rfl (S := []) rfl rfl (Nat.le_of_ble_eq_true rfl) (Nat.le_of_ble_eq_true rfl) (Nat.le_of_ble_eq_true rfl) ⟨by omega, by omega⟩ dL_law__1323 ?_
    refine ug_iload 1 dL_law__1326 rfl ?_
    refine ug_icmp_eq 1333 dL_law__1328 (by decide) (fun _ => ?_) (fun q => absurd e3 q)
    refine ug_iload 1 dL_law__1333 rfl ?_
    refine ug_if_ne 1350 dL_law__1335 (by decide) (fun _ => ?_) (fun q => absurd q (by decide))
    refine ug_goto 2807 dL_law__1350 (by decide) ?_
    refine ug_iinc (v := (x4 + 9)) [(4, .int (x4 + 9)), (6, .int b), (5, .int 1), (0, .ref (ue_sb E)), (1, .ref (ue_d E 0)), (2, .ref (ue_d E 38)), (3, .ref (ue_d E 63))] 6 dL_law__2807 rfl rfl (Nat.le_of_ble_eq_true rfl) rfl ?_
    refine ug_goto 23 dL_law__2810 (by decide) ?_
    refine ug_sub [(0, .ref (ue_sb E)), (1, .ref (ue_d E 0)), (2, .ref (ue_d E 38)), (3, .ref (ue_d E 63)), (4, .int (x4 + 9))] [3, 4, 5, 6, 0] rfl ?_
    exact ih
set_option maxRecDepth 20000 in
theorem law_look {l : Launch} {E : Ue} (hx : ue_x E = [.inr (3, 1)]) {I : Um → Prop} (h : uop_look I) {mc ms ce sl n : Nat} {x4 : Int32} (hin : ∀ q, q ≤ 8 → vp_in (x4 + nI q) (ue_sn E)) (ih : ∀ (m2 : Um) (ce sl : Nat), I m2 → ce + n ≤ mc → sl + 6 * n ≤ ms → ∃ m9, ug l E 2048 mc ms cL_law_ 8 RL (some .boolean) [] (.inl (some (.int 1), m9)) ce sl 23 [(0, .ref (ue_sb E)), (1, .ref (ue_d E 0)), (2, .ref (ue_d E 38)), (3, .ref (ue_d E 63)), (4, .int (x4 + 9))] [] m2) {mem : Um} (hI : I mem) (hc : ce + (n + 1) ≤ mc) (hs : sl + 6 * (n + 1) ≤ ms) : ∃ m9, ug l E 2048 mc ms cL_law_ 8 RL (some .boolean) [] (.inl (some (.int 1), m9)) ce sl 1353 [(0, .ref (ue_sb E)), (1, .ref (ue_d E 0)), (2, .ref (ue_d E 38)), (3, .ref (ue_d E 63)), (4, .int x4)] [] mem := by
  rcases h mem (ue_sx E (x4 + 1).toNatClampNeg) hI with ⟨m1, r, m2, e1, e2, e3, e4, hI⟩ | ⟨m1, m2, b, e1, e2, e3, hI⟩
  · obtain ⟨m9, ih⟩ := ih m2 (ce + 1) (sl + 6) hI (by omega) (by omega)
    refine ⟨m9, ?_⟩
    refine ug_aload_n 1 dL_law__1353 rfl rfl ?_
    refine ug_aload_n 0 dL_law__1354 rfl rfl ?_
    refine ug_iload 4 dL_law__1355 rfl ?_
    refine ug_iconst dL_law__1357 un_iconst_1 ?_
    refine ug_iadd dL_law__1358 ?_
    refine ug_sld (hin 1 (Nat.le_of_ble_eq_true rfl)) dL_law__1359 ?_
    refine ug_aload_n 3 dL_law__1360 rfl rfl ?_
    refine ug_callW [.ref (ue_d E 0), .int (ue_sx E (x4 + 1).toNatClampNeg), .ref (ue_d E 63)] (c_L_look_r hx e1) kv_L_194 rfl (S := []) rfl (Nat.le_of_ble_eq_true rfl) (Nat.le_of_ble_eq_true rfl) (Nat.le_of_ble_eq_true rfl) ⟨by omega, by omega⟩ dL_law__1361 ?_
    refine ug_istore [(5, .int 0), (0, .ref (ue_sb E)), (1, .ref (ue_d E 0)), (2, .ref (ue_d E 38)), (3, .ref (ue_d E 63)), (4, .int x4)] dL_law__1364 (Nat.le_of_ble_eq_true rfl) rfl ?_
    refine ug_aload_n 3 dL_law__1366 rfl rfl ?_
    refine ug_aload_n 1 dL_law__1367 rfl rfl ?_
    refine ug_iload 5 dL_law__1368 rfl ?_
    refine ug_iconst dL_law__1370 un_iconst_1 ?_
    refine ug_iadd dL_law__1371 ?_
    refine ug_sld (hin 1 (Nat.le_of_ble_eq_true rfl)) dL_law__1372 ?_
    refine ug_callVL [.int r] [.int (ue_sx E (x4 + 1).toNatClampNeg)] (c_X8_look e2) kc_L_196 ro_38 rfl (S := []) rfl rfl (Nat.le_of_ble_eq_true rfl) (Nat.le_of_ble_eq_true rfl) (Nat.le_of_ble_eq_true rfl) ⟨by omega, by omega⟩ dL_law__1373 ?_
    refine ug_istore [(6, .int r), (5, .int 0), (0, .ref (ue_sb E)), (1, .ref (ue_d E 0)), (2, .ref (ue_d E 38)), (3, .ref (ue_d E 63)), (4, .int x4)] dL_law__1376 (Nat.le_of_ble_eq_true rfl) rfl ?_
    refine ug_aload_n 4 dL_law__1378 rfl rfl ?_
    refine ug_callVL [.int (m2 38 0)] [] (c_X8_thrown rfl) kc_L_137 ro_38 rfl (S := []) rfl rfl (Nat.le_of_ble_eq_true rfl) (Nat.le_of_ble_eq_true rfl) (Nat.le_of_ble_eq_true rfl) ⟨by omega, by omega⟩ dL_law__1379 ?_
    refine ug_iload 1 dL_law__1382 rfl ?_
    refine ug_icmp_eq 1389 dL_law__1384 (by decide) (fun _ => ?_) (fun q => absurd e3 q)
    refine ug_iload 1 dL_law__1389 rfl ?_
    refine ug_if_ne 1406 dL_law__1391 (by decide) (fun q => absurd rfl q) (fun _ => ?_)
    refine ug_aload_n 5 dL_law__1394 rfl rfl ?_
    refine ug_iconst dL_law__1395 un_iconst_0 ?_
    refine ug_lald hx dL_law__1396 ?_
    refine ug_iload 0 dL_law__1397 rfl ?_
    refine ug_i2l dL_law__1399 ?_
    refine ug_lcmp dL_law__1400 ?_
    refine ug_if_eq 1406 dL_law__1401 (by decide) (fun _ => ?_) (fun q => absurd (ulaw_cmp e4) q)
    refine ug_goto 2807 dL_law__1406 (by decide) ?_
    refine ug_iinc (v := (x4 + 9)) [(4, .int (x4 + 9)), (6, .int r), (5, .int 0), (0, .ref (ue_sb E)), (1, .ref (ue_d E 0)), (2, .ref (ue_d E 38)), (3, .ref (ue_d E 63))] 6 dL_law__2807 rfl rfl (Nat.le_of_ble_eq_true rfl) rfl ?_
    refine ug_goto 23 dL_law__2810 (by decide) ?_
    refine ug_sub [(0, .ref (ue_sb E)), (1, .ref (ue_d E 0)), (2, .ref (ue_d E 38)), (3, .ref (ue_d E 63)), (4, .int (x4 + 9))] [3, 4, 5, 6, 0] rfl ?_
    exact ih
  · obtain ⟨m9, ih⟩ := ih m2 (ce + 1) (sl + 6) hI (by omega) (by omega)
    refine ⟨m9, ?_⟩
    refine ug_aload_n 1 dL_law__1353 rfl rfl ?_
    refine ug_aload_n 0 dL_law__1354 rfl rfl ?_
    refine ug_iload 4 dL_law__1355 rfl ?_
    refine ug_iconst dL_law__1357 un_iconst_1 ?_
    refine ug_iadd dL_law__1358 ?_
    refine ug_sld (hin 1 (Nat.le_of_ble_eq_true rfl)) dL_law__1359 ?_
    refine ug_aload_n 3 dL_law__1360 rfl rfl ?_
    refine ug_callW [.ref (ue_d E 0), .int (ue_sx E (x4 + 1).toNatClampNeg), .ref (ue_d E 63)] (c_L_look_i e1) kv_L_194 rfl (S := []) rfl (Nat.le_of_ble_eq_true rfl) (Nat.le_of_ble_eq_true rfl) (Nat.le_of_ble_eq_true rfl) ⟨by omega, by omega⟩ dL_law__1361 ?_
    refine ug_istore [(5, .int 1), (0, .ref (ue_sb E)), (1, .ref (ue_d E 0)), (2, .ref (ue_d E 38)), (3, .ref (ue_d E 63)), (4, .int x4)] dL_law__1364 (Nat.le_of_ble_eq_true rfl) rfl ?_
    refine ug_aload_n 3 dL_law__1366 rfl rfl ?_
    refine ug_aload_n 1 dL_law__1367 rfl rfl ?_
    refine ug_iload 5 dL_law__1368 rfl ?_
    refine ug_iconst dL_law__1370 un_iconst_1 ?_
    refine ug_iadd dL_law__1371 ?_
    refine ug_sld (hin 1 (Nat.le_of_ble_eq_true rfl)) dL_law__1372 ?_
    refine ug_callVL [.int b] [.int (ue_sx E (x4 + 1).toNatClampNeg)] (c_X8_look e2) kc_L_196 ro_38 rfl (S := []) rfl rfl (Nat.le_of_ble_eq_true rfl) (Nat.le_of_ble_eq_true rfl) (Nat.le_of_ble_eq_true rfl) ⟨by omega, by omega⟩ dL_law__1373 ?_
    refine ug_istore [(6, .int b), (5, .int 1), (0, .ref (ue_sb E)), (1, .ref (ue_d E 0)), (2, .ref (ue_d E 38)), (3, .ref (ue_d E 63)), (4, .int x4)] dL_law__1376 (Nat.le_of_ble_eq_true rfl) rfl ?_
    refine ug_aload_n 4 dL_law__1378 rfl rfl ?_
    refine ug_callVL [.int (m2 38 0)] [] (c_X8_thrown rfl) kc_L_137 ro_38 rfl (S := []) rfl rfl (Nat.le_of_ble_eq_true rfl) (Nat.le_of_ble_eq_true rfl) (Nat.le_of_ble_eq_true rfl) ⟨by omega, by omega⟩ dL_law__1379 ?_
    refine ug_iload 1 dL_law__1382 rfl ?_
    refine ug_icmp_eq 1389 dL_law__1384 (by decide) (fun _ => ?_) (fun q => absurd e3 q)
    refine ug_iload 1 dL_law__1389 rfl ?_
    refine ug_if_ne 1406 dL_law__1391 (by decide) (fun _ => ?_) (fun q => absurd q (by decide))
    refine ug_goto 2807 dL_law__1406 (by decide) ?_
    refine ug_iinc (v := (x4 + 9)) [(4, .int (x4 + 9)), (6, .int b), (5, .int 1), (0, .ref (ue_sb E)), (1, .ref (ue_d E 0)), (2, .ref (ue_d E 38)), (3, .ref (ue_d E 63))] 6 dL_law__2807 rfl rfl (Nat.le_of_ble_eq_true rfl) rfl ?_
    refine ug_goto 23 dL_law__2810 (by decide) ?_
    refine ug_sub [(0, .ref (ue_sb E)), (1, .ref (ue_d E 0)), (2, .ref (ue_d E 38)), (3, .ref (ue_d E 63)), (4, .int (x4 + 9))] [3, 4, 5, 6, 0] rfl ?_
    exact ih
set_option maxRecDepth 20000 in
theorem law_stands {l : Launch} {E : Ue} (hx : ue_x E = [.inr (3, 1)]) {I : Um → Prop} (h : uop_stands I) {mc ms ce sl n : Nat} {x4 : Int32} (hin : ∀ q, q ≤ 8 → vp_in (x4 + nI q) (ue_sn E)) (ih : ∀ (m2 : Um) (ce sl : Nat), I m2 → ce + n ≤ mc → sl + 6 * n ≤ ms → ∃ m9, ug l E 2048 mc ms cL_law_ 8 RL (some .boolean) [] (.inl (some (.int 1), m9)) ce sl 23 [(0, .ref (ue_sb E)), (1, .ref (ue_d E 0)), (2, .ref (ue_d E 38)), (3, .ref (ue_d E 63)), (4, .int (x4 + 9))] [] m2) {mem : Um} (hI : I mem) (hc : ce + (n + 1) ≤ mc) (hs : sl + 6 * (n + 1) ≤ ms) : ∃ m9, ug l E 2048 mc ms cL_law_ 8 RL (some .boolean) [] (.inl (some (.int 1), m9)) ce sl 1409 [(0, .ref (ue_sb E)), (1, .ref (ue_d E 0)), (2, .ref (ue_d E 38)), (3, .ref (ue_d E 63)), (4, .int x4)] [] mem := by
  rcases h mem (ue_sx E (x4 + 1).toNatClampNeg) (ue_sx E (x4 + 2).toNatClampNeg) (ue_sx E (x4 + 3).toNatClampNeg) hI with ⟨m1, r, m2, e1, e2, e3, e4, hI⟩ | ⟨m1, m2, b, e1, e2, e3, hI⟩
  · obtain ⟨m9, ih⟩ := ih m2 (ce + 1) (sl + 6) hI (by omega) (by omega)
    refine ⟨m9, ?_⟩
    refine ug_aload_n 1 dL_law__1409 rfl rfl ?_
    refine ug_aload_n 0 dL_law__1410 rfl rfl ?_
    refine ug_iload 4 dL_law__1411 rfl ?_
    refine ug_iconst dL_law__1413 un_iconst_1 ?_
    refine ug_iadd dL_law__1414 ?_
    refine ug_sld (hin 1 (Nat.le_of_ble_eq_true rfl)) dL_law__1415 ?_
    refine ug_aload_n 0 dL_law__1416 rfl rfl ?_
    refine ug_iload 4 dL_law__1417 rfl ?_
    refine ug_iconst dL_law__1419 un_iconst_2 ?_
    refine ug_iadd dL_law__1420 ?_
    refine ug_sld (hin 2 (Nat.le_of_ble_eq_true rfl)) dL_law__1421 ?_
    refine ug_aload_n 0 dL_law__1422 rfl rfl ?_
    refine ug_iload 4 dL_law__1423 rfl ?_
    refine ug_iconst dL_law__1425 un_iconst_3 ?_
    refine ug_iadd dL_law__1426 ?_
    refine ug_sld (hin 3 (Nat.le_of_ble_eq_true rfl)) dL_law__1427 ?_
    refine ug_aload_n 3 dL_law__1428 rfl rfl ?_
    refine ug_callW [.ref (ue_d E 0), .int (ue_sx E (x4 + 1).toNatClampNeg), .int (ue_sx E (x4 + 2).toNatClampNeg), .int (ue_sx E (x4 + 3).toNatClampNeg), .ref (ue_d E 63)] (c_L_stands_r hx e1) kv_L_197 rfl (S := []) rfl (Nat.le_of_ble_eq_true rfl) (Nat.le_of_ble_eq_true rfl) (Nat.le_of_ble_eq_true rfl) ⟨by omega, by omega⟩ dL_law__1429 ?_
    refine ug_istore [(5, .int 0), (0, .ref (ue_sb E)), (1, .ref (ue_d E 0)), (2, .ref (ue_d E 38)), (3, .ref (ue_d E 63)), (4, .int x4)] dL_law__1432 (Nat.le_of_ble_eq_true rfl) rfl ?_
    refine ug_aload_n 3 dL_law__1434 rfl rfl ?_
    refine ug_aload_n 1 dL_law__1435 rfl rfl ?_
    refine ug_iload 5 dL_law__1436 rfl ?_
    refine ug_iconst dL_law__1438 un_iconst_1 ?_
    refine ug_iadd dL_law__1439 ?_
    refine ug_sld (hin 1 (Nat.le_of_ble_eq_true rfl)) dL_law__1440 ?_
    refine ug_aload_n 1 dL_law__1441 rfl rfl ?_
    refine ug_iload 5 dL_law__1442 rfl ?_
    refine ug_iconst dL_law__1444 un_iconst_2 ?_
    refine ug_iadd dL_law__1445 ?_
    refine ug_sld (hin 2 (Nat.le_of_ble_eq_true rfl)) dL_law__1446 ?_
    refine ug_aload_n 1 dL_law__1447 rfl rfl ?_
    refine ug_iload 5 dL_law__1448 rfl ?_
    refine ug_iconst dL_law__1450 un_iconst_3 ?_
    refine ug_iadd dL_law__1451 ?_
    refine ug_sld (hin 3 (Nat.le_of_ble_eq_true rfl)) dL_law__1452 ?_
    refine ug_callVL [.long r] [.int (ue_sx E (x4 + 1).toNatClampNeg), .int (ue_sx E (x4 + 2).toNatClampNeg), .int (ue_sx E (x4 + 3).toNatClampNeg)] (c_X8_stands e2) kc_L_199 ro_38 rfl (S := []) rfl rfl (Nat.le_of_ble_eq_true rfl) (Nat.le_of_ble_eq_true rfl) (Nat.le_of_ble_eq_true rfl) ⟨by omega, by omega⟩ dL_law__1453 ?_
    refine ug_lstore [(6, .long r), (5, .int 0), (0, .ref (ue_sb E)), (1, .ref (ue_d E 0)), (2, .ref (ue_d E 38)), (3, .ref (ue_d E 63)), (4, .int x4)] dL_law__1456 (Nat.le_of_ble_eq_true rfl) rfl ?_
    refine ug_aload_n 4 dL_law__1458 rfl rfl ?_
    refine ug_callVL [.int (m2 38 0)] [] (c_X8_thrown rfl) kc_L_137 ro_38 rfl (S := []) rfl rfl (Nat.le_of_ble_eq_true rfl) (Nat.le_of_ble_eq_true rfl) (Nat.le_of_ble_eq_true rfl) ⟨by omega, by omega⟩ dL_law__1459 ?_
    refine ug_iload 1 dL_law__1462 rfl ?_
    refine ug_icmp_eq 1469 dL_law__1464 (by decide) (fun _ => ?_) (fun q => absurd e3 q)
    refine ug_iload 1 dL_law__1469 rfl ?_
    refine ug_if_ne 1485 dL_law__1471 (by decide) (fun q => absurd rfl q) (fun _ => ?_)
    refine ug_aload_n 5 dL_law__1474 rfl rfl ?_
    refine ug_iconst dL_law__1475 un_iconst_0 ?_
    refine ug_lald hx dL_law__1476 ?_
    refine ug_lload 0 dL_law__1477 rfl ?_
    refine ug_lcmp dL_law__1479 ?_
    refine ug_if_eq 1485 dL_law__1480 (by decide) (fun _ => ?_) (fun q => absurd (ulaw_cmp e4) q)
    refine ug_goto 2807 dL_law__1485 (by decide) ?_
    refine ug_iinc (v := (x4 + 9)) [(4, .int (x4 + 9)), (6, .long r), (5, .int 0), (0, .ref (ue_sb E)), (1, .ref (ue_d E 0)), (2, .ref (ue_d E 38)), (3, .ref (ue_d E 63))] 6 dL_law__2807 rfl rfl (Nat.le_of_ble_eq_true rfl) rfl ?_
    refine ug_goto 23 dL_law__2810 (by decide) ?_
    refine ug_sub [(0, .ref (ue_sb E)), (1, .ref (ue_d E 0)), (2, .ref (ue_d E 38)), (3, .ref (ue_d E 63)), (4, .int (x4 + 9))] [3, 4, 5, 6, 0] rfl ?_
    exact ih
  · obtain ⟨m9, ih⟩ := ih m2 (ce + 1) (sl + 6) hI (by omega) (by omega)
    refine ⟨m9, ?_⟩
    refine ug_aload_n 1 dL_law__1409 rfl rfl ?_
    refine ug_aload_n 0 dL_law__1410 rfl rfl ?_
    refine ug_iload 4 dL_law__1411 rfl ?_
    refine ug_iconst dL_law__1413 un_iconst_1 ?_
    refine ug_iadd dL_law__1414 ?_
    refine ug_sld (hin 1 (Nat.le_of_ble_eq_true rfl)) dL_law__1415 ?_
    refine ug_aload_n 0 dL_law__1416 rfl rfl ?_
    refine ug_iload 4 dL_law__1417 rfl ?_
    refine ug_iconst dL_law__1419 un_iconst_2 ?_
    refine ug_iadd dL_law__1420 ?_
    refine ug_sld (hin 2 (Nat.le_of_ble_eq_true rfl)) dL_law__1421 ?_
    refine ug_aload_n 0 dL_law__1422 rfl rfl ?_
    refine ug_iload 4 dL_law__1423 rfl ?_
    refine ug_iconst dL_law__1425 un_iconst_3 ?_
    refine ug_iadd dL_law__1426 ?_
    refine ug_sld (hin 3 (Nat.le_of_ble_eq_true rfl)) dL_law__1427 ?_
    refine ug_aload_n 3 dL_law__1428 rfl rfl ?_
    refine ug_callW [.ref (ue_d E 0), .int (ue_sx E (x4 + 1).toNatClampNeg), .int (ue_sx E (x4 + 2).toNatClampNeg), .int (ue_sx E (x4 + 3).toNatClampNeg), .ref (ue_d E 63)] (c_L_stands_i e1) kv_L_197 rfl (S := []) rfl (Nat.le_of_ble_eq_true rfl) (Nat.le_of_ble_eq_true rfl) (Nat.le_of_ble_eq_true rfl) ⟨by omega, by omega⟩ dL_law__1429 ?_
    refine ug_istore [(5, .int 1), (0, .ref (ue_sb E)), (1, .ref (ue_d E 0)), (2, .ref (ue_d E 38)), (3, .ref (ue_d E 63)), (4, .int x4)] dL_law__1432 (Nat.le_of_ble_eq_true rfl) rfl ?_
    refine ug_aload_n 3 dL_law__1434 rfl rfl ?_
    refine ug_aload_n 1 dL_law__1435 rfl rfl ?_
    refine ug_iload 5 dL_law__1436 rfl ?_
    refine ug_iconst dL_law__1438 un_iconst_1 ?_
    refine ug_iadd dL_law__1439 ?_
    refine ug_sld (hin 1 (Nat.le_of_ble_eq_true rfl)) dL_law__1440 ?_
    refine ug_aload_n 1 dL_law__1441 rfl rfl ?_
    refine ug_iload 5 dL_law__1442 rfl ?_
    refine ug_iconst dL_law__1444 un_iconst_2 ?_
    refine ug_iadd dL_law__1445 ?_
    refine ug_sld (hin 2 (Nat.le_of_ble_eq_true rfl)) dL_law__1446 ?_
    refine ug_aload_n 1 dL_law__1447 rfl rfl ?_
    refine ug_iload 5 dL_law__1448 rfl ?_
    refine ug_iconst dL_law__1450 un_iconst_3 ?_
    refine ug_iadd dL_law__1451 ?_
    refine ug_sld (hin 3 (Nat.le_of_ble_eq_true rfl)) dL_law__1452 ?_
    refine ug_callVL [.long b] [.int (ue_sx E (x4 + 1).toNatClampNeg), .int (ue_sx E (x4 + 2).toNatClampNeg), .int (ue_sx E (x4 + 3).toNatClampNeg)] (c_X8_stands e2) kc_L_199 ro_38 rfl (S := []) rfl rfl (Nat.le_of_ble_eq_true rfl) (Nat.le_of_ble_eq_true rfl) (Nat.le_of_ble_eq_true rfl) ⟨by omega, by omega⟩ dL_law__1453 ?_
    refine ug_lstore [(6, .long b), (5, .int 1), (0, .ref (ue_sb E)), (1, .ref (ue_d E 0)), (2, .ref (ue_d E 38)), (3, .ref (ue_d E 63)), (4, .int x4)] dL_law__1456 (Nat.le_of_ble_eq_true rfl) rfl ?_
    refine ug_aload_n 4 dL_law__1458 rfl rfl ?_
    refine ug_callVL [.int (m2 38 0)] [] (c_X8_thrown rfl) kc_L_137 ro_38 rfl (S := []) rfl rfl (Nat.le_of_ble_eq_true rfl) (Nat.le_of_ble_eq_true rfl) (Nat.le_of_ble_eq_true rfl) ⟨by omega, by omega⟩ dL_law__1459 ?_
    refine ug_iload 1 dL_law__1462 rfl ?_
    refine ug_icmp_eq 1469 dL_law__1464 (by decide) (fun _ => ?_) (fun q => absurd e3 q)
    refine ug_iload 1 dL_law__1469 rfl ?_
    refine ug_if_ne 1485 dL_law__1471 (by decide) (fun _ => ?_) (fun q => absurd q (by decide))
    refine ug_goto 2807 dL_law__1485 (by decide) ?_
    refine ug_iinc (v := (x4 + 9)) [(4, .int (x4 + 9)), (6, .long b), (5, .int 1), (0, .ref (ue_sb E)), (1, .ref (ue_d E 0)), (2, .ref (ue_d E 38)), (3, .ref (ue_d E 63))] 6 dL_law__2807 rfl rfl (Nat.le_of_ble_eq_true rfl) rfl ?_
    refine ug_goto 23 dL_law__2810 (by decide) ?_
    refine ug_sub [(0, .ref (ue_sb E)), (1, .ref (ue_d E 0)), (2, .ref (ue_d E 38)), (3, .ref (ue_d E 63)), (4, .int (x4 + 9))] [3, 4, 5, 6, 0] rfl ?_
    exact ih
set_option maxRecDepth 20000 in
theorem law_mean {l : Launch} {E : Ue} (hx : ue_x E = [.inr (3, 1)]) {I : Um → Prop} (h : uop_mean I) {mc ms ce sl n : Nat} {x4 : Int32} (hin : ∀ q, q ≤ 8 → vp_in (x4 + nI q) (ue_sn E)) (ih : ∀ (m2 : Um) (ce sl : Nat), I m2 → ce + n ≤ mc → sl + 6 * n ≤ ms → ∃ m9, ug l E 2048 mc ms cL_law_ 8 RL (some .boolean) [] (.inl (some (.int 1), m9)) ce sl 23 [(0, .ref (ue_sb E)), (1, .ref (ue_d E 0)), (2, .ref (ue_d E 38)), (3, .ref (ue_d E 63)), (4, .int (x4 + 9))] [] m2) {mem : Um} (hI : I mem) (hc : ce + (n + 1) ≤ mc) (hs : sl + 6 * (n + 1) ≤ ms) : ∃ m9, ug l E 2048 mc ms cL_law_ 8 RL (some .boolean) [] (.inl (some (.int 1), m9)) ce sl 1488 [(0, .ref (ue_sb E)), (1, .ref (ue_d E 0)), (2, .ref (ue_d E 38)), (3, .ref (ue_d E 63)), (4, .int x4)] [] mem := by
  rcases h mem (ue_sx E (x4 + 1).toNatClampNeg) (ue_sx E (x4 + 2).toNatClampNeg) (ue_sx E (x4 + 3).toNatClampNeg) hI with ⟨m1, r, m2, e1, e2, e3, e4, hI⟩ | ⟨m1, m2, b, e1, e2, e3, hI⟩
  · obtain ⟨m9, ih⟩ := ih m2 (ce + 1) (sl + 6) hI (by omega) (by omega)
    refine ⟨m9, ?_⟩
    refine ug_aload_n 1 dL_law__1488 rfl rfl ?_
    refine ug_aload_n 0 dL_law__1489 rfl rfl ?_
    refine ug_iload 4 dL_law__1490 rfl ?_
    refine ug_iconst dL_law__1492 un_iconst_1 ?_
    refine ug_iadd dL_law__1493 ?_
    refine ug_sld (hin 1 (Nat.le_of_ble_eq_true rfl)) dL_law__1494 ?_
    refine ug_aload_n 0 dL_law__1495 rfl rfl ?_
    refine ug_iload 4 dL_law__1496 rfl ?_
    refine ug_iconst dL_law__1498 un_iconst_2 ?_
    refine ug_iadd dL_law__1499 ?_
    refine ug_sld (hin 2 (Nat.le_of_ble_eq_true rfl)) dL_law__1500 ?_
    refine ug_aload_n 0 dL_law__1501 rfl rfl ?_
    refine ug_iload 4 dL_law__1502 rfl ?_
    refine ug_iconst dL_law__1504 un_iconst_3 ?_
    refine ug_iadd dL_law__1505 ?_
    refine ug_sld (hin 3 (Nat.le_of_ble_eq_true rfl)) dL_law__1506 ?_
    refine ug_aload_n 3 dL_law__1507 rfl rfl ?_
    refine ug_callW [.ref (ue_d E 0), .int (ue_sx E (x4 + 1).toNatClampNeg), .int (ue_sx E (x4 + 2).toNatClampNeg), .int (ue_sx E (x4 + 3).toNatClampNeg), .ref (ue_d E 63)] (c_L_mean_r hx e1) kv_L_200 rfl (S := []) rfl (Nat.le_of_ble_eq_true rfl) (Nat.le_of_ble_eq_true rfl) (Nat.le_of_ble_eq_true rfl) ⟨by omega, by omega⟩ dL_law__1508 ?_
    refine ug_istore [(5, .int 0), (0, .ref (ue_sb E)), (1, .ref (ue_d E 0)), (2, .ref (ue_d E 38)), (3, .ref (ue_d E 63)), (4, .int x4)] dL_law__1511 (Nat.le_of_ble_eq_true rfl) rfl ?_
    refine ug_aload_n 3 dL_law__1513 rfl rfl ?_
    refine ug_aload_n 1 dL_law__1514 rfl rfl ?_
    refine ug_iload 5 dL_law__1515 rfl ?_
    refine ug_iconst dL_law__1517 un_iconst_1 ?_
    refine ug_iadd dL_law__1518 ?_
    refine ug_sld (hin 1 (Nat.le_of_ble_eq_true rfl)) dL_law__1519 ?_
    refine ug_aload_n 1 dL_law__1520 rfl rfl ?_
    refine ug_iload 5 dL_law__1521 rfl ?_
    refine ug_iconst dL_law__1523 un_iconst_2 ?_
    refine ug_iadd dL_law__1524 ?_
    refine ug_sld (hin 2 (Nat.le_of_ble_eq_true rfl)) dL_law__1525 ?_
    refine ug_aload_n 1 dL_law__1526 rfl rfl ?_
    refine ug_iload 5 dL_law__1527 rfl ?_
    refine ug_iconst dL_law__1529 un_iconst_3 ?_
    refine ug_iadd dL_law__1530 ?_
    refine ug_sld (hin 3 (Nat.le_of_ble_eq_true rfl)) dL_law__1531 ?_
    refine ug_callVL [.long r] [.int (ue_sx E (x4 + 1).toNatClampNeg), .int (ue_sx E (x4 + 2).toNatClampNeg), .int (ue_sx E (x4 + 3).toNatClampNeg)] (c_X8_mean e2) kc_L_202 ro_38 rfl (S := []) rfl rfl (Nat.le_of_ble_eq_true rfl) (Nat.le_of_ble_eq_true rfl) (Nat.le_of_ble_eq_true rfl) ⟨by omega, by omega⟩ dL_law__1532 ?_
    refine ug_lstore [(6, .long r), (5, .int 0), (0, .ref (ue_sb E)), (1, .ref (ue_d E 0)), (2, .ref (ue_d E 38)), (3, .ref (ue_d E 63)), (4, .int x4)] dL_law__1535 (Nat.le_of_ble_eq_true rfl) rfl ?_
    refine ug_aload_n 4 dL_law__1537 rfl rfl ?_
    refine ug_callVL [.int (m2 38 0)] [] (c_X8_thrown rfl) kc_L_137 ro_38 rfl (S := []) rfl rfl (Nat.le_of_ble_eq_true rfl) (Nat.le_of_ble_eq_true rfl) (Nat.le_of_ble_eq_true rfl) ⟨by omega, by omega⟩ dL_law__1538 ?_
    refine ug_iload 1 dL_law__1541 rfl ?_
    refine ug_icmp_eq 1548 dL_law__1543 (by decide) (fun _ => ?_) (fun q => absurd e3 q)
    refine ug_iload 1 dL_law__1548 rfl ?_
    refine ug_if_ne 1564 dL_law__1550 (by decide) (fun q => absurd rfl q) (fun _ => ?_)
    refine ug_aload_n 5 dL_law__1553 rfl rfl ?_
    refine ug_iconst dL_law__1554 un_iconst_0 ?_
    refine ug_lald hx dL_law__1555 ?_
    refine ug_lload 0 dL_law__1556 rfl ?_
    refine ug_lcmp dL_law__1558 ?_
    refine ug_if_eq 1564 dL_law__1559 (by decide) (fun _ => ?_) (fun q => absurd (ulaw_cmp e4) q)
    refine ug_goto 2807 dL_law__1564 (by decide) ?_
    refine ug_iinc (v := (x4 + 9)) [(4, .int (x4 + 9)), (6, .long r), (5, .int 0), (0, .ref (ue_sb E)), (1, .ref (ue_d E 0)), (2, .ref (ue_d E 38)), (3, .ref (ue_d E 63))] 6 dL_law__2807 rfl rfl (Nat.le_of_ble_eq_true rfl) rfl ?_
    refine ug_goto 23 dL_law__2810 (by decide) ?_
    refine ug_sub [(0, .ref (ue_sb E)), (1, .ref (ue_d E 0)), (2, .ref (ue_d E 38)), (3, .ref (ue_d E 63)), (4, .int (x4 + 9))] [3, 4, 5, 6, 0] rfl ?_
    exact ih
  · obtain ⟨m9, ih⟩ := ih m2 (ce + 1) (sl + 6) hI (by omega) (by omega)
    refine ⟨m9, ?_⟩
    refine ug_aload_n 1 dL_law__1488 rfl rfl ?_
    refine ug_aload_n 0 dL_law__1489 rfl rfl ?_
    refine ug_iload 4 dL_law__1490 rfl ?_
    refine ug_iconst dL_law__1492 un_iconst_1 ?_
    refine ug_iadd dL_law__1493 ?_
    refine ug_sld (hin 1 (Nat.le_of_ble_eq_true rfl)) dL_law__1494 ?_
    refine ug_aload_n 0 dL_law__1495 rfl rfl ?_
    refine ug_iload 4 dL_law__1496 rfl ?_
    refine ug_iconst dL_law__1498 un_iconst_2 ?_
    refine ug_iadd dL_law__1499 ?_
    refine ug_sld (hin 2 (Nat.le_of_ble_eq_true rfl)) dL_law__1500 ?_
    refine ug_aload_n 0 dL_law__1501 rfl rfl ?_
    refine ug_iload 4 dL_law__1502 rfl ?_
    refine ug_iconst dL_law__1504 un_iconst_3 ?_
    refine ug_iadd dL_law__1505 ?_
    refine ug_sld (hin 3 (Nat.le_of_ble_eq_true rfl)) dL_law__1506 ?_
    refine ug_aload_n 3 dL_law__1507 rfl rfl ?_
    refine ug_callW [.ref (ue_d E 0), .int (ue_sx E (x4 + 1).toNatClampNeg), .int (ue_sx E (x4 + 2).toNatClampNeg), .int (ue_sx E (x4 + 3).toNatClampNeg), .ref (ue_d E 63)] (c_L_mean_i e1) kv_L_200 rfl (S := []) rfl (Nat.le_of_ble_eq_true rfl) (Nat.le_of_ble_eq_true rfl) (Nat.le_of_ble_eq_true rfl) ⟨by omega, by omega⟩ dL_law__1508 ?_
    refine ug_istore [(5, .int 1), (0, .ref (ue_sb E)), (1, .ref (ue_d E 0)), (2, .ref (ue_d E 38)), (3, .ref (ue_d E 63)), (4, .int x4)] dL_law__1511 (Nat.le_of_ble_eq_true rfl) rfl ?_
    refine ug_aload_n 3 dL_law__1513 rfl rfl ?_
    refine ug_aload_n 1 dL_law__1514 rfl rfl ?_
    refine ug_iload 5 dL_law__1515 rfl ?_
    refine ug_iconst dL_law__1517 un_iconst_1 ?_
    refine ug_iadd dL_law__1518 ?_
    refine ug_sld (hin 1 (Nat.le_of_ble_eq_true rfl)) dL_law__1519 ?_
    refine ug_aload_n 1 dL_law__1520 rfl rfl ?_
    refine ug_iload 5 dL_law__1521 rfl ?_
    refine ug_iconst dL_law__1523 un_iconst_2 ?_
    refine ug_iadd dL_law__1524 ?_
    refine ug_sld (hin 2 (Nat.le_of_ble_eq_true rfl)) dL_law__1525 ?_
    refine ug_aload_n 1 dL_law__1526 rfl rfl ?_
    refine ug_iload 5 dL_law__1527 rfl ?_
    refine ug_iconst dL_law__1529 un_iconst_3 ?_
    refine ug_iadd dL_law__1530 ?_
    refine ug_sld (hin 3 (Nat.le_of_ble_eq_true rfl)) dL_law__1531 ?_
    refine ug_callVL [.long b] [.int (ue_sx E (x4 + 1).toNatClampNeg), .int (ue_sx E (x4 + 2).toNatClampNeg), .int (ue_sx E (x4 + 3).toNatClampNeg)] (c_X8_mean e2) kc_L_202 ro_38 rfl (S := []) rfl rfl (Nat.le_of_ble_eq_true rfl) (Nat.le_of_ble_eq_true rfl) (Nat.le_of_ble_eq_true rfl) ⟨by omega, by omega⟩ dL_law__1532 ?_
    refine ug_lstore [(6, .long b), (5, .int 1), (0, .ref (ue_sb E)), (1, .ref (ue_d E 0)), (2, .ref (ue_d E 38)), (3, .ref (ue_d E 63)), (4, .int x4)] dL_law__1535 (Nat.le_of_ble_eq_true rfl) rfl ?_
    refine ug_aload_n 4 dL_law__1537 rfl rfl ?_
    refine ug_callVL [.int (m2 38 0)] [] (c_X8_thrown rfl) kc_L_137 ro_38 rfl (S := []) rfl rfl (Nat.le_of_ble_eq_true rfl) (Nat.le_of_ble_eq_true rfl) (Nat.le_of_ble_eq_true rfl) ⟨by omega, by omega⟩ dL_law__1538 ?_
    refine ug_iload 1 dL_law__1541 rfl ?_
    refine ug_icmp_eq 1548 dL_law__1543 (by decide) (fun _ => ?_) (fun q => absurd e3 q)
    refine ug_iload 1 dL_law__1548 rfl ?_
    refine ug_if_ne 1564 dL_law__1550 (by decide) (fun _ => ?_) (fun q => absurd q (by decide))
    refine ug_goto 2807 dL_law__1564 (by decide) ?_
    refine ug_iinc (v := (x4 + 9)) [(4, .int (x4 + 9)), (6, .long b), (5, .int 1), (0, .ref (ue_sb E)), (1, .ref (ue_d E 0)), (2, .ref (ue_d E 38)), (3, .ref (ue_d E 63))] 6 dL_law__2807 rfl rfl (Nat.le_of_ble_eq_true rfl) rfl ?_
    refine ug_goto 23 dL_law__2810 (by decide) ?_
    refine ug_sub [(0, .ref (ue_sb E)), (1, .ref (ue_d E 0)), (2, .ref (ue_d E 38)), (3, .ref (ue_d E 63)), (4, .int (x4 + 9))] [3, 4, 5, 6, 0] rfl ?_
    exact ih
set_option maxRecDepth 20000 in
theorem law_sure {l : Launch} {E : Ue} (hx : ue_x E = [.inr (3, 1)]) {I : Um → Prop} (h : uop_sure I) {mc ms ce sl n : Nat} {x4 : Int32} (hin : ∀ q, q ≤ 8 → vp_in (x4 + nI q) (ue_sn E)) (ih : ∀ (m2 : Um) (ce sl : Nat), I m2 → ce + n ≤ mc → sl + 6 * n ≤ ms → ∃ m9, ug l E 2048 mc ms cL_law_ 8 RL (some .boolean) [] (.inl (some (.int 1), m9)) ce sl 23 [(0, .ref (ue_sb E)), (1, .ref (ue_d E 0)), (2, .ref (ue_d E 38)), (3, .ref (ue_d E 63)), (4, .int (x4 + 9))] [] m2) {mem : Um} (hI : I mem) (hc : ce + (n + 1) ≤ mc) (hs : sl + 6 * (n + 1) ≤ ms) : ∃ m9, ug l E 2048 mc ms cL_law_ 8 RL (some .boolean) [] (.inl (some (.int 1), m9)) ce sl 1567 [(0, .ref (ue_sb E)), (1, .ref (ue_d E 0)), (2, .ref (ue_d E 38)), (3, .ref (ue_d E 63)), (4, .int x4)] [] mem := by
  rcases h mem (ue_sx E (x4 + 1).toNatClampNeg) hI with ⟨m1, r, m2, e1, e2, e3, e4, hI⟩ | ⟨m1, m2, b, e1, e2, e3, hI⟩
  · obtain ⟨m9, ih⟩ := ih m2 (ce + 1) (sl + 6) hI (by omega) (by omega)
    refine ⟨m9, ?_⟩
    refine ug_aload_n 1 dL_law__1567 rfl rfl ?_
    refine ug_aload_n 0 dL_law__1568 rfl rfl ?_
    refine ug_iload 4 dL_law__1569 rfl ?_
    refine ug_iconst dL_law__1571 un_iconst_1 ?_
    refine ug_iadd dL_law__1572 ?_
    refine ug_sld (hin 1 (Nat.le_of_ble_eq_true rfl)) dL_law__1573 ?_
    refine ug_aload_n 3 dL_law__1574 rfl rfl ?_
    refine ug_callW [.ref (ue_d E 0), .int (ue_sx E (x4 + 1).toNatClampNeg), .ref (ue_d E 63)] (c_L_sure_r hx e1) kv_L_203 rfl (S := []) rfl (Nat.le_of_ble_eq_true rfl) (Nat.le_of_ble_eq_true rfl) (Nat.le_of_ble_eq_true rfl) ⟨by omega, by omega⟩ dL_law__1575 ?_
    refine ug_istore [(5, .int 0), (0, .ref (ue_sb E)), (1, .ref (ue_d E 0)), (2, .ref (ue_d E 38)), (3, .ref (ue_d E 63)), (4, .int x4)] dL_law__1578 (Nat.le_of_ble_eq_true rfl) rfl ?_
    refine ug_aload_n 3 dL_law__1580 rfl rfl ?_
    refine ug_aload_n 1 dL_law__1581 rfl rfl ?_
    refine ug_iload 5 dL_law__1582 rfl ?_
    refine ug_iconst dL_law__1584 un_iconst_1 ?_
    refine ug_iadd dL_law__1585 ?_
    refine ug_sld (hin 1 (Nat.le_of_ble_eq_true rfl)) dL_law__1586 ?_
    refine ug_callVL [.int r] [.int (ue_sx E (x4 + 1).toNatClampNeg)] (c_X8_sure e2) kc_L_205 ro_38 rfl (S := []) rfl rfl (Nat.le_of_ble_eq_true rfl) (Nat.le_of_ble_eq_true rfl) (Nat.le_of_ble_eq_true rfl) ⟨by omega, by omega⟩ dL_law__1587 ?_
    refine ug_istore [(6, .int r), (5, .int 0), (0, .ref (ue_sb E)), (1, .ref (ue_d E 0)), (2, .ref (ue_d E 38)), (3, .ref (ue_d E 63)), (4, .int x4)] dL_law__1590 (Nat.le_of_ble_eq_true rfl) rfl ?_
    refine ug_aload_n 4 dL_law__1592 rfl rfl ?_
    refine ug_callVL [.int (m2 38 0)] [] (c_X8_thrown rfl) kc_L_137 ro_38 rfl (S := []) rfl rfl (Nat.le_of_ble_eq_true rfl) (Nat.le_of_ble_eq_true rfl) (Nat.le_of_ble_eq_true rfl) ⟨by omega, by omega⟩ dL_law__1593 ?_
    refine ug_iload 1 dL_law__1596 rfl ?_
    refine ug_icmp_eq 1603 dL_law__1598 (by decide) (fun _ => ?_) (fun q => absurd e3 q)
    refine ug_iload 1 dL_law__1603 rfl ?_
    refine ug_if_ne 1620 dL_law__1605 (by decide) (fun q => absurd rfl q) (fun _ => ?_)
    refine ug_aload_n 5 dL_law__1608 rfl rfl ?_
    refine ug_iconst dL_law__1609 un_iconst_0 ?_
    refine ug_lald hx dL_law__1610 ?_
    refine ug_iload 0 dL_law__1611 rfl ?_
    refine ug_i2l dL_law__1613 ?_
    refine ug_lcmp dL_law__1614 ?_
    refine ug_if_eq 1620 dL_law__1615 (by decide) (fun _ => ?_) (fun q => absurd (ulaw_cmp e4) q)
    refine ug_goto 2807 dL_law__1620 (by decide) ?_
    refine ug_iinc (v := (x4 + 9)) [(4, .int (x4 + 9)), (6, .int r), (5, .int 0), (0, .ref (ue_sb E)), (1, .ref (ue_d E 0)), (2, .ref (ue_d E 38)), (3, .ref (ue_d E 63))] 6 dL_law__2807 rfl rfl (Nat.le_of_ble_eq_true rfl) rfl ?_
    refine ug_goto 23 dL_law__2810 (by decide) ?_
    refine ug_sub [(0, .ref (ue_sb E)), (1, .ref (ue_d E 0)), (2, .ref (ue_d E 38)), (3, .ref (ue_d E 63)), (4, .int (x4 + 9))] [3, 4, 5, 6, 0] rfl ?_
    exact ih
  · obtain ⟨m9, ih⟩ := ih m2 (ce + 1) (sl + 6) hI (by omega) (by omega)
    refine ⟨m9, ?_⟩
    refine ug_aload_n 1 dL_law__1567 rfl rfl ?_
    refine ug_aload_n 0 dL_law__1568 rfl rfl ?_
    refine ug_iload 4 dL_law__1569 rfl ?_
    refine ug_iconst dL_law__1571 un_iconst_1 ?_
    refine ug_iadd dL_law__1572 ?_
    refine ug_sld (hin 1 (Nat.le_of_ble_eq_true rfl)) dL_law__1573 ?_
    refine ug_aload_n 3 dL_law__1574 rfl rfl ?_
    refine ug_callW [.ref (ue_d E 0), .int (ue_sx E (x4 + 1).toNatClampNeg), .ref (ue_d E 63)] (c_L_sure_i e1) kv_L_203 rfl (S := []) rfl (Nat.le_of_ble_eq_true rfl) (Nat.le_of_ble_eq_true rfl) (Nat.le_of_ble_eq_true rfl) ⟨by omega, by omega⟩ dL_law__1575 ?_
    refine ug_istore [(5, .int 1), (0, .ref (ue_sb E)), (1, .ref (ue_d E 0)), (2, .ref (ue_d E 38)), (3, .ref (ue_d E 63)), (4, .int x4)] dL_law__1578 (Nat.le_of_ble_eq_true rfl) rfl ?_
    refine ug_aload_n 3 dL_law__1580 rfl rfl ?_
    refine ug_aload_n 1 dL_law__1581 rfl rfl ?_
    refine ug_iload 5 dL_law__1582 rfl ?_
    refine ug_iconst dL_law__1584 un_iconst_1 ?_
    refine ug_iadd dL_law__1585 ?_
    refine ug_sld (hin 1 (Nat.le_of_ble_eq_true rfl)) dL_law__1586 ?_
    refine ug_callVL [.int b] [.int (ue_sx E (x4 + 1).toNatClampNeg)] (c_X8_sure e2) kc_L_205 ro_38 rfl (S := []) rfl rfl (Nat.le_of_ble_eq_true rfl) (Nat.le_of_ble_eq_true rfl) (Nat.le_of_ble_eq_true rfl) ⟨by omega, by omega⟩ dL_law__1587 ?_
    refine ug_istore [(6, .int b), (5, .int 1), (0, .ref (ue_sb E)), (1, .ref (ue_d E 0)), (2, .ref (ue_d E 38)), (3, .ref (ue_d E 63)), (4, .int x4)] dL_law__1590 (Nat.le_of_ble_eq_true rfl) rfl ?_
    refine ug_aload_n 4 dL_law__1592 rfl rfl ?_
    refine ug_callVL [.int (m2 38 0)] [] (c_X8_thrown rfl) kc_L_137 ro_38 rfl (S := []) rfl rfl (Nat.le_of_ble_eq_true rfl) (Nat.le_of_ble_eq_true rfl) (Nat.le_of_ble_eq_true rfl) ⟨by omega, by omega⟩ dL_law__1593 ?_
    refine ug_iload 1 dL_law__1596 rfl ?_
    refine ug_icmp_eq 1603 dL_law__1598 (by decide) (fun _ => ?_) (fun q => absurd e3 q)
    refine ug_iload 1 dL_law__1603 rfl ?_
    refine ug_if_ne 1620 dL_law__1605 (by decide) (fun _ => ?_) (fun q => absurd q (by decide))
    refine ug_goto 2807 dL_law__1620 (by decide) ?_
    refine ug_iinc (v := (x4 + 9)) [(4, .int (x4 + 9)), (6, .int b), (5, .int 1), (0, .ref (ue_sb E)), (1, .ref (ue_d E 0)), (2, .ref (ue_d E 38)), (3, .ref (ue_d E 63))] 6 dL_law__2807 rfl rfl (Nat.le_of_ble_eq_true rfl) rfl ?_
    refine ug_goto 23 dL_law__2810 (by decide) ?_
    refine ug_sub [(0, .ref (ue_sb E)), (1, .ref (ue_d E 0)), (2, .ref (ue_d E 38)), (3, .ref (ue_d E 63)), (4, .int (x4 + 9))] [3, 4, 5, 6, 0] rfl ?_
    exact ih
set_option maxRecDepth 20000 in
theorem law_pay {l : Launch} {E : Ue} (hx : ue_x E = [.inr (3, 1)]) {I : Um → Prop} (h : uop_pay I) {mc ms ce sl n : Nat} {x4 : Int32} (hin : ∀ q, q ≤ 8 → vp_in (x4 + nI q) (ue_sn E)) (ih : ∀ (m2 : Um) (ce sl : Nat), I m2 → ce + n ≤ mc → sl + 6 * n ≤ ms → ∃ m9, ug l E 2048 mc ms cL_law_ 8 RL (some .boolean) [] (.inl (some (.int 1), m9)) ce sl 23 [(0, .ref (ue_sb E)), (1, .ref (ue_d E 0)), (2, .ref (ue_d E 38)), (3, .ref (ue_d E 63)), (4, .int (x4 + 9))] [] m2) {mem : Um} (hI : I mem) (hc : ce + (n + 1) ≤ mc) (hs : sl + 6 * (n + 1) ≤ ms) : ∃ m9, ug l E 2048 mc ms cL_law_ 8 RL (some .boolean) [] (.inl (some (.int 1), m9)) ce sl 1623 [(0, .ref (ue_sb E)), (1, .ref (ue_d E 0)), (2, .ref (ue_d E 38)), (3, .ref (ue_d E 63)), (4, .int x4)] [] mem := by
  rcases h mem (ue_sx E (x4 + 1).toNatClampNeg) (ue_sx E (x4 + 2).toNatClampNeg) (ue_sx E (x4 + 3).toNatClampNeg) hI with ⟨m1, r, m2, e1, e2, e3, e4, hI⟩ | ⟨m1, m2, b, e1, e2, e3, hI⟩
  · obtain ⟨m9, ih⟩ := ih m2 (ce + 1) (sl + 6) hI (by omega) (by omega)
    refine ⟨m9, ?_⟩
    refine ug_aload_n 1 dL_law__1623 rfl rfl ?_
    refine ug_aload_n 0 dL_law__1624 rfl rfl ?_
    refine ug_iload 4 dL_law__1625 rfl ?_
    refine ug_iconst dL_law__1627 un_iconst_1 ?_
    refine ug_iadd dL_law__1628 ?_
    refine ug_sld (hin 1 (Nat.le_of_ble_eq_true rfl)) dL_law__1629 ?_
    refine ug_aload_n 0 dL_law__1630 rfl rfl ?_
    refine ug_iload 4 dL_law__1631 rfl ?_
    refine ug_iconst dL_law__1633 un_iconst_2 ?_
    refine ug_iadd dL_law__1634 ?_
    refine ug_sld (hin 2 (Nat.le_of_ble_eq_true rfl)) dL_law__1635 ?_
    refine ug_aload_n 0 dL_law__1636 rfl rfl ?_
    refine ug_iload 4 dL_law__1637 rfl ?_
    refine ug_iconst dL_law__1639 un_iconst_3 ?_
    refine ug_iadd dL_law__1640 ?_
    refine ug_sld (hin 3 (Nat.le_of_ble_eq_true rfl)) dL_law__1641 ?_
    refine ug_aload_n 3 dL_law__1642 rfl rfl ?_
    refine ug_callW [.ref (ue_d E 0), .int (ue_sx E (x4 + 1).toNatClampNeg), .int (ue_sx E (x4 + 2).toNatClampNeg), .int (ue_sx E (x4 + 3).toNatClampNeg), .ref (ue_d E 63)] (c_L_pay_r hx e1) kv_L_206 rfl (S := []) rfl (Nat.le_of_ble_eq_true rfl) (Nat.le_of_ble_eq_true rfl) (Nat.le_of_ble_eq_true rfl) ⟨by omega, by omega⟩ dL_law__1643 ?_
    refine ug_istore [(5, .int 0), (0, .ref (ue_sb E)), (1, .ref (ue_d E 0)), (2, .ref (ue_d E 38)), (3, .ref (ue_d E 63)), (4, .int x4)] dL_law__1646 (Nat.le_of_ble_eq_true rfl) rfl ?_
    refine ug_aload_n 3 dL_law__1648 rfl rfl ?_
    refine ug_aload_n 1 dL_law__1649 rfl rfl ?_
    refine ug_iload 5 dL_law__1650 rfl ?_
    refine ug_iconst dL_law__1652 un_iconst_1 ?_
    refine ug_iadd dL_law__1653 ?_
    refine ug_sld (hin 1 (Nat.le_of_ble_eq_true rfl)) dL_law__1654 ?_
    refine ug_aload_n 1 dL_law__1655 rfl rfl ?_
    refine ug_iload 5 dL_law__1656 rfl ?_
    refine ug_iconst dL_law__1658 un_iconst_2 ?_
    refine ug_iadd dL_law__1659 ?_
    refine ug_sld (hin 2 (Nat.le_of_ble_eq_true rfl)) dL_law__1660 ?_
    refine ug_aload_n 1 dL_law__1661 rfl rfl ?_
    refine ug_iload 5 dL_law__1662 rfl ?_
    refine ug_iconst dL_law__1664 un_iconst_3 ?_
    refine ug_iadd dL_law__1665 ?_
    refine ug_sld (hin 3 (Nat.le_of_ble_eq_true rfl)) dL_law__1666 ?_
    refine ug_callVL [.int r] [.int (ue_sx E (x4 + 1).toNatClampNeg), .int (ue_sx E (x4 + 2).toNatClampNeg), .int (ue_sx E (x4 + 3).toNatClampNeg)] (c_X8_pay e2) kc_L_208 ro_38 rfl (S := []) rfl rfl (Nat.le_of_ble_eq_true rfl) (Nat.le_of_ble_eq_true rfl) (Nat.le_of_ble_eq_true rfl) ⟨by omega, by omega⟩ dL_law__1667 ?_
    refine ug_istore [(6, .int r), (5, .int 0), (0, .ref (ue_sb E)), (1, .ref (ue_d E 0)), (2, .ref (ue_d E 38)), (3, .ref (ue_d E 63)), (4, .int x4)] dL_law__1670 (Nat.le_of_ble_eq_true rfl) rfl ?_
    refine ug_aload_n 4 dL_law__1672 rfl rfl ?_
    refine ug_callVL [.int (m2 38 0)] [] (c_X8_thrown rfl) kc_L_137 ro_38 rfl (S := []) rfl rfl (Nat.le_of_ble_eq_true rfl) (Nat.le_of_ble_eq_true rfl) (Nat.le_of_ble_eq_true rfl) ⟨by omega, by omega⟩ dL_law__1673 ?_
    refine ug_iload 1 dL_law__1676 rfl ?_
    refine ug_icmp_eq 1683 dL_law__1678 (by decide) (fun _ => ?_) (fun q => absurd e3 q)
    refine ug_iload 1 dL_law__1683 rfl ?_
    refine ug_if_ne 1700 dL_law__1685 (by decide) (fun q => absurd rfl q) (fun _ => ?_)
    refine ug_aload_n 5 dL_law__1688 rfl rfl ?_
    refine ug_iconst dL_law__1689 un_iconst_0 ?_
    refine ug_lald hx dL_law__1690 ?_
    refine ug_iload 0 dL_law__1691 rfl ?_
    refine ug_i2l dL_law__1693 ?_
    refine ug_lcmp dL_law__1694 ?_
    refine ug_if_eq 1700 dL_law__1695 (by decide) (fun _ => ?_) (fun q => absurd (ulaw_cmp e4) q)
    refine ug_goto 2807 dL_law__1700 (by decide) ?_
    refine ug_iinc (v := (x4 + 9)) [(4, .int (x4 + 9)), (6, .int r), (5, .int 0), (0, .ref (ue_sb E)), (1, .ref (ue_d E 0)), (2, .ref (ue_d E 38)), (3, .ref (ue_d E 63))] 6 dL_law__2807 rfl rfl (Nat.le_of_ble_eq_true rfl) rfl ?_
    refine ug_goto 23 dL_law__2810 (by decide) ?_
    refine ug_sub [(0, .ref (ue_sb E)), (1, .ref (ue_d E 0)), (2, .ref (ue_d E 38)), (3, .ref (ue_d E 63)), (4, .int (x4 + 9))] [3, 4, 5, 6, 0] rfl ?_
    exact ih
  · obtain ⟨m9, ih⟩ := ih m2 (ce + 1) (sl + 6) hI (by omega) (by omega)
    refine ⟨m9, ?_⟩
    refine ug_aload_n 1 dL_law__1623 rfl rfl ?_
    refine ug_aload_n 0 dL_law__1624 rfl rfl ?_
    refine ug_iload 4 dL_law__1625 rfl ?_
    refine ug_iconst dL_law__1627 un_iconst_1 ?_
    refine ug_iadd dL_law__1628 ?_
    refine ug_sld (hin 1 (Nat.le_of_ble_eq_true rfl)) dL_law__1629 ?_
    refine ug_aload_n 0 dL_law__1630 rfl rfl ?_
    refine ug_iload 4 dL_law__1631 rfl ?_
    refine ug_iconst dL_law__1633 un_iconst_2 ?_
    refine ug_iadd dL_law__1634 ?_
    refine ug_sld (hin 2 (Nat.le_of_ble_eq_true rfl)) dL_law__1635 ?_
    refine ug_aload_n 0 dL_law__1636 rfl rfl ?_
    refine ug_iload 4 dL_law__1637 rfl ?_
    refine ug_iconst dL_law__1639 un_iconst_3 ?_
    refine ug_iadd dL_law__1640 ?_
    refine ug_sld (hin 3 (Nat.le_of_ble_eq_true rfl)) dL_law__1641 ?_
    refine ug_aload_n 3 dL_law__1642 rfl rfl ?_
    refine ug_callW [.ref (ue_d E 0), .int (ue_sx E (x4 + 1).toNatClampNeg), .int (ue_sx E (x4 + 2).toNatClampNeg), .int (ue_sx E (x4 + 3).toNatClampNeg), .ref (ue_d E 63)] (c_L_pay_i e1) kv_L_206 rfl (S := []) rfl (Nat.le_of_ble_eq_true rfl) (Nat.le_of_ble_eq_true rfl) (Nat.le_of_ble_eq_true rfl) ⟨by omega, by omega⟩ dL_law__1643 ?_
    refine ug_istore [(5, .int 1), (0, .ref (ue_sb E)), (1, .ref (ue_d E 0)), (2, .ref (ue_d E 38)), (3, .ref (ue_d E 63)), (4, .int x4)] dL_law__1646 (Nat.le_of_ble_eq_true rfl) rfl ?_
    refine ug_aload_n 3 dL_law__1648 rfl rfl ?_
    refine ug_aload_n 1 dL_law__1649 rfl rfl ?_
    refine ug_iload 5 dL_law__1650 rfl ?_
    refine ug_iconst dL_law__1652 un_iconst_1 ?_
    refine ug_iadd dL_law__1653 ?_
    refine ug_sld (hin 1 (Nat.le_of_ble_eq_true rfl)) dL_law__1654 ?_
    refine ug_aload_n 1 dL_law__1655 rfl rfl ?_
    refine ug_iload 5 dL_law__1656 rfl ?_
    refine ug_iconst dL_law__1658 un_iconst_2 ?_
    refine ug_iadd dL_law__1659 ?_
    refine ug_sld (hin 2 (Nat.le_of_ble_eq_true rfl)) dL_law__1660 ?_
    refine ug_aload_n 1 dL_law__1661 rfl rfl ?_
    refine ug_iload 5 dL_law__1662 rfl ?_
    refine ug_iconst dL_law__1664 un_iconst_3 ?_
    refine ug_iadd dL_law__1665 ?_
    refine ug_sld (hin 3 (Nat.le_of_ble_eq_true rfl)) dL_law__1666 ?_
    refine ug_callVL [.int b] [.int (ue_sx E (x4 + 1).toNatClampNeg), .int (ue_sx E (x4 + 2).toNatClampNeg), .int (ue_sx E (x4 + 3).toNatClampNeg)] (c_X8_pay e2) kc_L_208 ro_38 rfl (S := []) rfl rfl (Nat.le_of_ble_eq_true rfl) (Nat.le_of_ble_eq_true rfl) (Nat.le_of_ble_eq_true rfl) ⟨by omega, by omega⟩ dL_law__1667 ?_
    refine ug_istore [(6, .int b), (5, .int 1), (0, .ref (ue_sb E)), (1, .ref (ue_d E 0)), (2, .ref (ue_d E 38)), (3, .ref (ue_d E 63)), (4, .int x4)] dL_law__1670 (Nat.le_of_ble_eq_true rfl) rfl ?_
    refine ug_aload_n 4 dL_law__1672 rfl rfl ?_
    refine ug_callVL [.int (m2 38 0)] [] (c_X8_thrown rfl) kc_L_137 ro_38 rfl (S := []) rfl rfl (Nat.le_of_ble_eq_true rfl) (Nat.le_of_ble_eq_true rfl) (Nat.le_of_ble_eq_true rfl) ⟨by omega, by omega⟩ dL_law__1673 ?_
    refine ug_iload 1 dL_law__1676 rfl ?_
    refine ug_icmp_eq 1683 dL_law__1678 (by decide) (fun _ => ?_) (fun q => absurd e3 q)
    refine ug_iload 1 dL_law__1683 rfl ?_
    refine ug_if_ne 1700 dL_law__1685 (by decide) (fun _ => ?_) (fun q => absurd q (by decide))
    refine ug_goto 2807 dL_law__1700 (by decide) ?_
    refine ug_iinc (v := (x4 + 9)) [(4, .int (x4 + 9)), (6, .int b), (5, .int 1), (0, .ref (ue_sb E)), (1, .ref (ue_d E 0)), (2, .ref (ue_d E 38)), (3, .ref (ue_d E 63))] 6 dL_law__2807 rfl rfl (Nat.le_of_ble_eq_true rfl) rfl ?_
    refine ug_goto 23 dL_law__2810 (by decide) ?_
    refine ug_sub [(0, .ref (ue_sb E)), (1, .ref (ue_d E 0)), (2, .ref (ue_d E 38)), (3, .ref (ue_d E 63)), (4, .int (x4 + 9))] [3, 4, 5, 6, 0] rfl ?_
    exact ih
set_option maxRecDepth 20000 in
theorem law_sun {l : Launch} {E : Ue} (hx : ue_x E = [.inr (3, 1)]) {I : Um → Prop} (h : uop_sun I) {mc ms ce sl n : Nat} {x4 : Int32} (hin : ∀ q, q ≤ 8 → vp_in (x4 + nI q) (ue_sn E)) (ih : ∀ (m2 : Um) (ce sl : Nat), I m2 → ce + n ≤ mc → sl + 6 * n ≤ ms → ∃ m9, ug l E 2048 mc ms cL_law_ 8 RL (some .boolean) [] (.inl (some (.int 1), m9)) ce sl 23 [(0, .ref (ue_sb E)), (1, .ref (ue_d E 0)), (2, .ref (ue_d E 38)), (3, .ref (ue_d E 63)), (4, .int (x4 + 9))] [] m2) {mem : Um} (hI : I mem) (hc : ce + (n + 1) ≤ mc) (hs : sl + 6 * (n + 1) ≤ ms) : ∃ m9, ug l E 2048 mc ms cL_law_ 8 RL (some .boolean) [] (.inl (some (.int 1), m9)) ce sl 1703 [(0, .ref (ue_sb E)), (1, .ref (ue_d E 0)), (2, .ref (ue_d E 38)), (3, .ref (ue_d E 63)), (4, .int x4)] [] mem := by
  rcases h mem (ue_sx E (x4 + 1).toNatClampNeg) (ue_sx E (x4 + 2).toNatClampNeg) (ue_sx E (x4 + 3).toNatClampNeg) hI with ⟨m1, r, m2, e1, e2, e3, e4, hI⟩ | ⟨m1, m2, b, e1, e2, e3, hI⟩ | ⟨m1, m2, b, e1, e2, e3, hI⟩
  · obtain ⟨m9, ih⟩ := ih m2 (ce + 1) (sl + 6) hI (by omega) (by omega)
    refine ⟨m9, ?_⟩
    refine ug_aload_n 1 dL_law__1703 rfl rfl ?_
    refine ug_aload_n 0 dL_law__1704 rfl rfl ?_
    refine ug_iload 4 dL_law__1705 rfl ?_
    refine ug_iconst dL_law__1707 un_iconst_1 ?_
    refine ug_iadd dL_law__1708 ?_
    refine ug_sld (hin 1 (Nat.le_of_ble_eq_true rfl)) dL_law__1709 ?_
    refine ug_aload_n 0 dL_law__1710 rfl rfl ?_
    refine ug_iload 4 dL_law__1711 rfl ?_
    refine ug_iconst dL_law__1713 un_iconst_2 ?_
    refine ug_iadd dL_law__1714 ?_
    refine ug_sld (hin 2 (Nat.le_of_ble_eq_true rfl)) dL_law__1715 ?_
    refine ug_aload_n 0 dL_law__1716 rfl rfl ?_
    refine ug_iload 4 dL_law__1717 rfl ?_
    refine ug_iconst dL_law__1719 un_iconst_3 ?_
    refine ug_iadd dL_law__1720 ?_
    refine ug_sld (hin 3 (Nat.le_of_ble_eq_true rfl)) dL_law__1721 ?_
    refine ug_aload_n 3 dL_law__1722 rfl rfl ?_
    refine ug_callW [.ref (ue_d E 0), .int (ue_sx E (x4 + 1).toNatClampNeg), .int (ue_sx E (x4 + 2).toNatClampNeg), .int (ue_sx E (x4 + 3).toNatClampNeg), .ref (ue_d E 63)] (c_L_sun_r hx e1) kv_L_209 rfl (S := []) rfl (Nat.le_of_ble_eq_true rfl) (Nat.le_of_ble_eq_true rfl) (Nat.le_of_ble_eq_true rfl) ⟨by omega, by omega⟩ dL_law__1723 ?_
    refine ug_istore [(5, .int 0), (0, .ref (ue_sb E)), (1, .ref (ue_d E 0)), (2, .ref (ue_d E 38)), (3, .ref (ue_d E 63)), (4, .int x4)] dL_law__1726 (Nat.le_of_ble_eq_true rfl) rfl ?_
    refine ug_aload_n 3 dL_law__1728 rfl rfl ?_
    refine ug_aload_n 1 dL_law__1729 rfl rfl ?_
    refine ug_iload 5 dL_law__1730 rfl ?_
    refine ug_iconst dL_law__1732 un_iconst_1 ?_
    refine ug_iadd dL_law__1733 ?_
    refine ug_sld (hin 1 (Nat.le_of_ble_eq_true rfl)) dL_law__1734 ?_
    refine ug_aload_n 1 dL_law__1735 rfl rfl ?_
    refine ug_iload 5 dL_law__1736 rfl ?_
    refine ug_iconst dL_law__1738 un_iconst_2 ?_
    refine ug_iadd dL_law__1739 ?_
    refine ug_sld (hin 2 (Nat.le_of_ble_eq_true rfl)) dL_law__1740 ?_
    refine ug_aload_n 1 dL_law__1741 rfl rfl ?_
    refine ug_iload 5 dL_law__1742 rfl ?_
    refine ug_iconst dL_law__1744 un_iconst_3 ?_
    refine ug_iadd dL_law__1745 ?_
    refine ug_sld (hin 3 (Nat.le_of_ble_eq_true rfl)) dL_law__1746 ?_
    refine ug_callVL [.int r] [.int (ue_sx E (x4 + 1).toNatClampNeg), .int (ue_sx E (x4 + 2).toNatClampNeg), .int (ue_sx E (x4 + 3).toNatClampNeg)] (c_X8_sun e2) kc_L_211 ro_38 rfl (S := []) rfl rfl (Nat.le_of_ble_eq_true rfl) (Nat.le_of_ble_eq_true rfl) (Nat.le_of_ble_eq_true rfl) ⟨by omega, by omega⟩ dL_law__1747 ?_
    refine ug_istore [(6, .int r), (5, .int 0), (0, .ref (ue_sb E)), (1, .ref (ue_d E 0)), (2, .ref (ue_d E 38)), (3, .ref (ue_d E 63)), (4, .int x4)] dL_law__1750 (Nat.le_of_ble_eq_true rfl) rfl ?_
    refine ug_aload_n 4 dL_law__1752 rfl rfl ?_
    refine ug_callVL [.int (m2 38 0)] [] (c_X8_thrown rfl) kc_L_137 ro_38 rfl (S := []) rfl rfl (Nat.le_of_ble_eq_true rfl) (Nat.le_of_ble_eq_true rfl) (Nat.le_of_ble_eq_true rfl) ⟨by omega, by omega⟩ dL_law__1753 ?_
    refine ug_iload 1 dL_law__1756 rfl ?_
    refine ug_icmp_eq 1763 dL_law__1758 (by decide) (fun _ => ?_) (fun q => absurd e3 q)
    refine ug_iload 1 dL_law__1763 rfl ?_
    refine ug_if_ne 1780 dL_law__1765 (by decide) (fun q => absurd rfl q) (fun _ => ?_)
    refine ug_aload_n 5 dL_law__1768 rfl rfl ?_
    refine ug_iconst dL_law__1769 un_iconst_0 ?_
    refine ug_lald hx dL_law__1770 ?_
    refine ug_iload 0 dL_law__1771 rfl ?_
    refine ug_i2l dL_law__1773 ?_
    refine ug_lcmp dL_law__1774 ?_
    refine ug_if_eq 1780 dL_law__1775 (by decide) (fun _ => ?_) (fun q => absurd (ulaw_cmp e4) q)
    refine ug_goto 2807 dL_law__1780 (by decide) ?_
    refine ug_iinc (v := (x4 + 9)) [(4, .int (x4 + 9)), (6, .int r), (5, .int 0), (0, .ref (ue_sb E)), (1, .ref (ue_d E 0)), (2, .ref (ue_d E 38)), (3, .ref (ue_d E 63))] 6 dL_law__2807 rfl rfl (Nat.le_of_ble_eq_true rfl) rfl ?_
    refine ug_goto 23 dL_law__2810 (by decide) ?_
    refine ug_sub [(0, .ref (ue_sb E)), (1, .ref (ue_d E 0)), (2, .ref (ue_d E 38)), (3, .ref (ue_d E 63)), (4, .int (x4 + 9))] [3, 4, 5, 6, 0] rfl ?_
    exact ih
  · obtain ⟨m9, ih⟩ := ih m2 (ce + 1) (sl + 6) hI (by omega) (by omega)
    refine ⟨m9, ?_⟩
    refine ug_aload_n 1 dL_law__1703 rfl rfl ?_
    refine ug_aload_n 0 dL_law__1704 rfl rfl ?_
    refine ug_iload 4 dL_law__1705 rfl ?_
    refine ug_iconst dL_law__1707 un_iconst_1 ?_
    refine ug_iadd dL_law__1708 ?_
    refine ug_sld (hin 1 (Nat.le_of_ble_eq_true rfl)) dL_law__1709 ?_
    refine ug_aload_n 0 dL_law__1710 rfl rfl ?_
    refine ug_iload 4 dL_law__1711 rfl ?_
    refine ug_iconst dL_law__1713 un_iconst_2 ?_
    refine ug_iadd dL_law__1714 ?_
    refine ug_sld (hin 2 (Nat.le_of_ble_eq_true rfl)) dL_law__1715 ?_
    refine ug_aload_n 0 dL_law__1716 rfl rfl ?_
    refine ug_iload 4 dL_law__1717 rfl ?_
    refine ug_iconst dL_law__1719 un_iconst_3 ?_
    refine ug_iadd dL_law__1720 ?_
    refine ug_sld (hin 3 (Nat.le_of_ble_eq_true rfl)) dL_law__1721 ?_
    refine ug_aload_n 3 dL_law__1722 rfl rfl ?_
    refine ug_callW [.ref (ue_d E 0), .int (ue_sx E (x4 + 1).toNatClampNeg), .int (ue_sx E (x4 + 2).toNatClampNeg), .int (ue_sx E (x4 + 3).toNatClampNeg), .ref (ue_d E 63)] (c_L_sun_n e1) kv_L_209 rfl (S := []) rfl (Nat.le_of_ble_eq_true rfl) (Nat.le_of_ble_eq_true rfl) (Nat.le_of_ble_eq_true rfl) ⟨by omega, by omega⟩ dL_law__1723 ?_
    refine ug_istore [(5, .int 1), (0, .ref (ue_sb E)), (1, .ref (ue_d E 0)), (2, .ref (ue_d E 38)), (3, .ref (ue_d E 63)), (4, .int x4)] dL_law__1726 (Nat.le_of_ble_eq_true rfl) rfl ?_
    refine ug_aload_n 3 dL_law__1728 rfl rfl ?_
    refine ug_aload_n 1 dL_law__1729 rfl rfl ?_
    refine ug_iload 5 dL_law__1730 rfl ?_
    refine ug_iconst dL_law__1732 un_iconst_1 ?_
    refine ug_iadd dL_law__1733 ?_
    refine ug_sld (hin 1 (Nat.le_of_ble_eq_true rfl)) dL_law__1734 ?_
    refine ug_aload_n 1 dL_law__1735 rfl rfl ?_
    refine ug_iload 5 dL_law__1736 rfl ?_
    refine ug_iconst dL_law__1738 un_iconst_2 ?_
    refine ug_iadd dL_law__1739 ?_
    refine ug_sld (hin 2 (Nat.le_of_ble_eq_true rfl)) dL_law__1740 ?_
    refine ug_aload_n 1 dL_law__1741 rfl rfl ?_
    refine ug_iload 5 dL_law__1742 rfl ?_
    refine ug_iconst dL_law__1744 un_iconst_3 ?_
    refine ug_iadd dL_law__1745 ?_
    refine ug_sld (hin 3 (Nat.le_of_ble_eq_true rfl)) dL_law__1746 ?_
    refine ug_callVL [.int b] [.int (ue_sx E (x4 + 1).toNatClampNeg), .int (ue_sx E (x4 + 2).toNatClampNeg), .int (ue_sx E (x4 + 3).toNatClampNeg)] (c_X8_sun e2) kc_L_211 ro_38 rfl (S := []) rfl rfl (Nat.le_of_ble_eq_true rfl) (Nat.le_of_ble_eq_true rfl) (Nat.le_of_ble_eq_true rfl) ⟨by omega, by omega⟩ dL_law__1747 ?_
    refine ug_istore [(6, .int b), (5, .int 1), (0, .ref (ue_sb E)), (1, .ref (ue_d E 0)), (2, .ref (ue_d E 38)), (3, .ref (ue_d E 63)), (4, .int x4)] dL_law__1750 (Nat.le_of_ble_eq_true rfl) rfl ?_
    refine ug_aload_n 4 dL_law__1752 rfl rfl ?_
    refine ug_callVL [.int (m2 38 0)] [] (c_X8_thrown rfl) kc_L_137 ro_38 rfl (S := []) rfl rfl (Nat.le_of_ble_eq_true rfl) (Nat.le_of_ble_eq_true rfl) (Nat.le_of_ble_eq_true rfl) ⟨by omega, by omega⟩ dL_law__1753 ?_
    refine ug_iload 1 dL_law__1756 rfl ?_
    refine ug_icmp_eq 1763 dL_law__1758 (by decide) (fun _ => ?_) (fun q => absurd e3 q)
    refine ug_iload 1 dL_law__1763 rfl ?_
    refine ug_if_ne 1780 dL_law__1765 (by decide) (fun _ => ?_) (fun q => absurd q (by decide))
    refine ug_goto 2807 dL_law__1780 (by decide) ?_
    refine ug_iinc (v := (x4 + 9)) [(4, .int (x4 + 9)), (6, .int b), (5, .int 1), (0, .ref (ue_sb E)), (1, .ref (ue_d E 0)), (2, .ref (ue_d E 38)), (3, .ref (ue_d E 63))] 6 dL_law__2807 rfl rfl (Nat.le_of_ble_eq_true rfl) rfl ?_
    refine ug_goto 23 dL_law__2810 (by decide) ?_
    refine ug_sub [(0, .ref (ue_sb E)), (1, .ref (ue_d E 0)), (2, .ref (ue_d E 38)), (3, .ref (ue_d E 63)), (4, .int (x4 + 9))] [3, 4, 5, 6, 0] rfl ?_
    exact ih
  · obtain ⟨m9, ih⟩ := ih m2 (ce + 1) (sl + 6) hI (by omega) (by omega)
    refine ⟨m9, ?_⟩
    refine ug_aload_n 1 dL_law__1703 rfl rfl ?_
    refine ug_aload_n 0 dL_law__1704 rfl rfl ?_
    refine ug_iload 4 dL_law__1705 rfl ?_
    refine ug_iconst dL_law__1707 un_iconst_1 ?_
    refine ug_iadd dL_law__1708 ?_
    refine ug_sld (hin 1 (Nat.le_of_ble_eq_true rfl)) dL_law__1709 ?_
    refine ug_aload_n 0 dL_law__1710 rfl rfl ?_
    refine ug_iload 4 dL_law__1711 rfl ?_
    refine ug_iconst dL_law__1713 un_iconst_2 ?_
    refine ug_iadd dL_law__1714 ?_
    refine ug_sld (hin 2 (Nat.le_of_ble_eq_true rfl)) dL_law__1715 ?_
    refine ug_aload_n 0 dL_law__1716 rfl rfl ?_
    refine ug_iload 4 dL_law__1717 rfl ?_
    refine ug_iconst dL_law__1719 un_iconst_3 ?_
    refine ug_iadd dL_law__1720 ?_
    refine ug_sld (hin 3 (Nat.le_of_ble_eq_true rfl)) dL_law__1721 ?_
    refine ug_aload_n 3 dL_law__1722 rfl rfl ?_
    refine ug_callW [.ref (ue_d E 0), .int (ue_sx E (x4 + 1).toNatClampNeg), .int (ue_sx E (x4 + 2).toNatClampNeg), .int (ue_sx E (x4 + 3).toNatClampNeg), .ref (ue_d E 63)] (c_L_sun_i e1) kv_L_209 rfl (S := []) rfl (Nat.le_of_ble_eq_true rfl) (Nat.le_of_ble_eq_true rfl) (Nat.le_of_ble_eq_true rfl) ⟨by omega, by omega⟩ dL_law__1723 ?_
    refine ug_istore [(5, .int 2), (0, .ref (ue_sb E)), (1, .ref (ue_d E 0)), (2, .ref (ue_d E 38)), (3, .ref (ue_d E 63)), (4, .int x4)] dL_law__1726 (Nat.le_of_ble_eq_true rfl) rfl ?_
    refine ug_aload_n 3 dL_law__1728 rfl rfl ?_
    refine ug_aload_n 1 dL_law__1729 rfl rfl ?_
    refine ug_iload 5 dL_law__1730 rfl ?_
    refine ug_iconst dL_law__1732 un_iconst_1 ?_
    refine ug_iadd dL_law__1733 ?_
    refine ug_sld (hin 1 (Nat.le_of_ble_eq_true rfl)) dL_law__1734 ?_
    refine ug_aload_n 1 dL_law__1735 rfl rfl ?_
    refine ug_iload 5 dL_law__1736 rfl ?_
    refine ug_iconst dL_law__1738 un_iconst_2 ?_
    refine ug_iadd dL_law__1739 ?_
    refine ug_sld (hin 2 (Nat.le_of_ble_eq_true rfl)) dL_law__1740 ?_
    refine ug_aload_n 1 dL_law__1741 rfl rfl ?_
    refine ug_iload 5 dL_law__1742 rfl ?_
    refine ug_iconst dL_law__1744 un_iconst_3 ?_
    refine ug_iadd dL_law__1745 ?_
    refine ug_sld (hin 3 (Nat.le_of_ble_eq_true rfl)) dL_law__1746 ?_
    refine ug_callVL [.int b] [.int (ue_sx E (x4 + 1).toNatClampNeg), .int (ue_sx E (x4 + 2).toNatClampNeg), .int (ue_sx E (x4 + 3).toNatClampNeg)] (c_X8_sun e2) kc_L_211 ro_38 rfl (S := []) rfl rfl (Nat.le_of_ble_eq_true rfl) (Nat.le_of_ble_eq_true rfl) (Nat.le_of_ble_eq_true rfl) ⟨by omega, by omega⟩ dL_law__1747 ?_
    refine ug_istore [(6, .int b), (5, .int 2), (0, .ref (ue_sb E)), (1, .ref (ue_d E 0)), (2, .ref (ue_d E 38)), (3, .ref (ue_d E 63)), (4, .int x4)] dL_law__1750 (Nat.le_of_ble_eq_true rfl) rfl ?_
    refine ug_aload_n 4 dL_law__1752 rfl rfl ?_
    refine ug_callVL [.int (m2 38 0)] [] (c_X8_thrown rfl) kc_L_137 ro_38 rfl (S := []) rfl rfl (Nat.le_of_ble_eq_true rfl) (Nat.le_of_ble_eq_true rfl) (Nat.le_of_ble_eq_true rfl) ⟨by omega, by omega⟩ dL_law__1753 ?_
    refine ug_iload 1 dL_law__1756 rfl ?_
    refine ug_icmp_eq 1763 dL_law__1758 (by decide) (fun _ => ?_) (fun q => absurd e3 q)
    refine ug_iload 1 dL_law__1763 rfl ?_
    refine ug_if_ne 1780 dL_law__1765 (by decide) (fun _ => ?_) (fun q => absurd q (by decide))
    refine ug_goto 2807 dL_law__1780 (by decide) ?_
    refine ug_iinc (v := (x4 + 9)) [(4, .int (x4 + 9)), (6, .int b), (5, .int 2), (0, .ref (ue_sb E)), (1, .ref (ue_d E 0)), (2, .ref (ue_d E 38)), (3, .ref (ue_d E 63))] 6 dL_law__2807 rfl rfl (Nat.le_of_ble_eq_true rfl) rfl ?_
    refine ug_goto 23 dL_law__2810 (by decide) ?_
    refine ug_sub [(0, .ref (ue_sb E)), (1, .ref (ue_d E 0)), (2, .ref (ue_d E 38)), (3, .ref (ue_d E 63)), (4, .int (x4 + 9))] [3, 4, 5, 6, 0] rfl ?_
    exact ih
set_option maxRecDepth 20000 in
theorem law_richest {l : Launch} {E : Ue} (hx : ue_x E = [.inr (3, 1)]) {I : Um → Prop} (h : uop_richest I) {mc ms ce sl n : Nat} {x4 : Int32} (hin : ∀ q, q ≤ 8 → vp_in (x4 + nI q) (ue_sn E)) (ih : ∀ (m2 : Um) (ce sl : Nat), I m2 → ce + n ≤ mc → sl + 6 * n ≤ ms → ∃ m9, ug l E 2048 mc ms cL_law_ 8 RL (some .boolean) [] (.inl (some (.int 1), m9)) ce sl 23 [(0, .ref (ue_sb E)), (1, .ref (ue_d E 0)), (2, .ref (ue_d E 38)), (3, .ref (ue_d E 63)), (4, .int (x4 + 9))] [] m2) {mem : Um} (hI : I mem) (hc : ce + (n + 1) ≤ mc) (hs : sl + 6 * (n + 1) ≤ ms) : ∃ m9, ug l E 2048 mc ms cL_law_ 8 RL (some .boolean) [] (.inl (some (.int 1), m9)) ce sl 1783 [(0, .ref (ue_sb E)), (1, .ref (ue_d E 0)), (2, .ref (ue_d E 38)), (3, .ref (ue_d E 63)), (4, .int x4)] [] mem := by
  rcases h mem (ue_sx E (x4 + 1).toNatClampNeg) hI with ⟨m1, r, m2, e1, e2, e3, e4, hI⟩ | ⟨m1, m2, b, e1, e2, e3, hI⟩
  · obtain ⟨m9, ih⟩ := ih m2 (ce + 1) (sl + 6) hI (by omega) (by omega)
    refine ⟨m9, ?_⟩
    refine ug_aload_n 1 dL_law__1783 rfl rfl ?_
    refine ug_aload_n 0 dL_law__1784 rfl rfl ?_
    refine ug_iload 4 dL_law__1785 rfl ?_
    refine ug_iconst dL_law__1787 un_iconst_1 ?_
    refine ug_iadd dL_law__1788 ?_
    refine ug_sld (hin 1 (Nat.le_of_ble_eq_true rfl)) dL_law__1789 ?_
    refine ug_aload_n 3 dL_law__1790 rfl rfl ?_
    refine ug_callW [.ref (ue_d E 0), .int (ue_sx E (x4 + 1).toNatClampNeg), .ref (ue_d E 63)] (c_L_richest_r hx e1) kv_L_212 rfl (S := []) rfl (Nat.le_of_ble_eq_true rfl) (Nat.le_of_ble_eq_true rfl) (Nat.le_of_ble_eq_true rfl) ⟨by omega, by omega⟩ dL_law__1791 ?_
    refine ug_istore [(5, .int 0), (0, .ref (ue_sb E)), (1, .ref (ue_d E 0)), (2, .ref (ue_d E 38)), (3, .ref (ue_d E 63)), (4, .int x4)] dL_law__1794 (Nat.le_of_ble_eq_true rfl) rfl ?_
    refine ug_aload_n 3 dL_law__1796 rfl rfl ?_
    refine ug_aload_n 1 dL_law__1797 rfl rfl ?_
    refine ug_iload 5 dL_law__1798 rfl ?_
    refine ug_iconst dL_law__1800 un_iconst_1 ?_
    refine ug_iadd dL_law__1801 ?_
    refine ug_sld (hin 1 (Nat.le_of_ble_eq_true rfl)) dL_law__1802 ?_
    refine ug_callVL [.int r] [.int (ue_sx E (x4 + 1).toNatClampNeg)] (c_X8_richest e2) kc_L_214 ro_38 rfl (S := []) rfl rfl (Nat.le_of_ble_eq_true rfl) (Nat.le_of_ble_eq_true rfl) (Nat.le_of_ble_eq_true rfl) ⟨by omega, by omega⟩ dL_law__1803 ?_
    refine ug_istore [(6, .int r), (5, .int 0), (0, .ref (ue_sb E)), (1, .ref (ue_d E 0)), (2, .ref (ue_d E 38)), (3, .ref (ue_d E 63)), (4, .int x4)] dL_law__1806 (Nat.le_of_ble_eq_true rfl) rfl ?_
    refine ug_aload_n 4 dL_law__1808 rfl rfl ?_
    refine ug_callVL [.int (m2 38 0)] [] (c_X8_thrown rfl) kc_L_137 ro_38 rfl (S := []) rfl rfl (Nat.le_of_ble_eq_true rfl) (Nat.le_of_ble_eq_true rfl) (Nat.le_of_ble_eq_true rfl) ⟨by omega, by omega⟩ dL_law__1809 ?_
    refine ug_iload 1 dL_law__1812 rfl ?_
    refine ug_icmp_eq 1819 dL_law__1814 (by decide) (fun _ => ?_) (fun q => absurd e3 q)
    refine ug_iload 1 dL_law__1819 rfl ?_
    refine ug_if_ne 1836 dL_law__1821 (by decide) (fun q => absurd rfl q) (fun _ => ?_)
    refine ug_aload_n 5 dL_law__1824 rfl rfl ?_
    refine ug_iconst dL_law__1825 un_iconst_0 ?_
    refine ug_lald hx dL_law__1826 ?_
    refine ug_iload 0 dL_law__1827 rfl ?_
    refine ug_i2l dL_law__1829 ?_
    refine ug_lcmp dL_law__1830 ?_
    refine ug_if_eq 1836 dL_law__1831 (by decide) (fun _ => ?_) (fun q => absurd (ulaw_cmp e4) q)
    refine ug_goto 2807 dL_law__1836 (by decide) ?_
    refine ug_iinc (v := (x4 + 9)) [(4, .int (x4 + 9)), (6, .int r), (5, .int 0), (0, .ref (ue_sb E)), (1, .ref (ue_d E 0)), (2, .ref (ue_d E 38)), (3, .ref (ue_d E 63))] 6 dL_law__2807 rfl rfl (Nat.le_of_ble_eq_true rfl) rfl ?_
    refine ug_goto 23 dL_law__2810 (by decide) ?_
    refine ug_sub [(0, .ref (ue_sb E)), (1, .ref (ue_d E 0)), (2, .ref (ue_d E 38)), (3, .ref (ue_d E 63)), (4, .int (x4 + 9))] [3, 4, 5, 6, 0] rfl ?_
    exact ih
  · obtain ⟨m9, ih⟩ := ih m2 (ce + 1) (sl + 6) hI (by omega) (by omega)
    refine ⟨m9, ?_⟩
    refine ug_aload_n 1 dL_law__1783 rfl rfl ?_
    refine ug_aload_n 0 dL_law__1784 rfl rfl ?_
    refine ug_iload 4 dL_law__1785 rfl ?_
    refine ug_iconst dL_law__1787 un_iconst_1 ?_
    refine ug_iadd dL_law__1788 ?_
    refine ug_sld (hin 1 (Nat.le_of_ble_eq_true rfl)) dL_law__1789 ?_
    refine ug_aload_n 3 dL_law__1790 rfl rfl ?_
    refine ug_callW [.ref (ue_d E 0), .int (ue_sx E (x4 + 1).toNatClampNeg), .ref (ue_d E 63)] (c_L_richest_i e1) kv_L_212 rfl (S := []) rfl (Nat.le_of_ble_eq_true rfl) (Nat.le_of_ble_eq_true rfl) (Nat.le_of_ble_eq_true rfl) ⟨by omega, by omega⟩ dL_law__1791 ?_
    refine ug_istore [(5, .int 1), (0, .ref (ue_sb E)), (1, .ref (ue_d E 0)), (2, .ref (ue_d E 38)), (3, .ref (ue_d E 63)), (4, .int x4)] dL_law__1794 (Nat.le_of_ble_eq_true rfl) rfl ?_
    refine ug_aload_n 3 dL_law__1796 rfl rfl ?_
    refine ug_aload_n 1 dL_law__1797 rfl rfl ?_
    refine ug_iload 5 dL_law__1798 rfl ?_
    refine ug_iconst dL_law__1800 un_iconst_1 ?_
    refine ug_iadd dL_law__1801 ?_
    refine ug_sld (hin 1 (Nat.le_of_ble_eq_true rfl)) dL_law__1802 ?_
    refine ug_callVL [.int b] [.int (ue_sx E (x4 + 1).toNatClampNeg)] (c_X8_richest e2) kc_L_214 ro_38 rfl (S := []) rfl rfl (Nat.le_of_ble_eq_true rfl) (Nat.le_of_ble_eq_true rfl) (Nat.le_of_ble_eq_true rfl) ⟨by omega, by omega⟩ dL_law__1803 ?_
    refine ug_istore [(6, .int b), (5, .int 1), (0, .ref (ue_sb E)), (1, .ref (ue_d E 0)), (2, .ref (ue_d E 38)), (3, .ref (ue_d E 63)), (4, .int x4)] dL_law__1806 (Nat.le_of_ble_eq_true rfl) rfl ?_
    refine ug_aload_n 4 dL_law__1808 rfl rfl ?_
    refine ug_callVL [.int (m2 38 0)] [] (c_X8_thrown rfl) kc_L_137 ro_38 rfl (S := []) rfl rfl (Nat.le_of_ble_eq_true rfl) (Nat.le_of_ble_eq_true rfl) (Nat.le_of_ble_eq_true rfl) ⟨by omega, by omega⟩ dL_law__1809 ?_
    refine ug_iload 1 dL_law__1812 rfl ?_
    refine ug_icmp_eq 1819 dL_law__1814 (by decide) (fun _ => ?_) (fun q => absurd e3 q)
    refine ug_iload 1 dL_law__1819 rfl ?_
    refine ug_if_ne 1836 dL_law__1821 (by decide) (fun _ => ?_) (fun q => absurd q (by decide))
    refine ug_goto 2807 dL_law__1836 (by decide) ?_
    refine ug_iinc (v := (x4 + 9)) [(4, .int (x4 + 9)), (6, .int b), (5, .int 1), (0, .ref (ue_sb E)), (1, .ref (ue_d E 0)), (2, .ref (ue_d E 38)), (3, .ref (ue_d E 63))] 6 dL_law__2807 rfl rfl (Nat.le_of_ble_eq_true rfl) rfl ?_
    refine ug_goto 23 dL_law__2810 (by decide) ?_
    refine ug_sub [(0, .ref (ue_sb E)), (1, .ref (ue_d E 0)), (2, .ref (ue_d E 38)), (3, .ref (ue_d E 63)), (4, .int (x4 + 9))] [3, 4, 5, 6, 0] rfl ?_
    exact ih
set_option maxRecDepth 20000 in
theorem law_idle {l : Launch} {E : Ue} (hx : ue_x E = [.inr (3, 1)]) {I : Um → Prop} (h : uop_idle I) {mc ms ce sl n : Nat} {x4 : Int32} (hin : ∀ q, q ≤ 8 → vp_in (x4 + nI q) (ue_sn E)) (ih : ∀ (m2 : Um) (ce sl : Nat), I m2 → ce + n ≤ mc → sl + 6 * n ≤ ms → ∃ m9, ug l E 2048 mc ms cL_law_ 8 RL (some .boolean) [] (.inl (some (.int 1), m9)) ce sl 23 [(0, .ref (ue_sb E)), (1, .ref (ue_d E 0)), (2, .ref (ue_d E 38)), (3, .ref (ue_d E 63)), (4, .int (x4 + 9))] [] m2) {mem : Um} (hI : I mem) (hc : ce + (n + 1) ≤ mc) (hs : sl + 6 * (n + 1) ≤ ms) : ∃ m9, ug l E 2048 mc ms cL_law_ 8 RL (some .boolean) [] (.inl (some (.int 1), m9)) ce sl 1839 [(0, .ref (ue_sb E)), (1, .ref (ue_d E 0)), (2, .ref (ue_d E 38)), (3, .ref (ue_d E 63)), (4, .int x4)] [] mem := by
  obtain ⟨m1, r, m2, e1, e2, hI⟩ := h mem  hI
  obtain ⟨m9, ih⟩ := ih m2 ce sl hI (by omega) (by omega)
  refine ⟨m9, ?_⟩
  refine ug_aload_n 1 dL_law__1839 rfl rfl ?_
  refine ug_callVL [.int r] [] (c_X7_idle e1) kc_L_215 ro_0 rfl (S := []) rfl rfl (Nat.le_of_ble_eq_true rfl) (Nat.le_of_ble_eq_true rfl) (Nat.le_of_ble_eq_true rfl) ⟨by omega, by omega⟩ dL_law__1840 ?_
  refine ug_aload_n 2 dL_law__1843 rfl rfl ?_
  refine ug_callVL [.int r, .int r] [] (c_X8_idle e2) kc_L_218 ro_38 rfl (S := [.int r]) rfl rfl (Nat.le_of_ble_eq_true rfl) (Nat.le_of_ble_eq_true rfl) (Nat.le_of_ble_eq_true rfl) ⟨by omega, by omega⟩ dL_law__1844 ?_
  refine ug_icmp_eq 2807 dL_law__1847 (by decide) (fun _ => ?_) (fun q => absurd rfl q)
  refine ug_iinc (v := (x4 + 9)) [(4, .int (x4 + 9)), (0, .ref (ue_sb E)), (1, .ref (ue_d E 0)), (2, .ref (ue_d E 38)), (3, .ref (ue_d E 63))] 4 dL_law__2807 rfl rfl (Nat.le_of_ble_eq_true rfl) rfl ?_
  refine ug_goto 23 dL_law__2810 (by decide) ?_
  refine ug_sub [(0, .ref (ue_sb E)), (1, .ref (ue_d E 0)), (2, .ref (ue_d E 38)), (3, .ref (ue_d E 63)), (4, .int (x4 + 9))] [1, 2, 3, 4, 0] rfl ?_
  exact ih
set_option maxRecDepth 20000 in
theorem law_under {l : Launch} {E : Ue} (hx : ue_x E = [.inr (3, 1)]) {I : Um → Prop} (h : uop_under I) {mc ms ce sl n : Nat} {x4 : Int32} (hin : ∀ q, q ≤ 8 → vp_in (x4 + nI q) (ue_sn E)) (ih : ∀ (m2 : Um) (ce sl : Nat), I m2 → ce + n ≤ mc → sl + 6 * n ≤ ms → ∃ m9, ug l E 2048 mc ms cL_law_ 8 RL (some .boolean) [] (.inl (some (.int 1), m9)) ce sl 23 [(0, .ref (ue_sb E)), (1, .ref (ue_d E 0)), (2, .ref (ue_d E 38)), (3, .ref (ue_d E 63)), (4, .int (x4 + 9))] [] m2) {mem : Um} (hI : I mem) (hc : ce + (n + 1) ≤ mc) (hs : sl + 6 * (n + 1) ≤ ms) : ∃ m9, ug l E 2048 mc ms cL_law_ 8 RL (some .boolean) [] (.inl (some (.int 1), m9)) ce sl 1852 [(0, .ref (ue_sb E)), (1, .ref (ue_d E 0)), (2, .ref (ue_d E 38)), (3, .ref (ue_d E 63)), (4, .int x4)] [] mem := by
  obtain ⟨m1, r, m2, e1, e2, hI⟩ := h mem  hI
  obtain ⟨m9, ih⟩ := ih m2 ce sl hI (by omega) (by omega)
  refine ⟨m9, ?_⟩
  refine ug_aload_n 1 dL_law__1852 rfl rfl ?_
  refine ug_callVL [.int r] [] (c_X7_under e1) kc_L_219 ro_0 rfl (S := []) rfl rfl (Nat.le_of_ble_eq_true rfl) (Nat.le_of_ble_eq_true rfl) (Nat.le_of_ble_eq_true rfl) ⟨by omega, by omega⟩ dL_law__1853 ?_
  refine ug_aload_n 2 dL_law__1856 rfl rfl ?_
  refine ug_callVL [.int r, .int r] [] (c_X8_under e2) kc_L_222 ro_38 rfl (S := [.int r]) rfl rfl (Nat.le_of_ble_eq_true rfl) (Nat.le_of_ble_eq_true rfl) (Nat.le_of_ble_eq_true rfl) ⟨by omega, by omega⟩ dL_law__1857 ?_
  refine ug_icmp_eq 2807 dL_law__1860 (by decide) (fun _ => ?_) (fun q => absurd rfl q)
  refine ug_iinc (v := (x4 + 9)) [(4, .int (x4 + 9)), (0, .ref (ue_sb E)), (1, .ref (ue_d E 0)), (2, .ref (ue_d E 38)), (3, .ref (ue_d E 63))] 4 dL_law__2807 rfl rfl (Nat.le_of_ble_eq_true rfl) rfl ?_
  refine ug_goto 23 dL_law__2810 (by decide) ?_
  refine ug_sub [(0, .ref (ue_sb E)), (1, .ref (ue_d E 0)), (2, .ref (ue_d E 38)), (3, .ref (ue_d E 63)), (4, .int (x4 + 9))] [1, 2, 3, 4, 0] rfl ?_
  exact ih
set_option maxRecDepth 20000 in
theorem law_offer {l : Launch} {E : Ue} (hx : ue_x E = [.inr (3, 1)]) {I : Um → Prop} (h : uop_offer I) {mc ms ce sl n : Nat} {x4 : Int32} (hin : ∀ q, q ≤ 8 → vp_in (x4 + nI q) (ue_sn E)) (ih : ∀ (m2 : Um) (ce sl : Nat), I m2 → ce + n ≤ mc → sl + 6 * n ≤ ms → ∃ m9, ug l E 2048 mc ms cL_law_ 8 RL (some .boolean) [] (.inl (some (.int 1), m9)) ce sl 23 [(0, .ref (ue_sb E)), (1, .ref (ue_d E 0)), (2, .ref (ue_d E 38)), (3, .ref (ue_d E 63)), (4, .int (x4 + 9))] [] m2) {mem : Um} (hI : I mem) (hc : ce + (n + 1) ≤ mc) (hs : sl + 6 * (n + 1) ≤ ms) : ∃ m9, ug l E 2048 mc ms cL_law_ 8 RL (some .boolean) [] (.inl (some (.int 1), m9)) ce sl 1865 [(0, .ref (ue_sb E)), (1, .ref (ue_d E 0)), (2, .ref (ue_d E 38)), (3, .ref (ue_d E 63)), (4, .int x4)] [] mem := by
  rcases h mem (ue_sx E (x4 + 1).toNatClampNeg) (ue_sx E (x4 + 2).toNatClampNeg) hI with ⟨m1, r, m2, e1, e2, e3, e4, hI⟩ | ⟨m1, m2, b, e1, e2, e3, hI⟩ | ⟨m1, m2, b, e1, e2, e3, hI⟩
  · obtain ⟨m9, ih⟩ := ih m2 (ce + 1) (sl + 6) hI (by omega) (by omega)
    refine ⟨m9, ?_⟩
    refine ug_aload_n 1 dL_law__1865 rfl rfl ?_
    refine ug_aload_n 0 dL_law__1866 rfl rfl ?_
    refine ug_iload 4 dL_law__1867 rfl ?_
    refine ug_iconst dL_law__1869 un_iconst_1 ?_
    refine ug_iadd dL_law__1870 ?_
    refine ug_sld (hin 1 (Nat.le_of_ble_eq_true rfl)) dL_law__1871 ?_
    refine ug_aload_n 0 dL_law__1872 rfl rfl ?_
    refine ug_iload 4 dL_law__1873 rfl ?_
    refine ug_iconst dL_law__1875 un_iconst_2 ?_
    refine ug_iadd dL_law__1876 ?_
    refine ug_sld (hin 2 (Nat.le_of_ble_eq_true rfl)) dL_law__1877 ?_
    refine ug_aload_n 3 dL_law__1878 rfl rfl ?_
    refine ug_callW [.ref (ue_d E 0), .int (ue_sx E (x4 + 1).toNatClampNeg), .int (ue_sx E (x4 + 2).toNatClampNeg), .ref (ue_d E 63)] (c_L_offer_r hx e1) kv_L_223 rfl (S := []) rfl (Nat.le_of_ble_eq_true rfl) (Nat.le_of_ble_eq_true rfl) (Nat.le_of_ble_eq_true rfl) ⟨by omega, by omega⟩ dL_law__1879 ?_
    refine ug_istore [(5, .int 0), (0, .ref (ue_sb E)), (1, .ref (ue_d E 0)), (2, .ref (ue_d E 38)), (3, .ref (ue_d E 63)), (4, .int x4)] dL_law__1882 (Nat.le_of_ble_eq_true rfl) rfl ?_
    refine ug_aload_n 3 dL_law__1884 rfl rfl ?_
    refine ug_aload_n 1 dL_law__1885 rfl rfl ?_
    refine ug_iload 5 dL_law__1886 rfl ?_
    refine ug_iconst dL_law__1888 un_iconst_1 ?_
    refine ug_iadd dL_law__1889 ?_
    refine ug_sld (hin 1 (Nat.le_of_ble_eq_true rfl)) dL_law__1890 ?_
    refine ug_aload_n 1 dL_law__1891 rfl rfl ?_
    refine ug_iload 5 dL_law__1892 rfl ?_
    refine ug_iconst dL_law__1894 un_iconst_2 ?_
    refine ug_iadd dL_law__1895 ?_
    refine ug_sld (hin 2 (Nat.le_of_ble_eq_true rfl)) dL_law__1896 ?_
    refine ug_callVL [.int r] [.int (ue_sx E (x4 + 1).toNatClampNeg), .int (ue_sx E (x4 + 2).toNatClampNeg)] (c_X8_offer e2) kc_L_225 ro_38 rfl (S := []) rfl rfl (Nat.le_of_ble_eq_true rfl) (Nat.le_of_ble_eq_true rfl) (Nat.le_of_ble_eq_true rfl) ⟨by omega, by omega⟩ dL_law__1897 ?_
    refine ug_istore [(6, .int r), (5, .int 0), (0, .ref (ue_sb E)), (1, .ref (ue_d E 0)), (2, .ref (ue_d E 38)), (3, .ref (ue_d E 63)), (4, .int x4)] dL_law__1900 (Nat.le_of_ble_eq_true rfl) rfl ?_
    refine ug_aload_n 4 dL_law__1902 rfl rfl ?_
    refine ug_callVL [.int (m2 38 0)] [] (c_X8_thrown rfl) kc_L_137 ro_38 rfl (S := []) rfl rfl (Nat.le_of_ble_eq_true rfl) (Nat.le_of_ble_eq_true rfl) (Nat.le_of_ble_eq_true rfl) ⟨by omega, by omega⟩ dL_law__1903 ?_
    refine ug_iload 1 dL_law__1906 rfl ?_
    refine ug_icmp_eq 1913 dL_law__1908 (by decide) (fun _ => ?_) (fun q => absurd e3 q)
    refine ug_iload 1 dL_law__1913 rfl ?_
    refine ug_if_ne 1930 dL_law__1915 (by decide) (fun q => absurd rfl q) (fun _ => ?_)
    refine ug_aload_n 5 dL_law__1918 rfl rfl ?_
    refine ug_iconst dL_law__1919 un_iconst_0 ?_
    refine ug_lald hx dL_law__1920 ?_
    refine ug_iload 0 dL_law__1921 rfl ?_
    refine ug_i2l dL_law__1923 ?_
    refine ug_lcmp dL_law__1924 ?_
    refine ug_if_eq 1930 dL_law__1925 (by decide) (fun _ => ?_) (fun q => absurd (ulaw_cmp e4) q)
    refine ug_goto 2807 dL_law__1930 (by decide) ?_
    refine ug_iinc (v := (x4 + 9)) [(4, .int (x4 + 9)), (6, .int r), (5, .int 0), (0, .ref (ue_sb E)), (1, .ref (ue_d E 0)), (2, .ref (ue_d E 38)), (3, .ref (ue_d E 63))] 6 dL_law__2807 rfl rfl (Nat.le_of_ble_eq_true rfl) rfl ?_
    refine ug_goto 23 dL_law__2810 (by decide) ?_
    refine ug_sub [(0, .ref (ue_sb E)), (1, .ref (ue_d E 0)), (2, .ref (ue_d E 38)), (3, .ref (ue_d E 63)), (4, .int (x4 + 9))] [3, 4, 5, 6, 0] rfl ?_
    exact ih
  · obtain ⟨m9, ih⟩ := ih m2 (ce + 1) (sl + 6) hI (by omega) (by omega)
    refine ⟨m9, ?_⟩
    refine ug_aload_n 1 dL_law__1865 rfl rfl ?_
    refine ug_aload_n 0 dL_law__1866 rfl rfl ?_
    refine ug_iload 4 dL_law__1867 rfl ?_
    refine ug_iconst dL_law__1869 un_iconst_1 ?_
    refine ug_iadd dL_law__1870 ?_
    refine ug_sld (hin 1 (Nat.le_of_ble_eq_true rfl)) dL_law__1871 ?_
    refine ug_aload_n 0 dL_law__1872 rfl rfl ?_
    refine ug_iload 4 dL_law__1873 rfl ?_
    refine ug_iconst dL_law__1875 un_iconst_2 ?_
    refine ug_iadd dL_law__1876 ?_
    refine ug_sld (hin 2 (Nat.le_of_ble_eq_true rfl)) dL_law__1877 ?_
    refine ug_aload_n 3 dL_law__1878 rfl rfl ?_
    refine ug_callW [.ref (ue_d E 0), .int (ue_sx E (x4 + 1).toNatClampNeg), .int (ue_sx E (x4 + 2).toNatClampNeg), .ref (ue_d E 63)] (c_L_offer_n e1) kv_L_223 rfl (S := []) rfl (Nat.le_of_ble_eq_true rfl) (Nat.le_of_ble_eq_true rfl) (Nat.le_of_ble_eq_true rfl) ⟨by omega, by omega⟩ dL_law__1879 ?_
    refine ug_istore [(5, .int 1), (0, .ref (ue_sb E)), (1, .ref (ue_d E 0)), (2, .ref (ue_d E 38)), (3, .ref (ue_d E 63)), (4, .int x4)] dL_law__1882 (Nat.le_of_ble_eq_true rfl) rfl ?_
    refine ug_aload_n 3 dL_law__1884 rfl rfl ?_
    refine ug_aload_n 1 dL_law__1885 rfl rfl ?_
    refine ug_iload 5 dL_law__1886 rfl ?_
    refine ug_iconst dL_law__1888 un_iconst_1 ?_
    refine ug_iadd dL_law__1889 ?_
    refine ug_sld (hin 1 (Nat.le_of_ble_eq_true rfl)) dL_law__1890 ?_
    refine ug_aload_n 1 dL_law__1891 rfl rfl ?_
    refine ug_iload 5 dL_law__1892 rfl ?_
    refine ug_iconst dL_law__1894 un_iconst_2 ?_
    refine ug_iadd dL_law__1895 ?_
    refine ug_sld (hin 2 (Nat.le_of_ble_eq_true rfl)) dL_law__1896 ?_
    refine ug_callVL [.int b] [.int (ue_sx E (x4 + 1).toNatClampNeg), .int (ue_sx E (x4 + 2).toNatClampNeg)] (c_X8_offer e2) kc_L_225 ro_38 rfl (S := []) rfl rfl (Nat.le_of_ble_eq_true rfl) (Nat.le_of_ble_eq_true rfl) (Nat.le_of_ble_eq_true rfl) ⟨by omega, by omega⟩ dL_law__1897 ?_
    refine ug_istore [(6, .int b), (5, .int 1), (0, .ref (ue_sb E)), (1, .ref (ue_d E 0)), (2, .ref (ue_d E 38)), (3, .ref (ue_d E 63)), (4, .int x4)] dL_law__1900 (Nat.le_of_ble_eq_true rfl) rfl ?_
    refine ug_aload_n 4 dL_law__1902 rfl rfl ?_
    refine ug_callVL [.int (m2 38 0)] [] (c_X8_thrown rfl) kc_L_137 ro_38 rfl (S := []) rfl rfl (Nat.le_of_ble_eq_true rfl) (Nat.le_of_ble_eq_true rfl) (Nat.le_of_ble_eq_true rfl) ⟨by omega, by omega⟩ dL_law__1903 ?_
    refine ug_iload 1 dL_law__1906 rfl ?_
    refine ug_icmp_eq 1913 dL_law__1908 (by decide) (fun _ => ?_) (fun q => absurd e3 q)
    refine ug_iload 1 dL_law__1913 rfl ?_
    refine ug_if_ne 1930 dL_law__1915 (by decide) (fun _ => ?_) (fun q => absurd q (by decide))
    refine ug_goto 2807 dL_law__1930 (by decide) ?_
    refine ug_iinc (v := (x4 + 9)) [(4, .int (x4 + 9)), (6, .int b), (5, .int 1), (0, .ref (ue_sb E)), (1, .ref (ue_d E 0)), (2, .ref (ue_d E 38)), (3, .ref (ue_d E 63))] 6 dL_law__2807 rfl rfl (Nat.le_of_ble_eq_true rfl) rfl ?_
    refine ug_goto 23 dL_law__2810 (by decide) ?_
    refine ug_sub [(0, .ref (ue_sb E)), (1, .ref (ue_d E 0)), (2, .ref (ue_d E 38)), (3, .ref (ue_d E 63)), (4, .int (x4 + 9))] [3, 4, 5, 6, 0] rfl ?_
    exact ih
  · obtain ⟨m9, ih⟩ := ih m2 (ce + 1) (sl + 6) hI (by omega) (by omega)
    refine ⟨m9, ?_⟩
    refine ug_aload_n 1 dL_law__1865 rfl rfl ?_
    refine ug_aload_n 0 dL_law__1866 rfl rfl ?_
    refine ug_iload 4 dL_law__1867 rfl ?_
    refine ug_iconst dL_law__1869 un_iconst_1 ?_
    refine ug_iadd dL_law__1870 ?_
    refine ug_sld (hin 1 (Nat.le_of_ble_eq_true rfl)) dL_law__1871 ?_
    refine ug_aload_n 0 dL_law__1872 rfl rfl ?_
    refine ug_iload 4 dL_law__1873 rfl ?_
    refine ug_iconst dL_law__1875 un_iconst_2 ?_
    refine ug_iadd dL_law__1876 ?_
    refine ug_sld (hin 2 (Nat.le_of_ble_eq_true rfl)) dL_law__1877 ?_
    refine ug_aload_n 3 dL_law__1878 rfl rfl ?_
    refine ug_callW [.ref (ue_d E 0), .int (ue_sx E (x4 + 1).toNatClampNeg), .int (ue_sx E (x4 + 2).toNatClampNeg), .ref (ue_d E 63)] (c_L_offer_i e1) kv_L_223 rfl (S := []) rfl (Nat.le_of_ble_eq_true rfl) (Nat.le_of_ble_eq_true rfl) (Nat.le_of_ble_eq_true rfl) ⟨by omega, by omega⟩ dL_law__1879 ?_
    refine ug_istore [(5, .int 2), (0, .ref (ue_sb E)), (1, .ref (ue_d E 0)), (2, .ref (ue_d E 38)), (3, .ref (ue_d E 63)), (4, .int x4)] dL_law__1882 (Nat.le_of_ble_eq_true rfl) rfl ?_
    refine ug_aload_n 3 dL_law__1884 rfl rfl ?_
    refine ug_aload_n 1 dL_law__1885 rfl rfl ?_
    refine ug_iload 5 dL_law__1886 rfl ?_
    refine ug_iconst dL_law__1888 un_iconst_1 ?_
    refine ug_iadd dL_law__1889 ?_
    refine ug_sld (hin 1 (Nat.le_of_ble_eq_true rfl)) dL_law__1890 ?_
    refine ug_aload_n 1 dL_law__1891 rfl rfl ?_
    refine ug_iload 5 dL_law__1892 rfl ?_
    refine ug_iconst dL_law__1894 un_iconst_2 ?_
    refine ug_iadd dL_law__1895 ?_
    refine ug_sld (hin 2 (Nat.le_of_ble_eq_true rfl)) dL_law__1896 ?_
    refine ug_callVL [.int b] [.int (ue_sx E (x4 + 1).toNatClampNeg), .int (ue_sx E (x4 + 2).toNatClampNeg)] (c_X8_offer e2) kc_L_225 ro_38 rfl (S := []) rfl rfl (Nat.le_of_ble_eq_true rfl) (Nat.le_of_ble_eq_true rfl) (Nat.le_of_ble_eq_true rfl) ⟨by omega, by omega⟩ dL_law__1897 ?_
    refine ug_istore [(6, .int b), (5, .int 2), (0, .ref (ue_sb E)), (1, .ref (ue_d E 0)), (2, .ref (ue_d E 38)), (3, .ref (ue_d E 63)), (4, .int x4)] dL_law__1900 (Nat.le_of_ble_eq_true rfl) rfl ?_
    refine ug_aload_n 4 dL_law__1902 rfl rfl ?_
    refine ug_callVL [.int (m2 38 0)] [] (c_X8_thrown rfl) kc_L_137 ro_38 rfl (S := []) rfl rfl (Nat.le_of_ble_eq_true rfl) (Nat.le_of_ble_eq_true rfl) (Nat.le_of_ble_eq_true rfl) ⟨by omega, by omega⟩ dL_law__1903 ?_
    refine ug_iload 1 dL_law__1906 rfl ?_
    refine ug_icmp_eq 1913 dL_law__1908 (by decide) (fun _ => ?_) (fun q => absurd e3 q)
    refine ug_iload 1 dL_law__1913 rfl ?_
    refine ug_if_ne 1930 dL_law__1915 (by decide) (fun _ => ?_) (fun q => absurd q (by decide))
    refine ug_goto 2807 dL_law__1930 (by decide) ?_
    refine ug_iinc (v := (x4 + 9)) [(4, .int (x4 + 9)), (6, .int b), (5, .int 2), (0, .ref (ue_sb E)), (1, .ref (ue_d E 0)), (2, .ref (ue_d E 38)), (3, .ref (ue_d E 63))] 6 dL_law__2807 rfl rfl (Nat.le_of_ble_eq_true rfl) rfl ?_
    refine ug_goto 23 dL_law__2810 (by decide) ?_
    refine ug_sub [(0, .ref (ue_sb E)), (1, .ref (ue_d E 0)), (2, .ref (ue_d E 38)), (3, .ref (ue_d E 63)), (4, .int (x4 + 9))] [3, 4, 5, 6, 0] rfl ?_
    exact ih
set_option maxRecDepth 20000 in
theorem law_lost {l : Launch} {E : Ue} (hx : ue_x E = [.inr (3, 1)]) {I : Um → Prop} (h : uop_lost I) {mc ms ce sl n : Nat} {x4 : Int32} (hin : ∀ q, q ≤ 8 → vp_in (x4 + nI q) (ue_sn E)) (ih : ∀ (m2 : Um) (ce sl : Nat), I m2 → ce + n ≤ mc → sl + 6 * n ≤ ms → ∃ m9, ug l E 2048 mc ms cL_law_ 8 RL (some .boolean) [] (.inl (some (.int 1), m9)) ce sl 23 [(0, .ref (ue_sb E)), (1, .ref (ue_d E 0)), (2, .ref (ue_d E 38)), (3, .ref (ue_d E 63)), (4, .int (x4 + 9))] [] m2) {mem : Um} (hI : I mem) (hc : ce + (n + 1) ≤ mc) (hs : sl + 6 * (n + 1) ≤ ms) : ∃ m9, ug l E 2048 mc ms cL_law_ 8 RL (some .boolean) [] (.inl (some (.int 1), m9)) ce sl 1933 [(0, .ref (ue_sb E)), (1, .ref (ue_d E 0)), (2, .ref (ue_d E 38)), (3, .ref (ue_d E 63)), (4, .int x4)] [] mem := by
  rcases h mem (ue_sx E (x4 + 1).toNatClampNeg) (ue_sx E (x4 + 2).toNatClampNeg) hI with ⟨m1, r, m2, e1, e2, e3, e4, hI⟩ | ⟨m1, m2, b, e1, e2, e3, hI⟩
  · obtain ⟨m9, ih⟩ := ih m2 (ce + 1) (sl + 6) hI (by omega) (by omega)
    refine ⟨m9, ?_⟩
    refine ug_aload_n 1 dL_law__1933 rfl rfl ?_
    refine ug_aload_n 0 dL_law__1934 rfl rfl ?_
    refine ug_iload 4 dL_law__1935 rfl ?_
    refine ug_iconst dL_law__1937 un_iconst_1 ?_
    refine ug_iadd dL_law__1938 ?_
    refine ug_sld (hin 1 (Nat.le_of_ble_eq_true rfl)) dL_law__1939 ?_
    refine ug_aload_n 0 dL_law__1940 rfl rfl ?_
    refine ug_iload 4 dL_law__1941 rfl ?_
    refine ug_iconst dL_law__1943 un_iconst_2 ?_
    refine ug_iadd dL_law__1944 ?_
    refine ug_sld (hin 2 (Nat.le_of_ble_eq_true rfl)) dL_law__1945 ?_
    refine ug_aload_n 3 dL_law__1946 rfl rfl ?_
    refine ug_callW [.ref (ue_d E 0), .int (ue_sx E (x4 + 1).toNatClampNeg), .int (ue_sx E (x4 + 2).toNatClampNeg), .ref (ue_d E 63)] (c_L_lost_r hx e1) kv_L_226 rfl (S := []) rfl (Nat.le_of_ble_eq_true rfl) (Nat.le_of_ble_eq_true rfl) (Nat.le_of_ble_eq_true rfl) ⟨by omega, by omega⟩ dL_law__1947 ?_
    refine ug_istore [(5, .int 0), (0, .ref (ue_sb E)), (1, .ref (ue_d E 0)), (2, .ref (ue_d E 38)), (3, .ref (ue_d E 63)), (4, .int x4)] dL_law__1950 (Nat.le_of_ble_eq_true rfl) rfl ?_
    refine ug_aload_n 3 dL_law__1952 rfl rfl ?_
    refine ug_aload_n 1 dL_law__1953 rfl rfl ?_
    refine ug_iload 5 dL_law__1954 rfl ?_
    refine ug_iconst dL_law__1956 un_iconst_1 ?_
    refine ug_iadd dL_law__1957 ?_
    refine ug_sld (hin 1 (Nat.le_of_ble_eq_true rfl)) dL_law__1958 ?_
    refine ug_aload_n 1 dL_law__1959 rfl rfl ?_
    refine ug_iload 5 dL_law__1960 rfl ?_
    refine ug_iconst dL_law__1962 un_iconst_2 ?_
    refine ug_iadd dL_law__1963 ?_
    refine ug_sld (hin 2 (Nat.le_of_ble_eq_true rfl)) dL_law__1964 ?_
    refine ug_callVL [.int r] [.int (ue_sx E (x4 + 1).toNatClampNeg), .int (ue_sx E (x4 + 2).toNatClampNeg)] (c_X8_lost e2) kc_L_228 ro_38 rfl (S := []) rfl rfl (Nat.le_of_ble_eq_true rfl) (Nat.le_of_ble_eq_true rfl) (Nat.le_of_ble_eq_true rfl) ⟨by omega, by omega⟩ dL_law__1965 ?_
    refine ug_istore [(6, .int r), (5, .int 0), (0, .ref (ue_sb E)), (1, .ref (ue_d E 0)), (2, .ref (ue_d E 38)), (3, .ref (ue_d E 63)), (4, .int x4)] dL_law__1968 (Nat.le_of_ble_eq_true rfl) rfl ?_
    refine ug_aload_n 4 dL_law__1970 rfl rfl ?_
    refine ug_callVL [.int (m2 38 0)] [] (c_X8_thrown rfl) kc_L_137 ro_38 rfl (S := []) rfl rfl (Nat.le_of_ble_eq_true rfl) (Nat.le_of_ble_eq_true rfl) (Nat.le_of_ble_eq_true rfl) ⟨by omega, by omega⟩ dL_law__1971 ?_
    refine ug_iload 1 dL_law__1974 rfl ?_
    refine ug_icmp_eq 1981 dL_law__1976 (by decide) (fun _ => ?_) (fun q => absurd e3 q)
    refine ug_iload 1 dL_law__1981 rfl ?_
    refine ug_if_ne 1998 dL_law__1983 (by decide) (fun q => absurd rfl q) (fun _ => ?_)
    refine ug_aload_n 5 dL_law__1986 rfl rfl ?_
    refine ug_iconst dL_law__1987 un_iconst_0 ?_
    refine ug_lald hx dL_law__1988 ?_
    refine ug_iload 0 dL_law__1989 rfl ?_
    refine ug_i2l dL_law__1991 ?_
    refine ug_lcmp dL_law__1992 ?_
    refine ug_if_eq 1998 dL_law__1993 (by decide) (fun _ => ?_) (fun q => absurd (ulaw_cmp e4) q)
    refine ug_goto 2807 dL_law__1998 (by decide) ?_
    refine ug_iinc (v := (x4 + 9)) [(4, .int (x4 + 9)), (6, .int r), (5, .int 0), (0, .ref (ue_sb E)), (1, .ref (ue_d E 0)), (2, .ref (ue_d E 38)), (3, .ref (ue_d E 63))] 6 dL_law__2807 rfl rfl (Nat.le_of_ble_eq_true rfl) rfl ?_
    refine ug_goto 23 dL_law__2810 (by decide) ?_
    refine ug_sub [(0, .ref (ue_sb E)), (1, .ref (ue_d E 0)), (2, .ref (ue_d E 38)), (3, .ref (ue_d E 63)), (4, .int (x4 + 9))] [3, 4, 5, 6, 0] rfl ?_
    exact ih
  · obtain ⟨m9, ih⟩ := ih m2 (ce + 1) (sl + 6) hI (by omega) (by omega)
    refine ⟨m9, ?_⟩
    refine ug_aload_n 1 dL_law__1933 rfl rfl ?_
    refine ug_aload_n 0 dL_law__1934 rfl rfl ?_
    refine ug_iload 4 dL_law__1935 rfl ?_
    refine ug_iconst dL_law__1937 un_iconst_1 ?_
    refine ug_iadd dL_law__1938 ?_
    refine ug_sld (hin 1 (Nat.le_of_ble_eq_true rfl)) dL_law__1939 ?_
    refine ug_aload_n 0 dL_law__1940 rfl rfl ?_
    refine ug_iload 4 dL_law__1941 rfl ?_
    refine ug_iconst dL_law__1943 un_iconst_2 ?_
    refine ug_iadd dL_law__1944 ?_
    refine ug_sld (hin 2 (Nat.le_of_ble_eq_true rfl)) dL_law__1945 ?_
    refine ug_aload_n 3 dL_law__1946 rfl rfl ?_
    refine ug_callW [.ref (ue_d E 0), .int (ue_sx E (x4 + 1).toNatClampNeg), .int (ue_sx E (x4 + 2).toNatClampNeg), .ref (ue_d E 63)] (c_L_lost_i e1) kv_L_226 rfl (S := []) rfl (Nat.le_of_ble_eq_true rfl) (Nat.le_of_ble_eq_true rfl) (Nat.le_of_ble_eq_true rfl) ⟨by omega, by omega⟩ dL_law__1947 ?_
    refine ug_istore [(5, .int 1), (0, .ref (ue_sb E)), (1, .ref (ue_d E 0)), (2, .ref (ue_d E 38)), (3, .ref (ue_d E 63)), (4, .int x4)] dL_law__1950 (Nat.le_of_ble_eq_true rfl) rfl ?_
    refine ug_aload_n 3 dL_law__1952 rfl rfl ?_
    refine ug_aload_n 1 dL_law__1953 rfl rfl ?_
    refine ug_iload 5 dL_law__1954 rfl ?_
    refine ug_iconst dL_law__1956 un_iconst_1 ?_
    refine ug_iadd dL_law__1957 ?_
    refine ug_sld (hin 1 (Nat.le_of_ble_eq_true rfl)) dL_law__1958 ?_
    refine ug_aload_n 1 dL_law__1959 rfl rfl ?_
    refine ug_iload 5 dL_law__1960 rfl ?_
    refine ug_iconst dL_law__1962 un_iconst_2 ?_
    refine ug_iadd dL_law__1963 ?_
    refine ug_sld (hin 2 (Nat.le_of_ble_eq_true rfl)) dL_law__1964 ?_
    refine ug_callVL [.int b] [.int (ue_sx E (x4 + 1).toNatClampNeg), .int (ue_sx E (x4 + 2).toNatClampNeg)] (c_X8_lost e2) kc_L_228 ro_38 rfl (S := []) rfl rfl (Nat.le_of_ble_eq_true rfl) (Nat.le_of_ble_eq_true rfl) (Nat.le_of_ble_eq_true rfl) ⟨by omega, by omega⟩ dL_law__1965 ?_
    refine ug_istore [(6, .int b), (5, .int 1), (0, .ref (ue_sb E)), (1, .ref (ue_d E 0)), (2, .ref (ue_d E 38)), (3, .ref (ue_d E 63)), (4, .int x4)] dL_law__1968 (Nat.le_of_ble_eq_true rfl) rfl ?_
    refine ug_aload_n 4 dL_law__1970 rfl rfl ?_
    refine ug_callVL [.int (m2 38 0)] [] (c_X8_thrown rfl) kc_L_137 ro_38 rfl (S := []) rfl rfl (Nat.le_of_ble_eq_true rfl) (Nat.le_of_ble_eq_true rfl) (Nat.le_of_ble_eq_true rfl) ⟨by omega, by omega⟩ dL_law__1971 ?_
    refine ug_iload 1 dL_law__1974 rfl ?_
    refine ug_icmp_eq 1981 dL_law__1976 (by decide) (fun _ => ?_) (fun q => absurd e3 q)
    refine ug_iload 1 dL_law__1981 rfl ?_
    refine ug_if_ne 1998 dL_law__1983 (by decide) (fun _ => ?_) (fun q => absurd q (by decide))
    refine ug_goto 2807 dL_law__1998 (by decide) ?_
    refine ug_iinc (v := (x4 + 9)) [(4, .int (x4 + 9)), (6, .int b), (5, .int 1), (0, .ref (ue_sb E)), (1, .ref (ue_d E 0)), (2, .ref (ue_d E 38)), (3, .ref (ue_d E 63))] 6 dL_law__2807 rfl rfl (Nat.le_of_ble_eq_true rfl) rfl ?_
    refine ug_goto 23 dL_law__2810 (by decide) ?_
    refine ug_sub [(0, .ref (ue_sb E)), (1, .ref (ue_d E 0)), (2, .ref (ue_d E 38)), (3, .ref (ue_d E 63)), (4, .int (x4 + 9))] [3, 4, 5, 6, 0] rfl ?_
    exact ih
set_option maxRecDepth 20000 in
theorem law_terrace {l : Launch} {E : Ue} (hx : ue_x E = [.inr (3, 1)]) {I : Um → Prop} (h : uop_terrace I) {mc ms ce sl n : Nat} {x4 : Int32} (hin : ∀ q, q ≤ 8 → vp_in (x4 + nI q) (ue_sn E)) (ih : ∀ (m2 : Um) (ce sl : Nat), I m2 → ce + n ≤ mc → sl + 6 * n ≤ ms → ∃ m9, ug l E 2048 mc ms cL_law_ 8 RL (some .boolean) [] (.inl (some (.int 1), m9)) ce sl 23 [(0, .ref (ue_sb E)), (1, .ref (ue_d E 0)), (2, .ref (ue_d E 38)), (3, .ref (ue_d E 63)), (4, .int (x4 + 9))] [] m2) {mem : Um} (hI : I mem) (hc : ce + (n + 1) ≤ mc) (hs : sl + 6 * (n + 1) ≤ ms) : ∃ m9, ug l E 2048 mc ms cL_law_ 8 RL (some .boolean) [] (.inl (some (.int 1), m9)) ce sl 2001 [(0, .ref (ue_sb E)), (1, .ref (ue_d E 0)), (2, .ref (ue_d E 38)), (3, .ref (ue_d E 63)), (4, .int x4)] [] mem := by
  rcases h mem (ue_sx E (x4 + 1).toNatClampNeg) hI with ⟨m1, r, m2, e1, e2, e3, e4, hI⟩ | ⟨m1, m2, b, e1, e2, e3, hI⟩
  · obtain ⟨m9, ih⟩ := ih m2 (ce + 1) (sl + 6) hI (by omega) (by omega)
    refine ⟨m9, ?_⟩
    refine ug_aload_n 1 dL_law__2001 rfl rfl ?_
    refine ug_aload_n 0 dL_law__2002 rfl rfl ?_
    refine ug_iload 4 dL_law__2003 rfl ?_
    refine ug_iconst dL_law__2005 un_iconst_1 ?_
    refine ug_iadd dL_law__2006 ?_
    refine ug_sld (hin 1 (Nat.le_of_ble_eq_true rfl)) dL_law__2007 ?_
    refine ug_aload_n 3 dL_law__2008 rfl rfl ?_
    refine ug_callW [.ref (ue_d E 0), .int (ue_sx E (x4 + 1).toNatClampNeg), .ref (ue_d E 63)] (c_L_terrace_r hx e1) kv_L_229 rfl (S := []) rfl (Nat.le_of_ble_eq_true rfl) (Nat.le_of_ble_eq_true rfl) (Nat.le_of_ble_eq_true rfl) ⟨by omega, by omega⟩ dL_law__2009 ?_
    refine ug_istore [(5, .int 0), (0, .ref (ue_sb E)), (1, .ref (ue_d E 0)), (2, .ref (ue_d E 38)), (3, .ref (ue_d E 63)), (4, .int x4)] dL_law__2012 (Nat.le_of_ble_eq_true rfl) rfl ?_
    refine ug_aload_n 3 dL_law__2014 rfl rfl ?_
    refine ug_aload_n 1 dL_law__2015 rfl rfl ?_
    refine ug_iload 5 dL_law__2016 rfl ?_
    refine ug_iconst dL_law__2018 un_iconst_1 ?_
    refine ug_iadd dL_law__2019 ?_
    refine ug_sld (hin 1 (Nat.le_of_ble_eq_true rfl)) dL_law__2020 ?_
    refine ug_callVL [.int r] [.int (ue_sx E (x4 + 1).toNatClampNeg)] (c_X8_terrace e2) kc_L_231 ro_38 rfl (S := []) rfl rfl (Nat.le_of_ble_eq_true rfl) (Nat.le_of_ble_eq_true rfl) (Nat.le_of_ble_eq_true rfl) ⟨by omega, by omega⟩ dL_law__2021 ?_
    refine ug_istore [(6, .int r), (5, .int 0), (0, .ref (ue_sb E)), (1, .ref (ue_d E 0)), (2, .ref (ue_d E 38)), (3, .ref (ue_d E 63)), (4, .int x4)] dL_law__2024 (Nat.le_of_ble_eq_true rfl) rfl ?_
    refine ug_aload_n 4 dL_law__2026 rfl rfl ?_
    refine ug_callVL [.int (m2 38 0)] [] (c_X8_thrown rfl) kc_L_137 ro_38 rfl (S := []) rfl rfl (Nat.le_of_ble_eq_true rfl) (Nat.le_of_ble_eq_true rfl) (Nat.le_of_ble_eq_true rfl) ⟨by omega, by omega⟩ dL_law__2027 ?_
    refine ug_iload 1 dL_law__2030 rfl ?_
    refine ug_icmp_eq 2037 dL_law__2032 (by decide) (fun _ => ?_) (fun q => absurd e3 q)
    refine ug_iload 1 dL_law__2037 rfl ?_
    refine ug_if_ne 2054 dL_law__2039 (by decide) (fun q => absurd rfl q) (fun _ => ?_)
    refine ug_aload_n 5 dL_law__2042 rfl rfl ?_
    refine ug_iconst dL_law__2043 un_iconst_0 ?_
    refine ug_lald hx dL_law__2044 ?_
    refine ug_iload 0 dL_law__2045 rfl ?_
    refine ug_i2l dL_law__2047 ?_
    refine ug_lcmp dL_law__2048 ?_
    refine ug_if_eq 2054 dL_law__2049 (by decide) (fun _ => ?_) (fun q => absurd (ulaw_cmp e4) q)
    refine ug_goto 2807 dL_law__2054 (by decide) ?_
    refine ug_iinc (v := (x4 + 9)) [(4, .int (x4 + 9)), (6, .int r), (5, .int 0), (0, .ref (ue_sb E)), (1, .ref (ue_d E 0)), (2, .ref (ue_d E 38)), (3, .ref (ue_d E 63))] 6 dL_law__2807 rfl rfl (Nat.le_of_ble_eq_true rfl) rfl ?_
    refine ug_goto 23 dL_law__2810 (by decide) ?_
    refine ug_sub [(0, .ref (ue_sb E)), (1, .ref (ue_d E 0)), (2, .ref (ue_d E 38)), (3, .ref (ue_d E 63)), (4, .int (x4 + 9))] [3, 4, 5, 6, 0] rfl ?_
    exact ih
  · obtain ⟨m9, ih⟩ := ih m2 (ce + 1) (sl + 6) hI (by omega) (by omega)
    refine ⟨m9, ?_⟩
    refine ug_aload_n 1 dL_law__2001 rfl rfl ?_
    refine ug_aload_n 0 dL_law__2002 rfl rfl ?_
    refine ug_iload 4 dL_law__2003 rfl ?_
    refine ug_iconst dL_law__2005 un_iconst_1 ?_
    refine ug_iadd dL_law__2006 ?_
    refine ug_sld (hin 1 (Nat.le_of_ble_eq_true rfl)) dL_law__2007 ?_
    refine ug_aload_n 3 dL_law__2008 rfl rfl ?_
    refine ug_callW [.ref (ue_d E 0), .int (ue_sx E (x4 + 1).toNatClampNeg), .ref (ue_d E 63)] (c_L_terrace_n e1) kv_L_229 rfl (S := []) rfl (Nat.le_of_ble_eq_true rfl) (Nat.le_of_ble_eq_true rfl) (Nat.le_of_ble_eq_true rfl) ⟨by omega, by omega⟩ dL_law__2009 ?_
    refine ug_istore [(5, .int 1), (0, .ref (ue_sb E)), (1, .ref (ue_d E 0)), (2, .ref (ue_d E 38)), (3, .ref (ue_d E 63)), (4, .int x4)] dL_law__2012 (Nat.le_of_ble_eq_true rfl) rfl ?_
    refine ug_aload_n 3 dL_law__2014 rfl rfl ?_
    refine ug_aload_n 1 dL_law__2015 rfl rfl ?_
    refine ug_iload 5 dL_law__2016 rfl ?_
    refine ug_iconst dL_law__2018 un_iconst_1 ?_
    refine ug_iadd dL_law__2019 ?_
    refine ug_sld (hin 1 (Nat.le_of_ble_eq_true rfl)) dL_law__2020 ?_
    refine ug_callVL [.int b] [.int (ue_sx E (x4 + 1).toNatClampNeg)] (c_X8_terrace e2) kc_L_231 ro_38 rfl (S := []) rfl rfl (Nat.le_of_ble_eq_true rfl) (Nat.le_of_ble_eq_true rfl) (Nat.le_of_ble_eq_true rfl) ⟨by omega, by omega⟩ dL_law__2021 ?_
    refine ug_istore [(6, .int b), (5, .int 1), (0, .ref (ue_sb E)), (1, .ref (ue_d E 0)), (2, .ref (ue_d E 38)), (3, .ref (ue_d E 63)), (4, .int x4)] dL_law__2024 (Nat.le_of_ble_eq_true rfl) rfl ?_
    refine ug_aload_n 4 dL_law__2026 rfl rfl ?_
    refine ug_callVL [.int (m2 38 0)] [] (c_X8_thrown rfl) kc_L_137 ro_38 rfl (S := []) rfl rfl (Nat.le_of_ble_eq_true rfl) (Nat.le_of_ble_eq_true rfl) (Nat.le_of_ble_eq_true rfl) ⟨by omega, by omega⟩ dL_law__2027 ?_
    refine ug_iload 1 dL_law__2030 rfl ?_
    refine ug_icmp_eq 2037 dL_law__2032 (by decide) (fun _ => ?_) (fun q => absurd e3 q)
    refine ug_iload 1 dL_law__2037 rfl ?_
    refine ug_if_ne 2054 dL_law__2039 (by decide) (fun _ => ?_) (fun q => absurd q (by decide))
    refine ug_goto 2807 dL_law__2054 (by decide) ?_
    refine ug_iinc (v := (x4 + 9)) [(4, .int (x4 + 9)), (6, .int b), (5, .int 1), (0, .ref (ue_sb E)), (1, .ref (ue_d E 0)), (2, .ref (ue_d E 38)), (3, .ref (ue_d E 63))] 6 dL_law__2807 rfl rfl (Nat.le_of_ble_eq_true rfl) rfl ?_
    refine ug_goto 23 dL_law__2810 (by decide) ?_
    refine ug_sub [(0, .ref (ue_sb E)), (1, .ref (ue_d E 0)), (2, .ref (ue_d E 38)), (3, .ref (ue_d E 63)), (4, .int (x4 + 9))] [3, 4, 5, 6, 0] rfl ?_
    exact ih
set_option maxRecDepth 20000 in
theorem law_overlap {l : Launch} {E : Ue} (hx : ue_x E = [.inr (3, 1)]) {I : Um → Prop} (h : uop_overlap I) {mc ms ce sl n : Nat} {x4 : Int32} (hin : ∀ q, q ≤ 8 → vp_in (x4 + nI q) (ue_sn E)) (ih : ∀ (m2 : Um) (ce sl : Nat), I m2 → ce + n ≤ mc → sl + 6 * n ≤ ms → ∃ m9, ug l E 2048 mc ms cL_law_ 8 RL (some .boolean) [] (.inl (some (.int 1), m9)) ce sl 23 [(0, .ref (ue_sb E)), (1, .ref (ue_d E 0)), (2, .ref (ue_d E 38)), (3, .ref (ue_d E 63)), (4, .int (x4 + 9))] [] m2) {mem : Um} (hI : I mem) (hc : ce + (n + 1) ≤ mc) (hs : sl + 6 * (n + 1) ≤ ms) : ∃ m9, ug l E 2048 mc ms cL_law_ 8 RL (some .boolean) [] (.inl (some (.int 1), m9)) ce sl 2057 [(0, .ref (ue_sb E)), (1, .ref (ue_d E 0)), (2, .ref (ue_d E 38)), (3, .ref (ue_d E 63)), (4, .int x4)] [] mem := by
  rcases h mem (ue_sx E (x4 + 1).toNatClampNeg) (ue_sx E (x4 + 2).toNatClampNeg) hI with ⟨m1, r, m2, e1, e2, e3, e4, hI⟩ | ⟨m1, m2, b, e1, e2, e3, hI⟩
  · obtain ⟨m9, ih⟩ := ih m2 (ce + 1) (sl + 6) hI (by omega) (by omega)
    refine ⟨m9, ?_⟩
    refine ug_aload_n 1 dL_law__2057 rfl rfl ?_
    refine ug_aload_n 0 dL_law__2058 rfl rfl ?_
    refine ug_iload 4 dL_law__2059 rfl ?_
    refine ug_iconst dL_law__2061 un_iconst_1 ?_
    refine ug_iadd dL_law__2062 ?_
    refine ug_sld (hin 1 (Nat.le_of_ble_eq_true rfl)) dL_law__2063 ?_
    refine ug_aload_n 0 dL_law__2064 rfl rfl ?_
    refine ug_iload 4 dL_law__2065 rfl ?_
    refine ug_iconst dL_law__2067 un_iconst_2 ?_
    refine ug_iadd dL_law__2068 ?_
    refine ug_sld (hin 2 (Nat.le_of_ble_eq_true rfl)) dL_law__2069 ?_
    refine ug_aload_n 3 dL_law__2070 rfl rfl ?_
    refine ug_callW [.ref (ue_d E 0), .int (ue_sx E (x4 + 1).toNatClampNeg), .int (ue_sx E (x4 + 2).toNatClampNeg), .ref (ue_d E 63)] (c_L_overlap_r hx e1) kv_L_232 rfl (S := []) rfl (Nat.le_of_ble_eq_true rfl) (Nat.le_of_ble_eq_true rfl) (Nat.le_of_ble_eq_true rfl) ⟨by omega, by omega⟩ dL_law__2071 ?_
    refine ug_istore [(5, .int 0), (0, .ref (ue_sb E)), (1, .ref (ue_d E 0)), (2, .ref (ue_d E 38)), (3, .ref (ue_d E 63)), (4, .int x4)] dL_law__2074 (Nat.le_of_ble_eq_true rfl) rfl ?_
    refine ug_aload_n 3 dL_law__2076 rfl rfl ?_
    refine ug_aload_n 1 dL_law__2077 rfl rfl ?_
    refine ug_iload 5 dL_law__2078 rfl ?_
    refine ug_iconst dL_law__2080 un_iconst_1 ?_
    refine ug_iadd dL_law__2081 ?_
    refine ug_sld (hin 1 (Nat.le_of_ble_eq_true rfl)) dL_law__2082 ?_
    refine ug_aload_n 1 dL_law__2083 rfl rfl ?_
    refine ug_iload 5 dL_law__2084 rfl ?_
    refine ug_iconst dL_law__2086 un_iconst_2 ?_
    refine ug_iadd dL_law__2087 ?_
    refine ug_sld (hin 2 (Nat.le_of_ble_eq_true rfl)) dL_law__2088 ?_
    refine ug_callVL [.int r] [.int (ue_sx E (x4 + 1).toNatClampNeg), .int (ue_sx E (x4 + 2).toNatClampNeg)] (c_X8_overlap e2) kc_L_234 ro_38 rfl (S := []) rfl rfl (Nat.le_of_ble_eq_true rfl) (Nat.le_of_ble_eq_true rfl) (Nat.le_of_ble_eq_true rfl) ⟨by omega, by omega⟩ dL_law__2089 ?_
    refine ug_istore [(6, .int r), (5, .int 0), (0, .ref (ue_sb E)), (1, .ref (ue_d E 0)), (2, .ref (ue_d E 38)), (3, .ref (ue_d E 63)), (4, .int x4)] dL_law__2092 (Nat.le_of_ble_eq_true rfl) rfl ?_
    refine ug_aload_n 4 dL_law__2094 rfl rfl ?_
    refine ug_callVL [.int (m2 38 0)] [] (c_X8_thrown rfl) kc_L_137 ro_38 rfl (S := []) rfl rfl (Nat.le_of_ble_eq_true rfl) (Nat.le_of_ble_eq_true rfl) (Nat.le_of_ble_eq_true rfl) ⟨by omega, by omega⟩ dL_law__2095 ?_
    refine ug_iload 1 dL_law__2098 rfl ?_
    refine ug_icmp_eq 2105 dL_law__2100 (by decide) (fun _ => ?_) (fun q => absurd e3 q)
    refine ug_iload 1 dL_law__2105 rfl ?_
    refine ug_if_ne 2122 dL_law__2107 (by decide) (fun q => absurd rfl q) (fun _ => ?_)
    refine ug_aload_n 5 dL_law__2110 rfl rfl ?_
    refine ug_iconst dL_law__2111 un_iconst_0 ?_
    refine ug_lald hx dL_law__2112 ?_
    refine ug_iload 0 dL_law__2113 rfl ?_
    refine ug_i2l dL_law__2115 ?_
    refine ug_lcmp dL_law__2116 ?_
    refine ug_if_eq 2122 dL_law__2117 (by decide) (fun _ => ?_) (fun q => absurd (ulaw_cmp e4) q)
    refine ug_goto 2807 dL_law__2122 (by decide) ?_
    refine ug_iinc (v := (x4 + 9)) [(4, .int (x4 + 9)), (6, .int r), (5, .int 0), (0, .ref (ue_sb E)), (1, .ref (ue_d E 0)), (2, .ref (ue_d E 38)), (3, .ref (ue_d E 63))] 6 dL_law__2807 rfl rfl (Nat.le_of_ble_eq_true rfl) rfl ?_
    refine ug_goto 23 dL_law__2810 (by decide) ?_
    refine ug_sub [(0, .ref (ue_sb E)), (1, .ref (ue_d E 0)), (2, .ref (ue_d E 38)), (3, .ref (ue_d E 63)), (4, .int (x4 + 9))] [3, 4, 5, 6, 0] rfl ?_
    exact ih
  · obtain ⟨m9, ih⟩ := ih m2 (ce + 1) (sl + 6) hI (by omega) (by omega)
    refine ⟨m9, ?_⟩
    refine ug_aload_n 1 dL_law__2057 rfl rfl ?_
    refine ug_aload_n 0 dL_law__2058 rfl rfl ?_
    refine ug_iload 4 dL_law__2059 rfl ?_
    refine ug_iconst dL_law__2061 un_iconst_1 ?_
    refine ug_iadd dL_law__2062 ?_
    refine ug_sld (hin 1 (Nat.le_of_ble_eq_true rfl)) dL_law__2063 ?_
    refine ug_aload_n 0 dL_law__2064 rfl rfl ?_
    refine ug_iload 4 dL_law__2065 rfl ?_
    refine ug_iconst dL_law__2067 un_iconst_2 ?_
    refine ug_iadd dL_law__2068 ?_
    refine ug_sld (hin 2 (Nat.le_of_ble_eq_true rfl)) dL_law__2069 ?_
    refine ug_aload_n 3 dL_law__2070 rfl rfl ?_
    refine ug_callW [.ref (ue_d E 0), .int (ue_sx E (x4 + 1).toNatClampNeg), .int (ue_sx E (x4 + 2).toNatClampNeg), .ref (ue_d E 63)] (c_L_overlap_n e1) kv_L_232 rfl (S := []) rfl (Nat.le_of_ble_eq_true rfl) (Nat.le_of_ble_eq_true rfl) (Nat.le_of_ble_eq_true rfl) ⟨by omega, by omega⟩ dL_law__2071 ?_
    refine ug_istore [(5, .int 1), (0, .ref (ue_sb E)), (1, .ref (ue_d E 0)), (2, .ref (ue_d E 38)), (3, .ref (ue_d E 63)), (4, .int x4)] dL_law__2074 (Nat.le_of_ble_eq_true rfl) rfl ?_
    refine ug_aload_n 3 dL_law__2076 rfl rfl ?_
    refine ug_aload_n 1 dL_law__2077 rfl rfl ?_
    refine ug_iload 5 dL_law__2078 rfl ?_
    refine ug_iconst dL_law__2080 un_iconst_1 ?_
    refine ug_iadd dL_law__2081 ?_
    refine ug_sld (hin 1 (Nat.le_of_ble_eq_true rfl)) dL_law__2082 ?_
    refine ug_aload_n 1 dL_law__2083 rfl rfl ?_
    refine ug_iload 5 dL_law__2084 rfl ?_
    refine ug_iconst dL_law__2086 un_iconst_2 ?_
    refine ug_iadd dL_law__2087 ?_
    refine ug_sld (hin 2 (Nat.le_of_ble_eq_true rfl)) dL_law__2088 ?_
    refine ug_callVL [.int b] [.int (ue_sx E (x4 + 1).toNatClampNeg), .int (ue_sx E (x4 + 2).toNatClampNeg)] (c_X8_overlap e2) kc_L_234 ro_38 rfl (S := []) rfl rfl (Nat.le_of_ble_eq_true rfl) (Nat.le_of_ble_eq_true rfl) (Nat.le_of_ble_eq_true rfl) ⟨by omega, by omega⟩ dL_law__2089 ?_
    refine ug_istore [(6, .int b), (5, .int 1), (0, .ref (ue_sb E)), (1, .ref (ue_d E 0)), (2, .ref (ue_d E 38)), (3, .ref (ue_d E 63)), (4, .int x4)] dL_law__2092 (Nat.le_of_ble_eq_true rfl) rfl ?_
    refine ug_aload_n 4 dL_law__2094 rfl rfl ?_
    refine ug_callVL [.int (m2 38 0)] [] (c_X8_thrown rfl) kc_L_137 ro_38 rfl (S := []) rfl rfl (Nat.le_of_ble_eq_true rfl) (Nat.le_of_ble_eq_true rfl) (Nat.le_of_ble_eq_true rfl) ⟨by omega, by omega⟩ dL_law__2095 ?_
    refine ug_iload 1 dL_law__2098 rfl ?_
    refine ug_icmp_eq 2105 dL_law__2100 (by decide) (fun _ => ?_) (fun q => absurd e3 q)
    refine ug_iload 1 dL_law__2105 rfl ?_
    refine ug_if_ne 2122 dL_law__2107 (by decide) (fun _ => ?_) (fun q => absurd q (by decide))
    refine ug_goto 2807 dL_law__2122 (by decide) ?_
    refine ug_iinc (v := (x4 + 9)) [(4, .int (x4 + 9)), (6, .int b), (5, .int 1), (0, .ref (ue_sb E)), (1, .ref (ue_d E 0)), (2, .ref (ue_d E 38)), (3, .ref (ue_d E 63))] 6 dL_law__2807 rfl rfl (Nat.le_of_ble_eq_true rfl) rfl ?_
    refine ug_goto 23 dL_law__2810 (by decide) ?_
    refine ug_sub [(0, .ref (ue_sb E)), (1, .ref (ue_d E 0)), (2, .ref (ue_d E 38)), (3, .ref (ue_d E 63)), (4, .int (x4 + 9))] [3, 4, 5, 6, 0] rfl ?_
    exact ih
set_option maxRecDepth 20000 in
theorem law_vacant {l : Launch} {E : Ue} (hx : ue_x E = [.inr (3, 1)]) {I : Um → Prop} (h : uop_vacant I) {mc ms ce sl n : Nat} {x4 : Int32} (hin : ∀ q, q ≤ 8 → vp_in (x4 + nI q) (ue_sn E)) (ih : ∀ (m2 : Um) (ce sl : Nat), I m2 → ce + n ≤ mc → sl + 6 * n ≤ ms → ∃ m9, ug l E 2048 mc ms cL_law_ 8 RL (some .boolean) [] (.inl (some (.int 1), m9)) ce sl 23 [(0, .ref (ue_sb E)), (1, .ref (ue_d E 0)), (2, .ref (ue_d E 38)), (3, .ref (ue_d E 63)), (4, .int (x4 + 9))] [] m2) {mem : Um} (hI : I mem) (hc : ce + (n + 1) ≤ mc) (hs : sl + 6 * (n + 1) ≤ ms) : ∃ m9, ug l E 2048 mc ms cL_law_ 8 RL (some .boolean) [] (.inl (some (.int 1), m9)) ce sl 2125 [(0, .ref (ue_sb E)), (1, .ref (ue_d E 0)), (2, .ref (ue_d E 38)), (3, .ref (ue_d E 63)), (4, .int x4)] [] mem := by
  rcases h mem (ue_sx E (x4 + 1).toNatClampNeg) hI with ⟨m1, r, m2, e1, e2, e3, e4, hI⟩ | ⟨m1, m2, b, e1, e2, e3, hI⟩
  · obtain ⟨m9, ih⟩ := ih m2 (ce + 1) (sl + 6) hI (by omega) (by omega)
    refine ⟨m9, ?_⟩
    refine ug_aload_n 1 dL_law__2125 rfl rfl ?_
    refine ug_aload_n 0 dL_law__2126 rfl rfl ?_
    refine ug_iload 4 dL_law__2127 rfl ?_
    refine ug_iconst dL_law__2129 un_iconst_1 ?_
    refine ug_iadd dL_law__2130 ?_
    refine ug_sld (hin 1 (Nat.le_of_ble_eq_true rfl)) dL_law__2131 ?_
    refine ug_aload_n 3 dL_law__2132 rfl rfl ?_
    refine ug_callW [.ref (ue_d E 0), .int (ue_sx E (x4 + 1).toNatClampNeg), .ref (ue_d E 63)] (c_L_vacant_r hx e1) kv_L_235 rfl (S := []) rfl (Nat.le_of_ble_eq_true rfl) (Nat.le_of_ble_eq_true rfl) (Nat.le_of_ble_eq_true rfl) ⟨by omega, by omega⟩ dL_law__2133 ?_
    refine ug_istore [(5, .int 0), (0, .ref (ue_sb E)), (1, .ref (ue_d E 0)), (2, .ref (ue_d E 38)), (3, .ref (ue_d E 63)), (4, .int x4)] dL_law__2136 (Nat.le_of_ble_eq_true rfl) rfl ?_
    refine ug_aload_n 3 dL_law__2138 rfl rfl ?_
    refine ug_aload_n 1 dL_law__2139 rfl rfl ?_
    refine ug_iload 5 dL_law__2140 rfl ?_
    refine ug_iconst dL_law__2142 un_iconst_1 ?_
    refine ug_iadd dL_law__2143 ?_
    refine ug_sld (hin 1 (Nat.le_of_ble_eq_true rfl)) dL_law__2144 ?_
    refine ug_callVL [.int r] [.int (ue_sx E (x4 + 1).toNatClampNeg)] (c_X8_vacant e2) kc_L_237 ro_38 rfl (S := []) rfl rfl (Nat.le_of_ble_eq_true rfl) (Nat.le_of_ble_eq_true rfl) (Nat.le_of_ble_eq_true rfl) ⟨by omega, by omega⟩ dL_law__2145 ?_
    refine ug_istore [(6, .int r), (5, .int 0), (0, .ref (ue_sb E)), (1, .ref (ue_d E 0)), (2, .ref (ue_d E 38)), (3, .ref (ue_d E 63)), (4, .int x4)] dL_law__2148 (Nat.le_of_ble_eq_true rfl) rfl ?_
    refine ug_aload_n 4 dL_law__2150 rfl rfl ?_
    refine ug_callVL [.int (m2 38 0)] [] (c_X8_thrown rfl) kc_L_137 ro_38 rfl (S := []) rfl rfl (Nat.le_of_ble_eq_true rfl) (Nat.le_of_ble_eq_true rfl) (Nat.le_of_ble_eq_true rfl) ⟨by omega, by omega⟩ dL_law__2151 ?_
    refine ug_iload 1 dL_law__2154 rfl ?_
    refine ug_icmp_eq 2161 dL_law__2156 (by decide) (fun _ => ?_) (fun q => absurd e3 q)
    refine ug_iload 1 dL_law__2161 rfl ?_
    refine ug_if_ne 2178 dL_law__2163 (by decide) (fun q => absurd rfl q) (fun _ => ?_)
    refine ug_aload_n 5 dL_law__2166 rfl rfl ?_
    refine ug_iconst dL_law__2167 un_iconst_0 ?_
    refine ug_lald hx dL_law__2168 ?_
    refine ug_iload 0 dL_law__2169 rfl ?_
    refine ug_i2l dL_law__2171 ?_
    refine ug_lcmp dL_law__2172 ?_
    refine ug_if_eq 2178 dL_law__2173 (by decide) (fun _ => ?_) (fun q => absurd (ulaw_cmp e4) q)
    refine ug_goto 2807 dL_law__2178 (by decide) ?_
    refine ug_iinc (v := (x4 + 9)) [(4, .int (x4 + 9)), (6, .int r), (5, .int 0), (0, .ref (ue_sb E)), (1, .ref (ue_d E 0)), (2, .ref (ue_d E 38)), (3, .ref (ue_d E 63))] 6 dL_law__2807 rfl rfl (Nat.le_of_ble_eq_true rfl) rfl ?_
    refine ug_goto 23 dL_law__2810 (by decide) ?_
    refine ug_sub [(0, .ref (ue_sb E)), (1, .ref (ue_d E 0)), (2, .ref (ue_d E 38)), (3, .ref (ue_d E 63)), (4, .int (x4 + 9))] [3, 4, 5, 6, 0] rfl ?_
    exact ih
  · obtain ⟨m9, ih⟩ := ih m2 (ce + 1) (sl + 6) hI (by omega) (by omega)
    refine ⟨m9, ?_⟩
    refine ug_aload_n 1 dL_law__2125 rfl rfl ?_
    refine ug_aload_n 0 dL_law__2126 rfl rfl ?_
    refine ug_iload 4 dL_law__2127 rfl ?_
    refine ug_iconst dL_law__2129 un_iconst_1 ?_
    refine ug_iadd dL_law__2130 ?_
    refine ug_sld (hin 1 (Nat.le_of_ble_eq_true rfl)) dL_law__2131 ?_
    refine ug_aload_n 3 dL_law__2132 rfl rfl ?_
    refine ug_callW [.ref (ue_d E 0), .int (ue_sx E (x4 + 1).toNatClampNeg), .ref (ue_d E 63)] (c_L_vacant_i e1) kv_L_235 rfl (S := []) rfl (Nat.le_of_ble_eq_true rfl) (Nat.le_of_ble_eq_true rfl) (Nat.le_of_ble_eq_true rfl) ⟨by omega, by omega⟩ dL_law__2133 ?_
    refine ug_istore [(5, .int 1), (0, .ref (ue_sb E)), (1, .ref (ue_d E 0)), (2, .ref (ue_d E 38)), (3, .ref (ue_d E 63)), (4, .int x4)] dL_law__2136 (Nat.le_of_ble_eq_true rfl) rfl ?_
    refine ug_aload_n 3 dL_law__2138 rfl rfl ?_
    refine ug_aload_n 1 dL_law__2139 rfl rfl ?_
    refine ug_iload 5 dL_law__2140 rfl ?_
    refine ug_iconst dL_law__2142 un_iconst_1 ?_
    refine ug_iadd dL_law__2143 ?_
    refine ug_sld (hin 1 (Nat.le_of_ble_eq_true rfl)) dL_law__2144 ?_
    refine ug_callVL [.int b] [.int (ue_sx E (x4 + 1).toNatClampNeg)] (c_X8_vacant e2) kc_L_237 ro_38 rfl (S := []) rfl rfl (Nat.le_of_ble_eq_true rfl) (Nat.le_of_ble_eq_true rfl) (Nat.le_of_ble_eq_true rfl) ⟨by omega, by omega⟩ dL_law__2145 ?_
    refine ug_istore [(6, .int b), (5, .int 1), (0, .ref (ue_sb E)), (1, .ref (ue_d E 0)), (2, .ref (ue_d E 38)), (3, .ref (ue_d E 63)), (4, .int x4)] dL_law__2148 (Nat.le_of_ble_eq_true rfl) rfl ?_
    refine ug_aload_n 4 dL_law__2150 rfl rfl ?_
    refine ug_callVL [.int (m2 38 0)] [] (c_X8_thrown rfl) kc_L_137 ro_38 rfl (S := []) rfl rfl (Nat.le_of_ble_eq_true rfl) (Nat.le_of_ble_eq_true rfl) (Nat.le_of_ble_eq_true rfl) ⟨by omega, by omega⟩ dL_law__2151 ?_
    refine ug_iload 1 dL_law__2154 rfl ?_
    refine ug_icmp_eq 2161 dL_law__2156 (by decide) (fun _ => ?_) (fun q => absurd e3 q)
    refine ug_iload 1 dL_law__2161 rfl ?_
    refine ug_if_ne 2178 dL_law__2163 (by decide) (fun _ => ?_) (fun q => absurd q (by decide))
    refine ug_goto 2807 dL_law__2178 (by decide) ?_
    refine ug_iinc (v := (x4 + 9)) [(4, .int (x4 + 9)), (6, .int b), (5, .int 1), (0, .ref (ue_sb E)), (1, .ref (ue_d E 0)), (2, .ref (ue_d E 38)), (3, .ref (ue_d E 63))] 6 dL_law__2807 rfl rfl (Nat.le_of_ble_eq_true rfl) rfl ?_
    refine ug_goto 23 dL_law__2810 (by decide) ?_
    refine ug_sub [(0, .ref (ue_sb E)), (1, .ref (ue_d E 0)), (2, .ref (ue_d E 38)), (3, .ref (ue_d E 63)), (4, .int (x4 + 9))] [3, 4, 5, 6, 0] rfl ?_
    exact ih
set_option maxRecDepth 20000 in
theorem law_needs {l : Launch} {E : Ue} (hx : ue_x E = [.inr (3, 1)]) {I : Um → Prop} (h : uop_needs I) {mc ms ce sl n : Nat} {x4 : Int32} (hin : ∀ q, q ≤ 8 → vp_in (x4 + nI q) (ue_sn E)) (ih : ∀ (m2 : Um) (ce sl : Nat), I m2 → ce + n ≤ mc → sl + 6 * n ≤ ms → ∃ m9, ug l E 2048 mc ms cL_law_ 8 RL (some .boolean) [] (.inl (some (.int 1), m9)) ce sl 23 [(0, .ref (ue_sb E)), (1, .ref (ue_d E 0)), (2, .ref (ue_d E 38)), (3, .ref (ue_d E 63)), (4, .int (x4 + 9))] [] m2) {mem : Um} (hI : I mem) (hc : ce + (n + 1) ≤ mc) (hs : sl + 6 * (n + 1) ≤ ms) : ∃ m9, ug l E 2048 mc ms cL_law_ 8 RL (some .boolean) [] (.inl (some (.int 1), m9)) ce sl 2181 [(0, .ref (ue_sb E)), (1, .ref (ue_d E 0)), (2, .ref (ue_d E 38)), (3, .ref (ue_d E 63)), (4, .int x4)] [] mem := by
  rcases h mem (ue_sx E (x4 + 1).toNatClampNeg) (ue_sx E (x4 + 2).toNatClampNeg) hI with ⟨m1, r, m2, e1, e2, e3, e4, hI⟩ | ⟨m1, m2, b, e1, e2, e3, hI⟩
  · obtain ⟨m9, ih⟩ := ih m2 (ce + 1) (sl + 6) hI (by omega) (by omega)
    refine ⟨m9, ?_⟩
    refine ug_aload_n 1 dL_law__2181 rfl rfl ?_
    refine ug_aload_n 0 dL_law__2182 rfl rfl ?_
    refine ug_iload 4 dL_law__2183 rfl ?_
    refine ug_iconst dL_law__2185 un_iconst_1 ?_
    refine ug_iadd dL_law__2186 ?_
    refine ug_sld (hin 1 (Nat.le_of_ble_eq_true rfl)) dL_law__2187 ?_
    refine ug_aload_n 0 dL_law__2188 rfl rfl ?_
    refine ug_iload 4 dL_law__2189 rfl ?_
    refine ug_iconst dL_law__2191 un_iconst_2 ?_
    refine ug_iadd dL_law__2192 ?_
    refine ug_sld (hin 2 (Nat.le_of_ble_eq_true rfl)) dL_law__2193 ?_
    refine ug_aload_n 3 dL_law__2194 rfl rfl ?_
    refine ug_callW [.ref (ue_d E 0), .int (ue_sx E (x4 + 1).toNatClampNeg), .int (ue_sx E (x4 + 2).toNatClampNeg), .ref (ue_d E 63)] (c_L_needs_r hx e1) kv_L_238 rfl (S := []) rfl (Nat.le_of_ble_eq_true rfl) (Nat.le_of_ble_eq_true rfl) (Nat.le_of_ble_eq_true rfl) ⟨by omega, by omega⟩ dL_law__2195 ?_
    refine ug_istore [(5, .int 0), (0, .ref (ue_sb E)), (1, .ref (ue_d E 0)), (2, .ref (ue_d E 38)), (3, .ref (ue_d E 63)), (4, .int x4)] dL_law__2198 (Nat.le_of_ble_eq_true rfl) rfl ?_
    refine ug_aload_n 3 dL_law__2200 rfl rfl ?_
    refine ug_aload_n 1 dL_law__2201 rfl rfl ?_
    refine ug_iload 5 dL_law__2202 rfl ?_
    refine ug_iconst dL_law__2204 un_iconst_1 ?_
    refine ug_iadd dL_law__2205 ?_
    refine ug_sld (hin 1 (Nat.le_of_ble_eq_true rfl)) dL_law__2206 ?_
    refine ug_aload_n 1 dL_law__2207 rfl rfl ?_
    refine ug_iload 5 dL_law__2208 rfl ?_
    refine ug_iconst dL_law__2210 un_iconst_2 ?_
    refine ug_iadd dL_law__2211 ?_
    refine ug_sld (hin 2 (Nat.le_of_ble_eq_true rfl)) dL_law__2212 ?_
    refine ug_callVL [.int r] [.int (ue_sx E (x4 + 1).toNatClampNeg), .int (ue_sx E (x4 + 2).toNatClampNeg)] (c_X8_needs e2) kc_L_240 ro_38 rfl (S := []) rfl rfl (Nat.le_of_ble_eq_true rfl) (Nat.le_of_ble_eq_true rfl) (Nat.le_of_ble_eq_true rfl) ⟨by omega, by omega⟩ dL_law__2213 ?_
    refine ug_istore [(6, .int r), (5, .int 0), (0, .ref (ue_sb E)), (1, .ref (ue_d E 0)), (2, .ref (ue_d E 38)), (3, .ref (ue_d E 63)), (4, .int x4)] dL_law__2216 (Nat.le_of_ble_eq_true rfl) rfl ?_
    refine ug_aload_n 4 dL_law__2218 rfl rfl ?_
    refine ug_callVL [.int (m2 38 0)] [] (c_X8_thrown rfl) kc_L_137 ro_38 rfl (S := []) rfl rfl (Nat.le_of_ble_eq_true rfl) (Nat.le_of_ble_eq_true rfl) (Nat.le_of_ble_eq_true rfl) ⟨by omega, by omega⟩ dL_law__2219 ?_
    refine ug_iload 1 dL_law__2222 rfl ?_
    refine ug_icmp_eq 2229 dL_law__2224 (by decide) (fun _ => ?_) (fun q => absurd e3 q)
    refine ug_iload 1 dL_law__2229 rfl ?_
    refine ug_if_ne 2246 dL_law__2231 (by decide) (fun q => absurd rfl q) (fun _ => ?_)
    refine ug_aload_n 5 dL_law__2234 rfl rfl ?_
    refine ug_iconst dL_law__2235 un_iconst_0 ?_
    refine ug_lald hx dL_law__2236 ?_
    refine ug_iload 0 dL_law__2237 rfl ?_
    refine ug_i2l dL_law__2239 ?_
    refine ug_lcmp dL_law__2240 ?_
    refine ug_if_eq 2246 dL_law__2241 (by decide) (fun _ => ?_) (fun q => absurd (ulaw_cmp e4) q)
    refine ug_goto 2807 dL_law__2246 (by decide) ?_
    refine ug_iinc (v := (x4 + 9)) [(4, .int (x4 + 9)), (6, .int r), (5, .int 0), (0, .ref (ue_sb E)), (1, .ref (ue_d E 0)), (2, .ref (ue_d E 38)), (3, .ref (ue_d E 63))] 6 dL_law__2807 rfl rfl (Nat.le_of_ble_eq_true rfl) rfl ?_
    refine ug_goto 23 dL_law__2810 (by decide) ?_
    refine ug_sub [(0, .ref (ue_sb E)), (1, .ref (ue_d E 0)), (2, .ref (ue_d E 38)), (3, .ref (ue_d E 63)), (4, .int (x4 + 9))] [3, 4, 5, 6, 0] rfl ?_
    exact ih
  · obtain ⟨m9, ih⟩ := ih m2 (ce + 1) (sl + 6) hI (by omega) (by omega)
    refine ⟨m9, ?_⟩
    refine ug_aload_n 1 dL_law__2181 rfl rfl ?_
    refine ug_aload_n 0 dL_law__2182 rfl rfl ?_
    refine ug_iload 4 dL_law__2183 rfl ?_
    refine ug_iconst dL_law__2185 un_iconst_1 ?_
    refine ug_iadd dL_law__2186 ?_
    refine ug_sld (hin 1 (Nat.le_of_ble_eq_true rfl)) dL_law__2187 ?_
    refine ug_aload_n 0 dL_law__2188 rfl rfl ?_
    refine ug_iload 4 dL_law__2189 rfl ?_
    refine ug_iconst dL_law__2191 un_iconst_2 ?_
    refine ug_iadd dL_law__2192 ?_
    refine ug_sld (hin 2 (Nat.le_of_ble_eq_true rfl)) dL_law__2193 ?_
    refine ug_aload_n 3 dL_law__2194 rfl rfl ?_
    refine ug_callW [.ref (ue_d E 0), .int (ue_sx E (x4 + 1).toNatClampNeg), .int (ue_sx E (x4 + 2).toNatClampNeg), .ref (ue_d E 63)] (c_L_needs_n e1) kv_L_238 rfl (S := []) rfl (Nat.le_of_ble_eq_true rfl) (Nat.le_of_ble_eq_true rfl) (Nat.le_of_ble_eq_true rfl) ⟨by omega, by omega⟩ dL_law__2195 ?_
    refine ug_istore [(5, .int 1), (0, .ref (ue_sb E)), (1, .ref (ue_d E 0)), (2, .ref (ue_d E 38)), (3, .ref (ue_d E 63)), (4, .int x4)] dL_law__2198 (Nat.le_of_ble_eq_true rfl) rfl ?_
    refine ug_aload_n 3 dL_law__2200 rfl rfl ?_
    refine ug_aload_n 1 dL_law__2201 rfl rfl ?_
    refine ug_iload 5 dL_law__2202 rfl ?_
    refine ug_iconst dL_law__2204 un_iconst_1 ?_
    refine ug_iadd dL_law__2205 ?_
    refine ug_sld (hin 1 (Nat.le_of_ble_eq_true rfl)) dL_law__2206 ?_
    refine ug_aload_n 1 dL_law__2207 rfl rfl ?_
    refine ug_iload 5 dL_law__2208 rfl ?_
    refine ug_iconst dL_law__2210 un_iconst_2 ?_
    refine ug_iadd dL_law__2211 ?_
    refine ug_sld (hin 2 (Nat.le_of_ble_eq_true rfl)) dL_law__2212 ?_
    refine ug_callVL [.int b] [.int (ue_sx E (x4 + 1).toNatClampNeg), .int (ue_sx E (x4 + 2).toNatClampNeg)] (c_X8_needs e2) kc_L_240 ro_38 rfl (S := []) rfl rfl (Nat.le_of_ble_eq_true rfl) (Nat.le_of_ble_eq_true rfl) (Nat.le_of_ble_eq_true rfl) ⟨by omega, by omega⟩ dL_law__2213 ?_
    refine ug_istore [(6, .int b), (5, .int 1), (0, .ref (ue_sb E)), (1, .ref (ue_d E 0)), (2, .ref (ue_d E 38)), (3, .ref (ue_d E 63)), (4, .int x4)] dL_law__2216 (Nat.le_of_ble_eq_true rfl) rfl ?_
    refine ug_aload_n 4 dL_law__2218 rfl rfl ?_
    refine ug_callVL [.int (m2 38 0)] [] (c_X8_thrown rfl) kc_L_137 ro_38 rfl (S := []) rfl rfl (Nat.le_of_ble_eq_true rfl) (Nat.le_of_ble_eq_true rfl) (Nat.le_of_ble_eq_true rfl) ⟨by omega, by omega⟩ dL_law__2219 ?_
    refine ug_iload 1 dL_law__2222 rfl ?_
    refine ug_icmp_eq 2229 dL_law__2224 (by decide) (fun _ => ?_) (fun q => absurd e3 q)
    refine ug_iload 1 dL_law__2229 rfl ?_
    refine ug_if_ne 2246 dL_law__2231 (by decide) (fun _ => ?_) (fun q => absurd q (by decide))
    refine ug_goto 2807 dL_law__2246 (by decide) ?_
    refine ug_iinc (v := (x4 + 9)) [(4, .int (x4 + 9)), (6, .int b), (5, .int 1), (0, .ref (ue_sb E)), (1, .ref (ue_d E 0)), (2, .ref (ue_d E 38)), (3, .ref (ue_d E 63))] 6 dL_law__2807 rfl rfl (Nat.le_of_ble_eq_true rfl) rfl ?_
    refine ug_goto 23 dL_law__2810 (by decide) ?_
    refine ug_sub [(0, .ref (ue_sb E)), (1, .ref (ue_d E 0)), (2, .ref (ue_d E 38)), (3, .ref (ue_d E 63)), (4, .int (x4 + 9))] [3, 4, 5, 6, 0] rfl ?_
    exact ih
set_option maxRecDepth 20000 in
theorem law_buyers {l : Launch} {E : Ue} (hx : ue_x E = [.inr (3, 1)]) {I : Um → Prop} (h : uop_buyers I) {mc ms ce sl n : Nat} {x4 : Int32} (hin : ∀ q, q ≤ 8 → vp_in (x4 + nI q) (ue_sn E)) (ih : ∀ (m2 : Um) (ce sl : Nat), I m2 → ce + n ≤ mc → sl + 6 * n ≤ ms → ∃ m9, ug l E 2048 mc ms cL_law_ 8 RL (some .boolean) [] (.inl (some (.int 1), m9)) ce sl 23 [(0, .ref (ue_sb E)), (1, .ref (ue_d E 0)), (2, .ref (ue_d E 38)), (3, .ref (ue_d E 63)), (4, .int (x4 + 9))] [] m2) {mem : Um} (hI : I mem) (hc : ce + (n + 1) ≤ mc) (hs : sl + 6 * (n + 1) ≤ ms) : ∃ m9, ug l E 2048 mc ms cL_law_ 8 RL (some .boolean) [] (.inl (some (.int 1), m9)) ce sl 2249 [(0, .ref (ue_sb E)), (1, .ref (ue_d E 0)), (2, .ref (ue_d E 38)), (3, .ref (ue_d E 63)), (4, .int x4)] [] mem := by
  rcases h mem (ue_sx E (x4 + 1).toNatClampNeg) (ue_sx E (x4 + 2).toNatClampNeg) hI with ⟨m1, r, m2, e1, e2, e3, e4, hI⟩ | ⟨m1, m2, b, e1, e2, e3, hI⟩ | ⟨m1, m2, b, e1, e2, e3, hI⟩
  · obtain ⟨m9, ih⟩ := ih m2 (ce + 1) (sl + 6) hI (by omega) (by omega)
    refine ⟨m9, ?_⟩
    refine ug_aload_n 1 dL_law__2249 rfl rfl ?_
    refine ug_aload_n 0 dL_law__2250 rfl rfl ?_
    refine ug_iload 4 dL_law__2251 rfl ?_
    refine ug_iconst dL_law__2253 un_iconst_1 ?_
    refine ug_iadd dL_law__2254 ?_
    refine ug_sld (hin 1 (Nat.le_of_ble_eq_true rfl)) dL_law__2255 ?_
    refine ug_aload_n 0 dL_law__2256 rfl rfl ?_
    refine ug_iload 4 dL_law__2257 rfl ?_
    refine ug_iconst dL_law__2259 un_iconst_2 ?_
    refine ug_iadd dL_law__2260 ?_
    refine ug_sld (hin 2 (Nat.le_of_ble_eq_true rfl)) dL_law__2261 ?_
    refine ug_aload_n 3 dL_law__2262 rfl rfl ?_
    refine ug_callW [.ref (ue_d E 0), .int (ue_sx E (x4 + 1).toNatClampNeg), .int (ue_sx E (x4 + 2).toNatClampNeg), .ref (ue_d E 63)] (c_L_buyers_r hx e1) kv_L_241 rfl (S := []) rfl (Nat.le_of_ble_eq_true rfl) (Nat.le_of_ble_eq_true rfl) (Nat.le_of_ble_eq_true rfl) ⟨by omega, by omega⟩ dL_law__2263 ?_
    refine ug_istore [(5, .int 0), (0, .ref (ue_sb E)), (1, .ref (ue_d E 0)), (2, .ref (ue_d E 38)), (3, .ref (ue_d E 63)), (4, .int x4)] dL_law__2266 (Nat.le_of_ble_eq_true rfl) rfl ?_
    refine ug_aload_n 3 dL_law__2268 rfl rfl ?_
    refine ug_aload_n 1 dL_law__2269 rfl rfl ?_
    refine ug_iload 5 dL_law__2270 rfl ?_
    refine ug_iconst dL_law__2272 un_iconst_1 ?_
    refine ug_iadd dL_law__2273 ?_
    refine ug_sld (hin 1 (Nat.le_of_ble_eq_true rfl)) dL_law__2274 ?_
    refine ug_aload_n 1 dL_law__2275 rfl rfl ?_
    refine ug_iload 5 dL_law__2276 rfl ?_
    refine ug_iconst dL_law__2278 un_iconst_2 ?_
    refine ug_iadd dL_law__2279 ?_
    refine ug_sld (hin 2 (Nat.le_of_ble_eq_true rfl)) dL_law__2280 ?_
    refine ug_callVL [.int r] [.int (ue_sx E (x4 + 1).toNatClampNeg), .int (ue_sx E (x4 + 2).toNatClampNeg)] (c_X8_buyers e2) kc_L_243 ro_38 rfl (S := []) rfl rfl (Nat.le_of_ble_eq_true rfl) (Nat.le_of_ble_eq_true rfl) (Nat.le_of_ble_eq_true rfl) ⟨by omega, by omega⟩ dL_law__2281 ?_
    refine ug_istore [(6, .int r), (5, .int 0), (0, .ref (ue_sb E)), (1, .ref (ue_d E 0)), (2, .ref (ue_d E 38)), (3, .ref (ue_d E 63)), (4, .int x4)] dL_law__2284 (Nat.le_of_ble_eq_true rfl) rfl ?_
    refine ug_aload_n 4 dL_law__2286 rfl rfl ?_
    refine ug_callVL [.int (m2 38 0)] [] (c_X8_thrown rfl) kc_L_137 ro_38 rfl (S := []) rfl rfl (Nat.le_of_ble_eq_true rfl) (Nat.le_of_ble_eq_true rfl) (Nat.le_of_ble_eq_true rfl) ⟨by omega, by omega⟩ dL_law__2287 ?_
    refine ug_iload 1 dL_law__2290 rfl ?_
    refine ug_icmp_eq 2297 dL_law__2292 (by decide) (fun _ => ?_) (fun q => absurd e3 q)
    refine ug_iload 1 dL_law__2297 rfl ?_
    refine ug_if_ne 2314 dL_law__2299 (by decide) (fun q => absurd rfl q) (fun _ => ?_)
    refine ug_aload_n 5 dL_law__2302 rfl rfl ?_
    refine ug_iconst dL_law__2303 un_iconst_0 ?_
    refine ug_lald hx dL_law__2304 ?_
    refine ug_iload 0 dL_law__2305 rfl ?_
    refine ug_i2l dL_law__2307 ?_
    refine ug_lcmp dL_law__2308 ?_
    refine ug_if_eq 2314 dL_law__2309 (by decide) (fun _ => ?_) (fun q => absurd (ulaw_cmp e4) q)
    refine ug_goto 2807 dL_law__2314 (by decide) ?_
    refine ug_iinc (v := (x4 + 9)) [(4, .int (x4 + 9)), (6, .int r), (5, .int 0), (0, .ref (ue_sb E)), (1, .ref (ue_d E 0)), (2, .ref (ue_d E 38)), (3, .ref (ue_d E 63))] 6 dL_law__2807 rfl rfl (Nat.le_of_ble_eq_true rfl) rfl ?_
    refine ug_goto 23 dL_law__2810 (by decide) ?_
    refine ug_sub [(0, .ref (ue_sb E)), (1, .ref (ue_d E 0)), (2, .ref (ue_d E 38)), (3, .ref (ue_d E 63)), (4, .int (x4 + 9))] [3, 4, 5, 6, 0] rfl ?_
    exact ih
  · obtain ⟨m9, ih⟩ := ih m2 (ce + 1) (sl + 6) hI (by omega) (by omega)
    refine ⟨m9, ?_⟩
    refine ug_aload_n 1 dL_law__2249 rfl rfl ?_
    refine ug_aload_n 0 dL_law__2250 rfl rfl ?_
    refine ug_iload 4 dL_law__2251 rfl ?_
    refine ug_iconst dL_law__2253 un_iconst_1 ?_
    refine ug_iadd dL_law__2254 ?_
    refine ug_sld (hin 1 (Nat.le_of_ble_eq_true rfl)) dL_law__2255 ?_
    refine ug_aload_n 0 dL_law__2256 rfl rfl ?_
    refine ug_iload 4 dL_law__2257 rfl ?_
    refine ug_iconst dL_law__2259 un_iconst_2 ?_
    refine ug_iadd dL_law__2260 ?_
    refine ug_sld (hin 2 (Nat.le_of_ble_eq_true rfl)) dL_law__2261 ?_
    refine ug_aload_n 3 dL_law__2262 rfl rfl ?_
    refine ug_callW [.ref (ue_d E 0), .int (ue_sx E (x4 + 1).toNatClampNeg), .int (ue_sx E (x4 + 2).toNatClampNeg), .ref (ue_d E 63)] (c_L_buyers_n e1) kv_L_241 rfl (S := []) rfl (Nat.le_of_ble_eq_true rfl) (Nat.le_of_ble_eq_true rfl) (Nat.le_of_ble_eq_true rfl) ⟨by omega, by omega⟩ dL_law__2263 ?_
    refine ug_istore [(5, .int 1), (0, .ref (ue_sb E)), (1, .ref (ue_d E 0)), (2, .ref (ue_d E 38)), (3, .ref (ue_d E 63)), (4, .int x4)] dL_law__2266 (Nat.le_of_ble_eq_true rfl) rfl ?_
    refine ug_aload_n 3 dL_law__2268 rfl rfl ?_
    refine ug_aload_n 1 dL_law__2269 rfl rfl ?_
    refine ug_iload 5 dL_law__2270 rfl ?_
    refine ug_iconst dL_law__2272 un_iconst_1 ?_
    refine ug_iadd dL_law__2273 ?_
    refine ug_sld (hin 1 (Nat.le_of_ble_eq_true rfl)) dL_law__2274 ?_
    refine ug_aload_n 1 dL_law__2275 rfl rfl ?_
    refine ug_iload 5 dL_law__2276 rfl ?_
    refine ug_iconst dL_law__2278 un_iconst_2 ?_
    refine ug_iadd dL_law__2279 ?_
    refine ug_sld (hin 2 (Nat.le_of_ble_eq_true rfl)) dL_law__2280 ?_
    refine ug_callVL [.int b] [.int (ue_sx E (x4 + 1).toNatClampNeg), .int (ue_sx E (x4 + 2).toNatClampNeg)] (c_X8_buyers e2) kc_L_243 ro_38 rfl (S := []) rfl rfl (Nat.le_of_ble_eq_true rfl) (Nat.le_of_ble_eq_true rfl) (Nat.le_of_ble_eq_true rfl) ⟨by omega, by omega⟩ dL_law__2281 ?_
    refine ug_istore [(6, .int b), (5, .int 1), (0, .ref (ue_sb E)), (1, .ref (ue_d E 0)), (2, .ref (ue_d E 38)), (3, .ref (ue_d E 63)), (4, .int x4)] dL_law__2284 (Nat.le_of_ble_eq_true rfl) rfl ?_
    refine ug_aload_n 4 dL_law__2286 rfl rfl ?_
    refine ug_callVL [.int (m2 38 0)] [] (c_X8_thrown rfl) kc_L_137 ro_38 rfl (S := []) rfl rfl (Nat.le_of_ble_eq_true rfl) (Nat.le_of_ble_eq_true rfl) (Nat.le_of_ble_eq_true rfl) ⟨by omega, by omega⟩ dL_law__2287 ?_
    refine ug_iload 1 dL_law__2290 rfl ?_
    refine ug_icmp_eq 2297 dL_law__2292 (by decide) (fun _ => ?_) (fun q => absurd e3 q)
    refine ug_iload 1 dL_law__2297 rfl ?_
    refine ug_if_ne 2314 dL_law__2299 (by decide) (fun _ => ?_) (fun q => absurd q (by decide))
    refine ug_goto 2807 dL_law__2314 (by decide) ?_
    refine ug_iinc (v := (x4 + 9)) [(4, .int (x4 + 9)), (6, .int b), (5, .int 1), (0, .ref (ue_sb E)), (1, .ref (ue_d E 0)), (2, .ref (ue_d E 38)), (3, .ref (ue_d E 63))] 6 dL_law__2807 rfl rfl (Nat.le_of_ble_eq_true rfl) rfl ?_
    refine ug_goto 23 dL_law__2810 (by decide) ?_
    refine ug_sub [(0, .ref (ue_sb E)), (1, .ref (ue_d E 0)), (2, .ref (ue_d E 38)), (3, .ref (ue_d E 63)), (4, .int (x4 + 9))] [3, 4, 5, 6, 0] rfl ?_
    exact ih
  · obtain ⟨m9, ih⟩ := ih m2 (ce + 1) (sl + 6) hI (by omega) (by omega)
    refine ⟨m9, ?_⟩
    refine ug_aload_n 1 dL_law__2249 rfl rfl ?_
    refine ug_aload_n 0 dL_law__2250 rfl rfl ?_
    refine ug_iload 4 dL_law__2251 rfl ?_
    refine ug_iconst dL_law__2253 un_iconst_1 ?_
    refine ug_iadd dL_law__2254 ?_
    refine ug_sld (hin 1 (Nat.le_of_ble_eq_true rfl)) dL_law__2255 ?_
    refine ug_aload_n 0 dL_law__2256 rfl rfl ?_
    refine ug_iload 4 dL_law__2257 rfl ?_
    refine ug_iconst dL_law__2259 un_iconst_2 ?_
    refine ug_iadd dL_law__2260 ?_
    refine ug_sld (hin 2 (Nat.le_of_ble_eq_true rfl)) dL_law__2261 ?_
    refine ug_aload_n 3 dL_law__2262 rfl rfl ?_
    refine ug_callW [.ref (ue_d E 0), .int (ue_sx E (x4 + 1).toNatClampNeg), .int (ue_sx E (x4 + 2).toNatClampNeg), .ref (ue_d E 63)] (c_L_buyers_i e1) kv_L_241 rfl (S := []) rfl (Nat.le_of_ble_eq_true rfl) (Nat.le_of_ble_eq_true rfl) (Nat.le_of_ble_eq_true rfl) ⟨by omega, by omega⟩ dL_law__2263 ?_
    refine ug_istore [(5, .int 2), (0, .ref (ue_sb E)), (1, .ref (ue_d E 0)), (2, .ref (ue_d E 38)), (3, .ref (ue_d E 63)), (4, .int x4)] dL_law__2266 (Nat.le_of_ble_eq_true rfl) rfl ?_
    refine ug_aload_n 3 dL_law__2268 rfl rfl ?_
    refine ug_aload_n 1 dL_law__2269 rfl rfl ?_
    refine ug_iload 5 dL_law__2270 rfl ?_
    refine ug_iconst dL_law__2272 un_iconst_1 ?_
    refine ug_iadd dL_law__2273 ?_
    refine ug_sld (hin 1 (Nat.le_of_ble_eq_true rfl)) dL_law__2274 ?_
    refine ug_aload_n 1 dL_law__2275 rfl rfl ?_
    refine ug_iload 5 dL_law__2276 rfl ?_
    refine ug_iconst dL_law__2278 un_iconst_2 ?_
    refine ug_iadd dL_law__2279 ?_
    refine ug_sld (hin 2 (Nat.le_of_ble_eq_true rfl)) dL_law__2280 ?_
    refine ug_callVL [.int b] [.int (ue_sx E (x4 + 1).toNatClampNeg), .int (ue_sx E (x4 + 2).toNatClampNeg)] (c_X8_buyers e2) kc_L_243 ro_38 rfl (S := []) rfl rfl (Nat.le_of_ble_eq_true rfl) (Nat.le_of_ble_eq_true rfl) (Nat.le_of_ble_eq_true rfl) ⟨by omega, by omega⟩ dL_law__2281 ?_
    refine ug_istore [(6, .int b), (5, .int 2), (0, .ref (ue_sb E)), (1, .ref (ue_d E 0)), (2, .ref (ue_d E 38)), (3, .ref (ue_d E 63)), (4, .int x4)] dL_law__2284 (Nat.le_of_ble_eq_true rfl) rfl ?_
    refine ug_aload_n 4 dL_law__2286 rfl rfl ?_
    refine ug_callVL [.int (m2 38 0)] [] (c_X8_thrown rfl) kc_L_137 ro_38 rfl (S := []) rfl rfl (Nat.le_of_ble_eq_true rfl) (Nat.le_of_ble_eq_true rfl) (Nat.le_of_ble_eq_true rfl) ⟨by omega, by omega⟩ dL_law__2287 ?_
    refine ug_iload 1 dL_law__2290 rfl ?_
    refine ug_icmp_eq 2297 dL_law__2292 (by decide) (fun _ => ?_) (fun q => absurd e3 q)
    refine ug_iload 1 dL_law__2297 rfl ?_
    refine ug_if_ne 2314 dL_law__2299 (by decide) (fun _ => ?_) (fun q => absurd q (by decide))
    refine ug_goto 2807 dL_law__2314 (by decide) ?_
    refine ug_iinc (v := (x4 + 9)) [(4, .int (x4 + 9)), (6, .int b), (5, .int 2), (0, .ref (ue_sb E)), (1, .ref (ue_d E 0)), (2, .ref (ue_d E 38)), (3, .ref (ue_d E 63))] 6 dL_law__2807 rfl rfl (Nat.le_of_ble_eq_true rfl) rfl ?_
    refine ug_goto 23 dL_law__2810 (by decide) ?_
    refine ug_sub [(0, .ref (ue_sb E)), (1, .ref (ue_d E 0)), (2, .ref (ue_d E 38)), (3, .ref (ue_d E 63)), (4, .int (x4 + 9))] [3, 4, 5, 6, 0] rfl ?_
    exact ih
set_option maxRecDepth 20000 in
theorem law_affords {l : Launch} {E : Ue} (hx : ue_x E = [.inr (3, 1)]) {I : Um → Prop} (h : uop_affords I) {mc ms ce sl n : Nat} {x4 : Int32} (hin : ∀ q, q ≤ 8 → vp_in (x4 + nI q) (ue_sn E)) (ih : ∀ (m2 : Um) (ce sl : Nat), I m2 → ce + n ≤ mc → sl + 6 * n ≤ ms → ∃ m9, ug l E 2048 mc ms cL_law_ 8 RL (some .boolean) [] (.inl (some (.int 1), m9)) ce sl 23 [(0, .ref (ue_sb E)), (1, .ref (ue_d E 0)), (2, .ref (ue_d E 38)), (3, .ref (ue_d E 63)), (4, .int (x4 + 9))] [] m2) {mem : Um} (hI : I mem) (hc : ce + (n + 1) ≤ mc) (hs : sl + 6 * (n + 1) ≤ ms) : ∃ m9, ug l E 2048 mc ms cL_law_ 8 RL (some .boolean) [] (.inl (some (.int 1), m9)) ce sl 2317 [(0, .ref (ue_sb E)), (1, .ref (ue_d E 0)), (2, .ref (ue_d E 38)), (3, .ref (ue_d E 63)), (4, .int x4)] [] mem := by
  rcases h mem (ue_sx E (x4 + 1).toNatClampNeg) hI with ⟨m1, r, m2, e1, e2, e3, e4, hI⟩ | ⟨m1, m2, b, e1, e2, e3, hI⟩
  · obtain ⟨m9, ih⟩ := ih m2 (ce + 1) (sl + 6) hI (by omega) (by omega)
    refine ⟨m9, ?_⟩
    refine ug_aload_n 1 dL_law__2317 rfl rfl ?_
    refine ug_aload_n 0 dL_law__2318 rfl rfl ?_
    refine ug_iload 4 dL_law__2319 rfl ?_
    refine ug_iconst dL_law__2321 un_iconst_1 ?_
    refine ug_iadd dL_law__2322 ?_
    refine ug_sld (hin 1 (Nat.le_of_ble_eq_true rfl)) dL_law__2323 ?_
    refine ug_aload_n 3 dL_law__2324 rfl rfl ?_
    refine ug_callW [.ref (ue_d E 0), .int (ue_sx E (x4 + 1).toNatClampNeg), .ref (ue_d E 63)] (c_L_affords_r hx e1) kv_L_244 rfl (S := []) rfl (Nat.le_of_ble_eq_true rfl) (Nat.le_of_ble_eq_true rfl) (Nat.le_of_ble_eq_true rfl) ⟨by omega, by omega⟩ dL_law__2325 ?_
    refine ug_istore [(5, .int 0), (0, .ref (ue_sb E)), (1, .ref (ue_d E 0)), (2, .ref (ue_d E 38)), (3, .ref (ue_d E 63)), (4, .int x4)] dL_law__2328 (Nat.le_of_ble_eq_true rfl) rfl ?_
    refine ug_aload_n 3 dL_law__2330 rfl rfl ?_
    refine ug_aload_n 1 dL_law__2331 rfl rfl ?_
    refine ug_iload 5 dL_law__2332 rfl ?_
    refine ug_iconst dL_law__2334 un_iconst_1 ?_
    refine ug_iadd dL_law__2335 ?_
    refine ug_sld (hin 1 (Nat.le_of_ble_eq_true rfl)) dL_law__2336 ?_
    refine ug_callVL [.int r] [.int (ue_sx E (x4 + 1).toNatClampNeg)] (c_X8_affords e2) kc_L_246 ro_38 rfl (S := []) rfl rfl (Nat.le_of_ble_eq_true rfl) (Nat.le_of_ble_eq_true rfl) (Nat.le_of_ble_eq_true rfl) ⟨by omega, by omega⟩ dL_law__2337 ?_
    refine ug_istore [(6, .int r), (5, .int 0), (0, .ref (ue_sb E)), (1, .ref (ue_d E 0)), (2, .ref (ue_d E 38)), (3, .ref (ue_d E 63)), (4, .int x4)] dL_law__2340 (Nat.le_of_ble_eq_true rfl) rfl ?_
    refine ug_aload_n 4 dL_law__2342 rfl rfl ?_
    refine ug_callVL [.int (m2 38 0)] [] (c_X8_thrown rfl) kc_L_137 ro_38 rfl (S := []) rfl rfl (Nat.le_of_ble_eq_true rfl) (Nat.le_of_ble_eq_true rfl) (Nat.le_of_ble_eq_true rfl) ⟨by omega, by omega⟩ dL_law__2343 ?_
    refine ug_iload 1 dL_law__2346 rfl ?_
    refine ug_icmp_eq 2353 dL_law__2348 (by decide) (fun _ => ?_) (fun q => absurd e3 q)
    refine ug_iload 1 dL_law__2353 rfl ?_
    refine ug_if_ne 2370 dL_law__2355 (by decide) (fun q => absurd rfl q) (fun _ => ?_)
    refine ug_aload_n 5 dL_law__2358 rfl rfl ?_
    refine ug_iconst dL_law__2359 un_iconst_0 ?_
    refine ug_lald hx dL_law__2360 ?_
    refine ug_iload 0 dL_law__2361 rfl ?_
    refine ug_i2l dL_law__2363 ?_
    refine ug_lcmp dL_law__2364 ?_
    refine ug_if_eq 2370 dL_law__2365 (by decide) (fun _ => ?_) (fun q => absurd (ulaw_cmp e4) q)
    refine ug_goto 2807 dL_law__2370 (by decide) ?_
    refine ug_iinc (v := (x4 + 9)) [(4, .int (x4 + 9)), (6, .int r), (5, .int 0), (0, .ref (ue_sb E)), (1, .ref (ue_d E 0)), (2, .ref (ue_d E 38)), (3, .ref (ue_d E 63))] 6 dL_law__2807 rfl rfl (Nat.le_of_ble_eq_true rfl) rfl ?_
    refine ug_goto 23 dL_law__2810 (by decide) ?_
    refine ug_sub [(0, .ref (ue_sb E)), (1, .ref (ue_d E 0)), (2, .ref (ue_d E 38)), (3, .ref (ue_d E 63)), (4, .int (x4 + 9))] [3, 4, 5, 6, 0] rfl ?_
    exact ih
  · obtain ⟨m9, ih⟩ := ih m2 (ce + 1) (sl + 6) hI (by omega) (by omega)
    refine ⟨m9, ?_⟩
    refine ug_aload_n 1 dL_law__2317 rfl rfl ?_
    refine ug_aload_n 0 dL_law__2318 rfl rfl ?_
    refine ug_iload 4 dL_law__2319 rfl ?_
    refine ug_iconst dL_law__2321 un_iconst_1 ?_
    refine ug_iadd dL_law__2322 ?_
    refine ug_sld (hin 1 (Nat.le_of_ble_eq_true rfl)) dL_law__2323 ?_
    refine ug_aload_n 3 dL_law__2324 rfl rfl ?_
    refine ug_callW [.ref (ue_d E 0), .int (ue_sx E (x4 + 1).toNatClampNeg), .ref (ue_d E 63)] (c_L_affords_n e1) kv_L_244 rfl (S := []) rfl (Nat.le_of_ble_eq_true rfl) (Nat.le_of_ble_eq_true rfl) (Nat.le_of_ble_eq_true rfl) ⟨by omega, by omega⟩ dL_law__2325 ?_
    refine ug_istore [(5, .int 1), (0, .ref (ue_sb E)), (1, .ref (ue_d E 0)), (2, .ref (ue_d E 38)), (3, .ref (ue_d E 63)), (4, .int x4)] dL_law__2328 (Nat.le_of_ble_eq_true rfl) rfl ?_
    refine ug_aload_n 3 dL_law__2330 rfl rfl ?_
    refine ug_aload_n 1 dL_law__2331 rfl rfl ?_
    refine ug_iload 5 dL_law__2332 rfl ?_
    refine ug_iconst dL_law__2334 un_iconst_1 ?_
    refine ug_iadd dL_law__2335 ?_
    refine ug_sld (hin 1 (Nat.le_of_ble_eq_true rfl)) dL_law__2336 ?_
    refine ug_callVL [.int b] [.int (ue_sx E (x4 + 1).toNatClampNeg)] (c_X8_affords e2) kc_L_246 ro_38 rfl (S := []) rfl rfl (Nat.le_of_ble_eq_true rfl) (Nat.le_of_ble_eq_true rfl) (Nat.le_of_ble_eq_true rfl) ⟨by omega, by omega⟩ dL_law__2337 ?_
    refine ug_istore [(6, .int b), (5, .int 1), (0, .ref (ue_sb E)), (1, .ref (ue_d E 0)), (2, .ref (ue_d E 38)), (3, .ref (ue_d E 63)), (4, .int x4)] dL_law__2340 (Nat.le_of_ble_eq_true rfl) rfl ?_
    refine ug_aload_n 4 dL_law__2342 rfl rfl ?_
    refine ug_callVL [.int (m2 38 0)] [] (c_X8_thrown rfl) kc_L_137 ro_38 rfl (S := []) rfl rfl (Nat.le_of_ble_eq_true rfl) (Nat.le_of_ble_eq_true rfl) (Nat.le_of_ble_eq_true rfl) ⟨by omega, by omega⟩ dL_law__2343 ?_
    refine ug_iload 1 dL_law__2346 rfl ?_
    refine ug_icmp_eq 2353 dL_law__2348 (by decide) (fun _ => ?_) (fun q => absurd e3 q)
    refine ug_iload 1 dL_law__2353 rfl ?_
    refine ug_if_ne 2370 dL_law__2355 (by decide) (fun _ => ?_) (fun q => absurd q (by decide))
    refine ug_goto 2807 dL_law__2370 (by decide) ?_
    refine ug_iinc (v := (x4 + 9)) [(4, .int (x4 + 9)), (6, .int b), (5, .int 1), (0, .ref (ue_sb E)), (1, .ref (ue_d E 0)), (2, .ref (ue_d E 38)), (3, .ref (ue_d E 63))] 6 dL_law__2807 rfl rfl (Nat.le_of_ble_eq_true rfl) rfl ?_
    refine ug_goto 23 dL_law__2810 (by decide) ?_
    refine ug_sub [(0, .ref (ue_sb E)), (1, .ref (ue_d E 0)), (2, .ref (ue_d E 38)), (3, .ref (ue_d E 63)), (4, .int (x4 + 9))] [3, 4, 5, 6, 0] rfl ?_
    exact ih
set_option maxRecDepth 20000 in
theorem law_front {l : Launch} {E : Ue} (hx : ue_x E = [.inr (3, 1)]) {I : Um → Prop} (h : uop_front I) {mc ms ce sl n : Nat} {x4 : Int32} (hin : ∀ q, q ≤ 8 → vp_in (x4 + nI q) (ue_sn E)) (ih : ∀ (m2 : Um) (ce sl : Nat), I m2 → ce + n ≤ mc → sl + 6 * n ≤ ms → ∃ m9, ug l E 2048 mc ms cL_law_ 8 RL (some .boolean) [] (.inl (some (.int 1), m9)) ce sl 23 [(0, .ref (ue_sb E)), (1, .ref (ue_d E 0)), (2, .ref (ue_d E 38)), (3, .ref (ue_d E 63)), (4, .int (x4 + 9))] [] m2) {mem : Um} (hI : I mem) (hc : ce + (n + 1) ≤ mc) (hs : sl + 6 * (n + 1) ≤ ms) : ∃ m9, ug l E 2048 mc ms cL_law_ 8 RL (some .boolean) [] (.inl (some (.int 1), m9)) ce sl 2373 [(0, .ref (ue_sb E)), (1, .ref (ue_d E 0)), (2, .ref (ue_d E 38)), (3, .ref (ue_d E 63)), (4, .int x4)] [] mem := by
  rcases h mem (ue_sx E (x4 + 1).toNatClampNeg) (ue_sx E (x4 + 2).toNatClampNeg) (ue_sx E (x4 + 3).toNatClampNeg) hI with ⟨m1, r, m2, e1, e2, e3, e4, hI⟩ | ⟨m1, m2, b, e1, e2, e3, hI⟩
  · obtain ⟨m9, ih⟩ := ih m2 (ce + 1) (sl + 6) hI (by omega) (by omega)
    refine ⟨m9, ?_⟩
    refine ug_aload_n 1 dL_law__2373 rfl rfl ?_
    refine ug_aload_n 0 dL_law__2374 rfl rfl ?_
    refine ug_iload 4 dL_law__2375 rfl ?_
    refine ug_iconst dL_law__2377 un_iconst_1 ?_
    refine ug_iadd dL_law__2378 ?_
    refine ug_sld (hin 1 (Nat.le_of_ble_eq_true rfl)) dL_law__2379 ?_
    refine ug_aload_n 0 dL_law__2380 rfl rfl ?_
    refine ug_iload 4 dL_law__2381 rfl ?_
    refine ug_iconst dL_law__2383 un_iconst_2 ?_
    refine ug_iadd dL_law__2384 ?_
    refine ug_sld (hin 2 (Nat.le_of_ble_eq_true rfl)) dL_law__2385 ?_
    refine ug_aload_n 0 dL_law__2386 rfl rfl ?_
    refine ug_iload 4 dL_law__2387 rfl ?_
    refine ug_iconst dL_law__2389 un_iconst_3 ?_
    refine ug_iadd dL_law__2390 ?_
    refine ug_sld (hin 3 (Nat.le_of_ble_eq_true rfl)) dL_law__2391 ?_
    refine ug_aload_n 3 dL_law__2392 rfl rfl ?_
    refine ug_callW [.ref (ue_d E 0), .int (ue_sx E (x4 + 1).toNatClampNeg), .int (ue_sx E (x4 + 2).toNatClampNeg), .int (ue_sx E (x4 + 3).toNatClampNeg), .ref (ue_d E 63)] (c_L_front_r hx e1) kv_L_247 rfl (S := []) rfl (Nat.le_of_ble_eq_true rfl) (Nat.le_of_ble_eq_true rfl) (Nat.le_of_ble_eq_true rfl) ⟨by omega, by omega⟩ dL_law__2393 ?_
    refine ug_istore [(5, .int 0), (0, .ref (ue_sb E)), (1, .ref (ue_d E 0)), (2, .ref (ue_d E 38)), (3, .ref (ue_d E 63)), (4, .int x4)] dL_law__2396 (Nat.le_of_ble_eq_true rfl) rfl ?_
    refine ug_aload_n 3 dL_law__2398 rfl rfl ?_
    refine ug_aload_n 1 dL_law__2399 rfl rfl ?_
    refine ug_iload 5 dL_law__2400 rfl ?_
    refine ug_iconst dL_law__2402 un_iconst_1 ?_
    refine ug_iadd dL_law__2403 ?_
    refine ug_sld (hin 1 (Nat.le_of_ble_eq_true rfl)) dL_law__2404 ?_
    refine ug_aload_n 1 dL_law__2405 rfl rfl ?_
    refine ug_iload 5 dL_law__2406 rfl ?_
    refine ug_iconst dL_law__2408 un_iconst_2 ?_
    refine ug_iadd dL_law__2409 ?_
    refine ug_sld (hin 2 (Nat.le_of_ble_eq_true rfl)) dL_law__2410 ?_
    refine ug_aload_n 1 dL_law__2411 rfl rfl ?_
    refine ug_iload 5 dL_law__2412 rfl ?_
    refine ug_iconst dL_law__2414 un_iconst_3 ?_
    refine ug_iadd dL_law__2415 ?_
    refine ug_sld (hin 3 (Nat.le_of_ble_eq_true rfl)) dL_law__2416 ?_
    refine ug_callVL [.int r] [.int (ue_sx E (x4 + 1).toNatClampNeg), .int (ue_sx E (x4 + 2).toNatClampNeg), .int (ue_sx E (x4 + 3).toNatClampNeg)] (c_X8_front e2) kc_L_249 ro_38 rfl (S := []) rfl rfl (Nat.le_of_ble_eq_true rfl) (Nat.le_of_ble_eq_true rfl) (Nat.le_of_ble_eq_true rfl) ⟨by omega, by omega⟩ dL_law__2417 ?_
    refine ug_istore [(6, .int r), (5, .int 0), (0, .ref (ue_sb E)), (1, .ref (ue_d E 0)), (2, .ref (ue_d E 38)), (3, .ref (ue_d E 63)), (4, .int x4)] dL_law__2420 (Nat.le_of_ble_eq_true rfl) rfl ?_
    refine ug_aload_n 4 dL_law__2422 rfl rfl ?_
    refine ug_callVL [.int (m2 38 0)] [] (c_X8_thrown rfl) kc_L_137 ro_38 rfl (S := []) rfl rfl (Nat.le_of_ble_eq_true rfl) (Nat.le_of_ble_eq_true rfl) (Nat.le_of_ble_eq_true rfl) ⟨by omega, by omega⟩ dL_law__2423 ?_
    refine ug_iload 1 dL_law__2426 rfl ?_
    refine ug_icmp_eq 2433 dL_law__2428 (by decide) (fun _ => ?_) (fun q => absurd e3 q)
    refine ug_iload 1 dL_law__2433 rfl ?_
    refine ug_if_ne 2450 dL_law__2435 (by decide) (fun q => absurd rfl q) (fun _ => ?_)
    refine ug_aload_n 5 dL_law__2438 rfl rfl ?_
    refine ug_iconst dL_law__2439 un_iconst_0 ?_
    refine ug_lald hx dL_law__2440 ?_
    refine ug_iload 0 dL_law__2441 rfl ?_
    refine ug_i2l dL_law__2443 ?_
    refine ug_lcmp dL_law__2444 ?_
    refine ug_if_eq 2450 dL_law__2445 (by decide) (fun _ => ?_) (fun q => absurd (ulaw_cmp e4) q)
    refine ug_goto 2807 dL_law__2450 (by decide) ?_
    refine ug_iinc (v := (x4 + 9)) [(4, .int (x4 + 9)), (6, .int r), (5, .int 0), (0, .ref (ue_sb E)), (1, .ref (ue_d E 0)), (2, .ref (ue_d E 38)), (3, .ref (ue_d E 63))] 6 dL_law__2807 rfl rfl (Nat.le_of_ble_eq_true rfl) rfl ?_
    refine ug_goto 23 dL_law__2810 (by decide) ?_
    refine ug_sub [(0, .ref (ue_sb E)), (1, .ref (ue_d E 0)), (2, .ref (ue_d E 38)), (3, .ref (ue_d E 63)), (4, .int (x4 + 9))] [3, 4, 5, 6, 0] rfl ?_
    exact ih
  · obtain ⟨m9, ih⟩ := ih m2 (ce + 1) (sl + 6) hI (by omega) (by omega)
    refine ⟨m9, ?_⟩
    refine ug_aload_n 1 dL_law__2373 rfl rfl ?_
    refine ug_aload_n 0 dL_law__2374 rfl rfl ?_
    refine ug_iload 4 dL_law__2375 rfl ?_
    refine ug_iconst dL_law__2377 un_iconst_1 ?_
    refine ug_iadd dL_law__2378 ?_
    refine ug_sld (hin 1 (Nat.le_of_ble_eq_true rfl)) dL_law__2379 ?_
    refine ug_aload_n 0 dL_law__2380 rfl rfl ?_
    refine ug_iload 4 dL_law__2381 rfl ?_
    refine ug_iconst dL_law__2383 un_iconst_2 ?_
    refine ug_iadd dL_law__2384 ?_
    refine ug_sld (hin 2 (Nat.le_of_ble_eq_true rfl)) dL_law__2385 ?_
    refine ug_aload_n 0 dL_law__2386 rfl rfl ?_
    refine ug_iload 4 dL_law__2387 rfl ?_
    refine ug_iconst dL_law__2389 un_iconst_3 ?_
    refine ug_iadd dL_law__2390 ?_
    refine ug_sld (hin 3 (Nat.le_of_ble_eq_true rfl)) dL_law__2391 ?_
    refine ug_aload_n 3 dL_law__2392 rfl rfl ?_
    refine ug_callW [.ref (ue_d E 0), .int (ue_sx E (x4 + 1).toNatClampNeg), .int (ue_sx E (x4 + 2).toNatClampNeg), .int (ue_sx E (x4 + 3).toNatClampNeg), .ref (ue_d E 63)] (c_L_front_i e1) kv_L_247 rfl (S := []) rfl (Nat.le_of_ble_eq_true rfl) (Nat.le_of_ble_eq_true rfl) (Nat.le_of_ble_eq_true rfl) ⟨by omega, by omega⟩ dL_law__2393 ?_
    refine ug_istore [(5, .int 1), (0, .ref (ue_sb E)), (1, .ref (ue_d E 0)), (2, .ref (ue_d E 38)), (3, .ref (ue_d E 63)), (4, .int x4)] dL_law__2396 (Nat.le_of_ble_eq_true rfl) rfl ?_
    refine ug_aload_n 3 dL_law__2398 rfl rfl ?_
    refine ug_aload_n 1 dL_law__2399 rfl rfl ?_
    refine ug_iload 5 dL_law__2400 rfl ?_
    refine ug_iconst dL_law__2402 un_iconst_1 ?_
    refine ug_iadd dL_law__2403 ?_
    refine ug_sld (hin 1 (Nat.le_of_ble_eq_true rfl)) dL_law__2404 ?_
    refine ug_aload_n 1 dL_law__2405 rfl rfl ?_
    refine ug_iload 5 dL_law__2406 rfl ?_
    refine ug_iconst dL_law__2408 un_iconst_2 ?_
    refine ug_iadd dL_law__2409 ?_
    refine ug_sld (hin 2 (Nat.le_of_ble_eq_true rfl)) dL_law__2410 ?_
    refine ug_aload_n 1 dL_law__2411 rfl rfl ?_
    refine ug_iload 5 dL_law__2412 rfl ?_
    refine ug_iconst dL_law__2414 un_iconst_3 ?_
    refine ug_iadd dL_law__2415 ?_
    refine ug_sld (hin 3 (Nat.le_of_ble_eq_true rfl)) dL_law__2416 ?_
    refine ug_callVL [.int b] [.int (ue_sx E (x4 + 1).toNatClampNeg), .int (ue_sx E (x4 + 2).toNatClampNeg), .int (ue_sx E (x4 + 3).toNatClampNeg)] (c_X8_front e2) kc_L_249 ro_38 rfl (S := []) rfl rfl (Nat.le_of_ble_eq_true rfl) (Nat.le_of_ble_eq_true rfl) (Nat.le_of_ble_eq_true rfl) ⟨by omega, by omega⟩ dL_law__2417 ?_
    refine ug_istore [(6, .int b), (5, .int 1), (0, .ref (ue_sb E)), (1, .ref (ue_d E 0)), (2, .ref (ue_d E 38)), (3, .ref (ue_d E 63)), (4, .int x4)] dL_law__2420 (Nat.le_of_ble_eq_true rfl) rfl ?_
    refine ug_aload_n 4 dL_law__2422 rfl rfl ?_
    refine ug_callVL [.int (m2 38 0)] [] (c_X8_thrown rfl) kc_L_137 ro_38 rfl (S := []) rfl rfl (Nat.le_of_ble_eq_true rfl) (Nat.le_of_ble_eq_true rfl) (Nat.le_of_ble_eq_true rfl) ⟨by omega, by omega⟩ dL_law__2423 ?_
    refine ug_iload 1 dL_law__2426 rfl ?_
    refine ug_icmp_eq 2433 dL_law__2428 (by decide) (fun _ => ?_) (fun q => absurd e3 q)
    refine ug_iload 1 dL_law__2433 rfl ?_
    refine ug_if_ne 2450 dL_law__2435 (by decide) (fun _ => ?_) (fun q => absurd q (by decide))
    refine ug_goto 2807 dL_law__2450 (by decide) ?_
    refine ug_iinc (v := (x4 + 9)) [(4, .int (x4 + 9)), (6, .int b), (5, .int 1), (0, .ref (ue_sb E)), (1, .ref (ue_d E 0)), (2, .ref (ue_d E 38)), (3, .ref (ue_d E 63))] 6 dL_law__2807 rfl rfl (Nat.le_of_ble_eq_true rfl) rfl ?_
    refine ug_goto 23 dL_law__2810 (by decide) ?_
    refine ug_sub [(0, .ref (ue_sb E)), (1, .ref (ue_d E 0)), (2, .ref (ue_d E 38)), (3, .ref (ue_d E 63)), (4, .int (x4 + 9))] [3, 4, 5, 6, 0] rfl ?_
    exact ih
set_option maxRecDepth 20000 in
theorem law_closest {l : Launch} {E : Ue} (hx : ue_x E = [.inr (3, 1)]) {I : Um → Prop} (h : uop_closest I) {mc ms ce sl n : Nat} {x4 : Int32} (hin : ∀ q, q ≤ 8 → vp_in (x4 + nI q) (ue_sn E)) (ih : ∀ (m2 : Um) (ce sl : Nat), I m2 → ce + n ≤ mc → sl + 6 * n ≤ ms → ∃ m9, ug l E 2048 mc ms cL_law_ 8 RL (some .boolean) [] (.inl (some (.int 1), m9)) ce sl 23 [(0, .ref (ue_sb E)), (1, .ref (ue_d E 0)), (2, .ref (ue_d E 38)), (3, .ref (ue_d E 63)), (4, .int (x4 + 9))] [] m2) {mem : Um} (hI : I mem) (hc : ce + (n + 1) ≤ mc) (hs : sl + 6 * (n + 1) ≤ ms) : ∃ m9, ug l E 2048 mc ms cL_law_ 8 RL (some .boolean) [] (.inl (some (.int 1), m9)) ce sl 2453 [(0, .ref (ue_sb E)), (1, .ref (ue_d E 0)), (2, .ref (ue_d E 38)), (3, .ref (ue_d E 63)), (4, .int x4)] [] mem := by
  rcases h mem (ue_sx E (x4 + 1).toNatClampNeg) (ue_sx E (x4 + 2).toNatClampNeg) hI with ⟨m1, r, m2, e1, e2, e3, e4, hI⟩ | ⟨m1, m2, b, e1, e2, e3, hI⟩ | ⟨m1, m2, b, e1, e2, e3, hI⟩
  · obtain ⟨m9, ih⟩ := ih m2 (ce + 1) (sl + 6) hI (by omega) (by omega)
    refine ⟨m9, ?_⟩
    refine ug_aload_n 1 dL_law__2453 rfl rfl ?_
    refine ug_aload_n 0 dL_law__2454 rfl rfl ?_
    refine ug_iload 4 dL_law__2455 rfl ?_
    refine ug_iconst dL_law__2457 un_iconst_1 ?_
    refine ug_iadd dL_law__2458 ?_
    refine ug_sld (hin 1 (Nat.le_of_ble_eq_true rfl)) dL_law__2459 ?_
    refine ug_aload_n 0 dL_law__2460 rfl rfl ?_
    refine ug_iload 4 dL_law__2461 rfl ?_
    refine ug_iconst dL_law__2463 un_iconst_2 ?_
    refine ug_iadd dL_law__2464 ?_
    refine ug_sld (hin 2 (Nat.le_of_ble_eq_true rfl)) dL_law__2465 ?_
    refine ug_aload_n 3 dL_law__2466 rfl rfl ?_
    refine ug_callW [.ref (ue_d E 0), .int (ue_sx E (x4 + 1).toNatClampNeg), .int (ue_sx E (x4 + 2).toNatClampNeg), .ref (ue_d E 63)] (c_L_closest_r hx e1) kv_L_250 rfl (S := []) rfl (Nat.le_of_ble_eq_true rfl) (Nat.le_of_ble_eq_true rfl) (Nat.le_of_ble_eq_true rfl) ⟨by omega, by omega⟩ dL_law__2467 ?_
    refine ug_istore [(5, .int 0), (0, .ref (ue_sb E)), (1, .ref (ue_d E 0)), (2, .ref (ue_d E 38)), (3, .ref (ue_d E 63)), (4, .int x4)] dL_law__2470 (Nat.le_of_ble_eq_true rfl) rfl ?_
    refine ug_aload_n 3 dL_law__2472 rfl rfl ?_
    refine ug_aload_n 1 dL_law__2473 rfl rfl ?_
    refine ug_iload 5 dL_law__2474 rfl ?_
    refine ug_iconst dL_law__2476 un_iconst_1 ?_
    refine ug_iadd dL_law__2477 ?_
    refine ug_sld (hin 1 (Nat.le_of_ble_eq_true rfl)) dL_law__2478 ?_
    refine ug_aload_n 1 dL_law__2479 rfl rfl ?_
    refine ug_iload 5 dL_law__2480 rfl ?_
    refine ug_iconst dL_law__2482 un_iconst_2 ?_
    refine ug_iadd dL_law__2483 ?_
    refine ug_sld (hin 2 (Nat.le_of_ble_eq_true rfl)) dL_law__2484 ?_
    refine ug_callVL [.int r] [.int (ue_sx E (x4 + 1).toNatClampNeg), .int (ue_sx E (x4 + 2).toNatClampNeg)] (c_X8_closest e2) kc_L_252 ro_38 rfl (S := []) rfl rfl (Nat.le_of_ble_eq_true rfl) (Nat.le_of_ble_eq_true rfl) (Nat.le_of_ble_eq_true rfl) ⟨by omega, by omega⟩ dL_law__2485 ?_
    refine ug_istore [(6, .int r), (5, .int 0), (0, .ref (ue_sb E)), (1, .ref (ue_d E 0)), (2, .ref (ue_d E 38)), (3, .ref (ue_d E 63)), (4, .int x4)] dL_law__2488 (Nat.le_of_ble_eq_true rfl) rfl ?_
    refine ug_aload_n 4 dL_law__2490 rfl rfl ?_
    refine ug_callVL [.int (m2 38 0)] [] (c_X8_thrown rfl) kc_L_137 ro_38 rfl (S := []) rfl rfl (Nat.le_of_ble_eq_true rfl) (Nat.le_of_ble_eq_true rfl) (Nat.le_of_ble_eq_true rfl) ⟨by omega, by omega⟩ dL_law__2491 ?_
    refine ug_iload 1 dL_law__2494 rfl ?_
    refine ug_icmp_eq 2501 dL_law__2496 (by decide) (fun _ => ?_) (fun q => absurd e3 q)
    refine ug_iload 1 dL_law__2501 rfl ?_
    refine ug_if_ne 2518 dL_law__2503 (by decide) (fun q => absurd rfl q) (fun _ => ?_)
    refine ug_aload_n 5 dL_law__2506 rfl rfl ?_
    refine ug_iconst dL_law__2507 un_iconst_0 ?_
    refine ug_lald hx dL_law__2508 ?_
    refine ug_iload 0 dL_law__2509 rfl ?_
    refine ug_i2l dL_law__2511 ?_
    refine ug_lcmp dL_law__2512 ?_
    refine ug_if_eq 2518 dL_law__2513 (by decide) (fun _ => ?_) (fun q => absurd (ulaw_cmp e4) q)
    refine ug_goto 2807 dL_law__2518 (by decide) ?_
    refine ug_iinc (v := (x4 + 9)) [(4, .int (x4 + 9)), (6, .int r), (5, .int 0), (0, .ref (ue_sb E)), (1, .ref (ue_d E 0)), (2, .ref (ue_d E 38)), (3, .ref (ue_d E 63))] 6 dL_law__2807 rfl rfl (Nat.le_of_ble_eq_true rfl) rfl ?_
    refine ug_goto 23 dL_law__2810 (by decide) ?_
    refine ug_sub [(0, .ref (ue_sb E)), (1, .ref (ue_d E 0)), (2, .ref (ue_d E 38)), (3, .ref (ue_d E 63)), (4, .int (x4 + 9))] [3, 4, 5, 6, 0] rfl ?_
    exact ih
  · obtain ⟨m9, ih⟩ := ih m2 (ce + 1) (sl + 6) hI (by omega) (by omega)
    refine ⟨m9, ?_⟩
    refine ug_aload_n 1 dL_law__2453 rfl rfl ?_
    refine ug_aload_n 0 dL_law__2454 rfl rfl ?_
    refine ug_iload 4 dL_law__2455 rfl ?_
    refine ug_iconst dL_law__2457 un_iconst_1 ?_
    refine ug_iadd dL_law__2458 ?_
    refine ug_sld (hin 1 (Nat.le_of_ble_eq_true rfl)) dL_law__2459 ?_
    refine ug_aload_n 0 dL_law__2460 rfl rfl ?_
    refine ug_iload 4 dL_law__2461 rfl ?_
    refine ug_iconst dL_law__2463 un_iconst_2 ?_
    refine ug_iadd dL_law__2464 ?_
    refine ug_sld (hin 2 (Nat.le_of_ble_eq_true rfl)) dL_law__2465 ?_
    refine ug_aload_n 3 dL_law__2466 rfl rfl ?_
    refine ug_callW [.ref (ue_d E 0), .int (ue_sx E (x4 + 1).toNatClampNeg), .int (ue_sx E (x4 + 2).toNatClampNeg), .ref (ue_d E 63)] (c_L_closest_n e1) kv_L_250 rfl (S := []) rfl (Nat.le_of_ble_eq_true rfl) (Nat.le_of_ble_eq_true rfl) (Nat.le_of_ble_eq_true rfl) ⟨by omega, by omega⟩ dL_law__2467 ?_
    refine ug_istore [(5, .int 1), (0, .ref (ue_sb E)), (1, .ref (ue_d E 0)), (2, .ref (ue_d E 38)), (3, .ref (ue_d E 63)), (4, .int x4)] dL_law__2470 (Nat.le_of_ble_eq_true rfl) rfl ?_
    refine ug_aload_n 3 dL_law__2472 rfl rfl ?_
    refine ug_aload_n 1 dL_law__2473 rfl rfl ?_
    refine ug_iload 5 dL_law__2474 rfl ?_
    refine ug_iconst dL_law__2476 un_iconst_1 ?_
    refine ug_iadd dL_law__2477 ?_
    refine ug_sld (hin 1 (Nat.le_of_ble_eq_true rfl)) dL_law__2478 ?_
    refine ug_aload_n 1 dL_law__2479 rfl rfl ?_
    refine ug_iload 5 dL_law__2480 rfl ?_
    refine ug_iconst dL_law__2482 un_iconst_2 ?_
    refine ug_iadd dL_law__2483 ?_
    refine ug_sld (hin 2 (Nat.le_of_ble_eq_true rfl)) dL_law__2484 ?_
    refine ug_callVL [.int b] [.int (ue_sx E (x4 + 1).toNatClampNeg), .int (ue_sx E (x4 + 2).toNatClampNeg)] (c_X8_closest e2) kc_L_252 ro_38 rfl (S := []) rfl rfl (Nat.le_of_ble_eq_true rfl) (Nat.le_of_ble_eq_true rfl) (Nat.le_of_ble_eq_true rfl) ⟨by omega, by omega⟩ dL_law__2485 ?_
    refine ug_istore [(6, .int b), (5, .int 1), (0, .ref (ue_sb E)), (1, .ref (ue_d E 0)), (2, .ref (ue_d E 38)), (3, .ref (ue_d E 63)), (4, .int x4)] dL_law__2488 (Nat.le_of_ble_eq_true rfl) rfl ?_
    refine ug_aload_n 4 dL_law__2490 rfl rfl ?_
    refine ug_callVL [.int (m2 38 0)] [] (c_X8_thrown rfl) kc_L_137 ro_38 rfl (S := []) rfl rfl (Nat.le_of_ble_eq_true rfl) (Nat.le_of_ble_eq_true rfl) (Nat.le_of_ble_eq_true rfl) ⟨by omega, by omega⟩ dL_law__2491 ?_
    refine ug_iload 1 dL_law__2494 rfl ?_
    refine ug_icmp_eq 2501 dL_law__2496 (by decide) (fun _ => ?_) (fun q => absurd e3 q)
    refine ug_iload 1 dL_law__2501 rfl ?_
    refine ug_if_ne 2518 dL_law__2503 (by decide) (fun _ => ?_) (fun q => absurd q (by decide))
    refine ug_goto 2807 dL_law__2518 (by decide) ?_
    refine ug_iinc (v := (x4 + 9)) [(4, .int (x4 + 9)), (6, .int b), (5, .int 1), (0, .ref (ue_sb E)), (1, .ref (ue_d E 0)), (2, .ref (ue_d E 38)), (3, .ref (ue_d E 63))] 6 dL_law__2807 rfl rfl (Nat.le_of_ble_eq_true rfl) rfl ?_
    refine ug_goto 23 dL_law__2810 (by decide) ?_
    refine ug_sub [(0, .ref (ue_sb E)), (1, .ref (ue_d E 0)), (2, .ref (ue_d E 38)), (3, .ref (ue_d E 63)), (4, .int (x4 + 9))] [3, 4, 5, 6, 0] rfl ?_
    exact ih
  · obtain ⟨m9, ih⟩ := ih m2 (ce + 1) (sl + 6) hI (by omega) (by omega)
    refine ⟨m9, ?_⟩
    refine ug_aload_n 1 dL_law__2453 rfl rfl ?_
    refine ug_aload_n 0 dL_law__2454 rfl rfl ?_
    refine ug_iload 4 dL_law__2455 rfl ?_
    refine ug_iconst dL_law__2457 un_iconst_1 ?_
    refine ug_iadd dL_law__2458 ?_
    refine ug_sld (hin 1 (Nat.le_of_ble_eq_true rfl)) dL_law__2459 ?_
    refine ug_aload_n 0 dL_law__2460 rfl rfl ?_
    refine ug_iload 4 dL_law__2461 rfl ?_
    refine ug_iconst dL_law__2463 un_iconst_2 ?_
    refine ug_iadd dL_law__2464 ?_
    refine ug_sld (hin 2 (Nat.le_of_ble_eq_true rfl)) dL_law__2465 ?_
    refine ug_aload_n 3 dL_law__2466 rfl rfl ?_
    refine ug_callW [.ref (ue_d E 0), .int (ue_sx E (x4 + 1).toNatClampNeg), .int (ue_sx E (x4 + 2).toNatClampNeg), .ref (ue_d E 63)] (c_L_closest_i e1) kv_L_250 rfl (S := []) rfl (Nat.le_of_ble_eq_true rfl) (Nat.le_of_ble_eq_true rfl) (Nat.le_of_ble_eq_true rfl) ⟨by omega, by omega⟩ dL_law__2467 ?_
    refine ug_istore [(5, .int 2), (0, .ref (ue_sb E)), (1, .ref (ue_d E 0)), (2, .ref (ue_d E 38)), (3, .ref (ue_d E 63)), (4, .int x4)] dL_law__2470 (Nat.le_of_ble_eq_true rfl) rfl ?_
    refine ug_aload_n 3 dL_law__2472 rfl rfl ?_
    refine ug_aload_n 1 dL_law__2473 rfl rfl ?_
    refine ug_iload 5 dL_law__2474 rfl ?_
    refine ug_iconst dL_law__2476 un_iconst_1 ?_
    refine ug_iadd dL_law__2477 ?_
    refine ug_sld (hin 1 (Nat.le_of_ble_eq_true rfl)) dL_law__2478 ?_
    refine ug_aload_n 1 dL_law__2479 rfl rfl ?_
    refine ug_iload 5 dL_law__2480 rfl ?_
    refine ug_iconst dL_law__2482 un_iconst_2 ?_
    refine ug_iadd dL_law__2483 ?_
    refine ug_sld (hin 2 (Nat.le_of_ble_eq_true rfl)) dL_law__2484 ?_
    refine ug_callVL [.int b] [.int (ue_sx E (x4 + 1).toNatClampNeg), .int (ue_sx E (x4 + 2).toNatClampNeg)] (c_X8_closest e2) kc_L_252 ro_38 rfl (S := []) rfl rfl (Nat.le_of_ble_eq_true rfl) (Nat.le_of_ble_eq_true rfl) (Nat.le_of_ble_eq_true rfl) ⟨by omega, by omega⟩ dL_law__2485 ?_
    refine ug_istore [(6, .int b), (5, .int 2), (0, .ref (ue_sb E)), (1, .ref (ue_d E 0)), (2, .ref (ue_d E 38)), (3, .ref (ue_d E 63)), (4, .int x4)] dL_law__2488 (Nat.le_of_ble_eq_true rfl) rfl ?_
    refine ug_aload_n 4 dL_law__2490 rfl rfl ?_
    refine ug_callVL [.int (m2 38 0)] [] (c_X8_thrown rfl) kc_L_137 ro_38 rfl (S := []) rfl rfl (Nat.le_of_ble_eq_true rfl) (Nat.le_of_ble_eq_true rfl) (Nat.le_of_ble_eq_true rfl) ⟨by omega, by omega⟩ dL_law__2491 ?_
    refine ug_iload 1 dL_law__2494 rfl ?_
    refine ug_icmp_eq 2501 dL_law__2496 (by decide) (fun _ => ?_) (fun q => absurd e3 q)
    refine ug_iload 1 dL_law__2501 rfl ?_
    refine ug_if_ne 2518 dL_law__2503 (by decide) (fun _ => ?_) (fun q => absurd q (by decide))
    refine ug_goto 2807 dL_law__2518 (by decide) ?_
    refine ug_iinc (v := (x4 + 9)) [(4, .int (x4 + 9)), (6, .int b), (5, .int 2), (0, .ref (ue_sb E)), (1, .ref (ue_d E 0)), (2, .ref (ue_d E 38)), (3, .ref (ue_d E 63))] 6 dL_law__2807 rfl rfl (Nat.le_of_ble_eq_true rfl) rfl ?_
    refine ug_goto 23 dL_law__2810 (by decide) ?_
    refine ug_sub [(0, .ref (ue_sb E)), (1, .ref (ue_d E 0)), (2, .ref (ue_d E 38)), (3, .ref (ue_d E 63)), (4, .int (x4 + 9))] [3, 4, 5, 6, 0] rfl ?_
    exact ih
set_option maxRecDepth 20000 in
theorem law_afternoon {l : Launch} {E : Ue} (hx : ue_x E = [.inr (3, 1)]) {I : Um → Prop} (h : uop_afternoon I) {mc ms ce sl n : Nat} {x4 : Int32} (hin : ∀ q, q ≤ 8 → vp_in (x4 + nI q) (ue_sn E)) (ih : ∀ (m2 : Um) (ce sl : Nat), I m2 → ce + n ≤ mc → sl + 6 * n ≤ ms → ∃ m9, ug l E 2048 mc ms cL_law_ 8 RL (some .boolean) [] (.inl (some (.int 1), m9)) ce sl 23 [(0, .ref (ue_sb E)), (1, .ref (ue_d E 0)), (2, .ref (ue_d E 38)), (3, .ref (ue_d E 63)), (4, .int (x4 + 9))] [] m2) {mem : Um} (hI : I mem) (hc : ce + (n + 1) ≤ mc) (hs : sl + 6 * (n + 1) ≤ ms) : ∃ m9, ug l E 2048 mc ms cL_law_ 8 RL (some .boolean) [] (.inl (some (.int 1), m9)) ce sl 2521 [(0, .ref (ue_sb E)), (1, .ref (ue_d E 0)), (2, .ref (ue_d E 38)), (3, .ref (ue_d E 63)), (4, .int x4)] [] mem := by
  rcases h mem (ue_sx E (x4 + 1).toNatClampNeg) (ue_sx E (x4 + 2).toNatClampNeg) (ue_sx E (x4 + 3).toNatClampNeg) (ue_sx E (x4 + 4).toNatClampNeg) hI with ⟨m1, r, m2, e1, e2, e3, e4, hI⟩ | ⟨m1, m2, b, e1, e2, e3, hI⟩
  · obtain ⟨m9, ih⟩ := ih m2 (ce + 1) (sl + 6) hI (by omega) (by omega)
    refine ⟨m9, ?_⟩
    refine ug_aload_n 1 dL_law__2521 rfl rfl ?_
    refine ug_aload_n 0 dL_law__2522 rfl rfl ?_
    refine ug_iload 4 dL_law__2523 rfl ?_
    refine ug_iconst dL_law__2525 un_iconst_1 ?_
    refine ug_iadd dL_law__2526 ?_
    refine ug_sld (hin 1 (Nat.le_of_ble_eq_true rfl)) dL_law__2527 ?_
    refine ug_aload_n 0 dL_law__2528 rfl rfl ?_
    refine ug_iload 4 dL_law__2529 rfl ?_
    refine ug_iconst dL_law__2531 un_iconst_2 ?_
    refine ug_iadd dL_law__2532 ?_
    refine ug_sld (hin 2 (Nat.le_of_ble_eq_true rfl)) dL_law__2533 ?_
    refine ug_aload_n 0 dL_law__2534 rfl rfl ?_
    refine ug_iload 4 dL_law__2535 rfl ?_
    refine ug_iconst dL_law__2537 un_iconst_3 ?_
    refine ug_iadd dL_law__2538 ?_
    refine ug_sld (hin 3 (Nat.le_of_ble_eq_true rfl)) dL_law__2539 ?_
    refine ug_aload_n 0 dL_law__2540 rfl rfl ?_
    refine ug_iload 4 dL_law__2541 rfl ?_
    refine ug_iconst dL_law__2543 un_iconst_4 ?_
    refine ug_iadd dL_law__2544 ?_
    refine ug_sld (hin 4 (Nat.le_of_ble_eq_true rfl)) dL_law__2545 ?_
    refine ug_aload_n 3 dL_law__2546 rfl rfl ?_
    refine ug_callW [.ref (ue_d E 0), .int (ue_sx E (x4 + 1).toNatClampNeg), .int (ue_sx E (x4 + 2).toNatClampNeg), .int (ue_sx E (x4 + 3).toNatClampNeg), .int (ue_sx E (x4 + 4).toNatClampNeg), .ref (ue_d E 63)] (c_L_afternoon_r hx e1) kv_L_253 rfl (S := []) rfl (Nat.le_of_ble_eq_true rfl) (Nat.le_of_ble_eq_true rfl) (Nat.le_of_ble_eq_true rfl) ⟨by omega, by omega⟩ dL_law__2547 ?_
    refine ug_istore [(5, .int 0), (0, .ref (ue_sb E)), (1, .ref (ue_d E 0)), (2, .ref (ue_d E 38)), (3, .ref (ue_d E 63)), (4, .int x4)] dL_law__2550 (Nat.le_of_ble_eq_true rfl) rfl ?_
    refine ug_aload_n 3 dL_law__2552 rfl rfl ?_
    refine ug_aload_n 1 dL_law__2553 rfl rfl ?_
    refine ug_iload 5 dL_law__2554 rfl ?_
    refine ug_iconst dL_law__2556 un_iconst_1 ?_
    refine ug_iadd dL_law__2557 ?_
    refine ug_sld (hin 1 (Nat.le_of_ble_eq_true rfl)) dL_law__2558 ?_
    refine ug_aload_n 1 dL_law__2559 rfl rfl ?_
    refine ug_iload 5 dL_law__2560 rfl ?_
    refine ug_iconst dL_law__2562 un_iconst_2 ?_
    refine ug_iadd dL_law__2563 ?_
    refine ug_sld (hin 2 (Nat.le_of_ble_eq_true rfl)) dL_law__2564 ?_
    refine ug_aload_n 1 dL_law__2565 rfl rfl ?_
    refine ug_iload 5 dL_law__2566 rfl ?_
    refine ug_iconst dL_law__2568 un_iconst_3 ?_
    refine ug_iadd dL_law__2569 ?_
    refine ug_sld (hin 3 (Nat.le_of_ble_eq_true rfl)) dL_law__2570 ?_
    refine ug_aload_n 1 dL_law__2571 rfl rfl ?_
    refine ug_iload 5 dL_law__2572 rfl ?_
    refine ug_iconst dL_law__2574 un_iconst_4 ?_
    refine ug_iadd dL_law__2575 ?_
    refine ug_sld (hin 4 (Nat.le_of_ble_eq_true rfl)) dL_law__2576 ?_
    refine ug_callVL [.int r] [.int (ue_sx E (x4 + 1).toNatClampNeg), .int (ue_sx E (x4 + 2).toNatClampNeg), .int (ue_sx E (x4 + 3).toNatClampNeg), .int (ue_sx E (x4 + 4).toNatClampNeg)] (c_X8_afternoon e2) kc_L_256 ro_38 rfl (S := []) rfl rfl (Nat.le_of_ble_eq_true rfl) (Nat.le_of_ble_eq_true rfl) (Nat.le_of_ble_eq_true rfl) ⟨by omega, by omega⟩ dL_law__2577 ?_
    refine ug_istore [(6, .int r), (5, .int 0), (0, .ref (ue_sb E)), (1, .ref (ue_d E 0)), (2, .ref (ue_d E 38)), (3, .ref (ue_d E 63)), (4, .int x4)] dL_law__2580 (Nat.le_of_ble_eq_true rfl) rfl ?_
    refine ug_aload_n 4 dL_law__2582 rfl rfl ?_
    refine ug_callVL [.int (m2 38 0)] [] (c_X8_thrown rfl) kc_L_137 ro_38 rfl (S := []) rfl rfl (Nat.le_of_ble_eq_true rfl) (Nat.le_of_ble_eq_true rfl) (Nat.le_of_ble_eq_true rfl) ⟨by omega, by omega⟩ dL_law__2583 ?_
    refine ug_iload 1 dL_law__2586 rfl ?_
    refine ug_icmp_eq 2593 dL_law__2588 (by decide) (fun _ => ?_) (fun q => absurd e3 q)
    refine ug_iload 1 dL_law__2593 rfl ?_
    refine ug_if_ne 2610 dL_law__2595 (by decide) (fun q => absurd rfl q) (fun _ => ?_)
    refine ug_aload_n 5 dL_law__2598 rfl rfl ?_
    refine ug_iconst dL_law__2599 un_iconst_0 ?_
    refine ug_lald hx dL_law__2600 ?_
    refine ug_iload 0 dL_law__2601 rfl ?_
    refine ug_i2l dL_law__2603 ?_
    refine ug_lcmp dL_law__2604 ?_
    refine ug_if_eq 2610 dL_law__2605 (by decide) (fun _ => ?_) (fun q => absurd (ulaw_cmp e4) q)
    refine ug_goto 2807 dL_law__2610 (by decide) ?_
    refine ug_iinc (v := (x4 + 9)) [(4, .int (x4 + 9)), (6, .int r), (5, .int 0), (0, .ref (ue_sb E)), (1, .ref (ue_d E 0)), (2, .ref (ue_d E 38)), (3, .ref (ue_d E 63))] 6 dL_law__2807 rfl rfl (Nat.le_of_ble_eq_true rfl) rfl ?_
    refine ug_goto 23 dL_law__2810 (by decide) ?_
    refine ug_sub [(0, .ref (ue_sb E)), (1, .ref (ue_d E 0)), (2, .ref (ue_d E 38)), (3, .ref (ue_d E 63)), (4, .int (x4 + 9))] [3, 4, 5, 6, 0] rfl ?_
    exact ih
  · obtain ⟨m9, ih⟩ := ih m2 (ce + 1) (sl + 6) hI (by omega) (by omega)
    refine ⟨m9, ?_⟩
    refine ug_aload_n 1 dL_law__2521 rfl rfl ?_
    refine ug_aload_n 0 dL_law__2522 rfl rfl ?_
    refine ug_iload 4 dL_law__2523 rfl ?_
    refine ug_iconst dL_law__2525 un_iconst_1 ?_
    refine ug_iadd dL_law__2526 ?_
    refine ug_sld (hin 1 (Nat.le_of_ble_eq_true rfl)) dL_law__2527 ?_
    refine ug_aload_n 0 dL_law__2528 rfl rfl ?_
    refine ug_iload 4 dL_law__2529 rfl ?_
    refine ug_iconst dL_law__2531 un_iconst_2 ?_
    refine ug_iadd dL_law__2532 ?_
    refine ug_sld (hin 2 (Nat.le_of_ble_eq_true rfl)) dL_law__2533 ?_
    refine ug_aload_n 0 dL_law__2534 rfl rfl ?_
    refine ug_iload 4 dL_law__2535 rfl ?_
    refine ug_iconst dL_law__2537 un_iconst_3 ?_
    refine ug_iadd dL_law__2538 ?_
    refine ug_sld (hin 3 (Nat.le_of_ble_eq_true rfl)) dL_law__2539 ?_
    refine ug_aload_n 0 dL_law__2540 rfl rfl ?_
    refine ug_iload 4 dL_law__2541 rfl ?_
    refine ug_iconst dL_law__2543 un_iconst_4 ?_
    refine ug_iadd dL_law__2544 ?_
    refine ug_sld (hin 4 (Nat.le_of_ble_eq_true rfl)) dL_law__2545 ?_
    refine ug_aload_n 3 dL_law__2546 rfl rfl ?_
    refine ug_callW [.ref (ue_d E 0), .int (ue_sx E (x4 + 1).toNatClampNeg), .int (ue_sx E (x4 + 2).toNatClampNeg), .int (ue_sx E (x4 + 3).toNatClampNeg), .int (ue_sx E (x4 + 4).toNatClampNeg), .ref (ue_d E 63)] (c_L_afternoon_i e1) kv_L_253 rfl (S := []) rfl (Nat.le_of_ble_eq_true rfl) (Nat.le_of_ble_eq_true rfl) (Nat.le_of_ble_eq_true rfl) ⟨by omega, by omega⟩ dL_law__2547 ?_
    refine ug_istore [(5, .int 1), (0, .ref (ue_sb E)), (1, .ref (ue_d E 0)), (2, .ref (ue_d E 38)), (3, .ref (ue_d E 63)), (4, .int x4)] dL_law__2550 (Nat.le_of_ble_eq_true rfl) rfl ?_
    refine ug_aload_n 3 dL_law__2552 rfl rfl ?_
    refine ug_aload_n 1 dL_law__2553 rfl rfl ?_
    refine ug_iload 5 dL_law__2554 rfl ?_
    refine ug_iconst dL_law__2556 un_iconst_1 ?_
    refine ug_iadd dL_law__2557 ?_
    refine ug_sld (hin 1 (Nat.le_of_ble_eq_true rfl)) dL_law__2558 ?_
    refine ug_aload_n 1 dL_law__2559 rfl rfl ?_
    refine ug_iload 5 dL_law__2560 rfl ?_
    refine ug_iconst dL_law__2562 un_iconst_2 ?_
    refine ug_iadd dL_law__2563 ?_
    refine ug_sld (hin 2 (Nat.le_of_ble_eq_true rfl)) dL_law__2564 ?_
    refine ug_aload_n 1 dL_law__2565 rfl rfl ?_
    refine ug_iload 5 dL_law__2566 rfl ?_
    refine ug_iconst dL_law__2568 un_iconst_3 ?_
    refine ug_iadd dL_law__2569 ?_
    refine ug_sld (hin 3 (Nat.le_of_ble_eq_true rfl)) dL_law__2570 ?_
    refine ug_aload_n 1 dL_law__2571 rfl rfl ?_
    refine ug_iload 5 dL_law__2572 rfl ?_
    refine ug_iconst dL_law__2574 un_iconst_4 ?_
    refine ug_iadd dL_law__2575 ?_
    refine ug_sld (hin 4 (Nat.le_of_ble_eq_true rfl)) dL_law__2576 ?_
    refine ug_callVL [.int b] [.int (ue_sx E (x4 + 1).toNatClampNeg), .int (ue_sx E (x4 + 2).toNatClampNeg), .int (ue_sx E (x4 + 3).toNatClampNeg), .int (ue_sx E (x4 + 4).toNatClampNeg)] (c_X8_afternoon e2) kc_L_256 ro_38 rfl (S := []) rfl rfl (Nat.le_of_ble_eq_true rfl) (Nat.le_of_ble_eq_true rfl) (Nat.le_of_ble_eq_true rfl) ⟨by omega, by omega⟩ dL_law__2577 ?_
    refine ug_istore [(6, .int b), (5, .int 1), (0, .ref (ue_sb E)), (1, .ref (ue_d E 0)), (2, .ref (ue_d E 38)), (3, .ref (ue_d E 63)), (4, .int x4)] dL_law__2580 (Nat.le_of_ble_eq_true rfl) rfl ?_
    refine ug_aload_n 4 dL_law__2582 rfl rfl ?_
    refine ug_callVL [.int (m2 38 0)] [] (c_X8_thrown rfl) kc_L_137 ro_38 rfl (S := []) rfl rfl (Nat.le_of_ble_eq_true rfl) (Nat.le_of_ble_eq_true rfl) (Nat.le_of_ble_eq_true rfl) ⟨by omega, by omega⟩ dL_law__2583 ?_
    refine ug_iload 1 dL_law__2586 rfl ?_
    refine ug_icmp_eq 2593 dL_law__2588 (by decide) (fun _ => ?_) (fun q => absurd e3 q)
    refine ug_iload 1 dL_law__2593 rfl ?_
    refine ug_if_ne 2610 dL_law__2595 (by decide) (fun _ => ?_) (fun q => absurd q (by decide))
    refine ug_goto 2807 dL_law__2610 (by decide) ?_
    refine ug_iinc (v := (x4 + 9)) [(4, .int (x4 + 9)), (6, .int b), (5, .int 1), (0, .ref (ue_sb E)), (1, .ref (ue_d E 0)), (2, .ref (ue_d E 38)), (3, .ref (ue_d E 63))] 6 dL_law__2807 rfl rfl (Nat.le_of_ble_eq_true rfl) rfl ?_
    refine ug_goto 23 dL_law__2810 (by decide) ?_
    refine ug_sub [(0, .ref (ue_sb E)), (1, .ref (ue_d E 0)), (2, .ref (ue_d E 38)), (3, .ref (ue_d E 63)), (4, .int (x4 + 9))] [3, 4, 5, 6, 0] rfl ?_
    exact ih
set_option maxRecDepth 20000 in
theorem law_span {l : Launch} {E : Ue} (hx : ue_x E = [.inr (3, 1)]) {I : Um → Prop} (h : uop_span I) {mc ms ce sl n : Nat} {x4 : Int32} (hin : ∀ q, q ≤ 8 → vp_in (x4 + nI q) (ue_sn E)) (ih : ∀ (m2 : Um) (ce sl : Nat), I m2 → ce + n ≤ mc → sl + 6 * n ≤ ms → ∃ m9, ug l E 2048 mc ms cL_law_ 8 RL (some .boolean) [] (.inl (some (.int 1), m9)) ce sl 23 [(0, .ref (ue_sb E)), (1, .ref (ue_d E 0)), (2, .ref (ue_d E 38)), (3, .ref (ue_d E 63)), (4, .int (x4 + 9))] [] m2) {mem : Um} (hI : I mem) (hc : ce + (n + 1) ≤ mc) (hs : sl + 6 * (n + 1) ≤ ms) : ∃ m9, ug l E 2048 mc ms cL_law_ 8 RL (some .boolean) [] (.inl (some (.int 1), m9)) ce sl 2613 [(0, .ref (ue_sb E)), (1, .ref (ue_d E 0)), (2, .ref (ue_d E 38)), (3, .ref (ue_d E 63)), (4, .int x4)] [] mem := by
  rcases h mem (ue_sx E (x4 + 1).toNatClampNeg) (ue_sx E (x4 + 2).toNatClampNeg) (ue_sx E (x4 + 3).toNatClampNeg) (ue_sx E (x4 + 4).toNatClampNeg) (ue_sx E (x4 + 5).toNatClampNeg) (ue_sx E (x4 + 6).toNatClampNeg) hI with ⟨m1, r, m2, e1, e2, e3, e4, hI⟩ | ⟨m1, m2, b, e1, e2, e3, hI⟩
  · obtain ⟨m9, ih⟩ := ih m2 (ce + 1) (sl + 6) hI (by omega) (by omega)
    refine ⟨m9, ?_⟩
    refine ug_aload_n 1 dL_law__2613 rfl rfl ?_
    refine ug_aload_n 0 dL_law__2614 rfl rfl ?_
    refine ug_iload 4 dL_law__2615 rfl ?_
    refine ug_iconst dL_law__2617 un_iconst_1 ?_
    refine ug_iadd dL_law__2618 ?_
    refine ug_sld (hin 1 (Nat.le_of_ble_eq_true rfl)) dL_law__2619 ?_
    refine ug_aload_n 0 dL_law__2620 rfl rfl ?_
    refine ug_iload 4 dL_law__2621 rfl ?_
    refine ug_iconst dL_law__2623 un_iconst_2 ?_
    refine ug_iadd dL_law__2624 ?_
    refine ug_sld (hin 2 (Nat.le_of_ble_eq_true rfl)) dL_law__2625 ?_
    refine ug_aload_n 0 dL_law__2626 rfl rfl ?_
    refine ug_iload 4 dL_law__2627 rfl ?_
    refine ug_iconst dL_law__2629 un_iconst_3 ?_
    refine ug_iadd dL_law__2630 ?_
    refine ug_sld (hin 3 (Nat.le_of_ble_eq_true rfl)) dL_law__2631 ?_
    refine ug_aload_n 0 dL_law__2632 rfl rfl ?_
    refine ug_iload 4 dL_law__2633 rfl ?_
    refine ug_iconst dL_law__2635 un_iconst_4 ?_
    refine ug_iadd dL_law__2636 ?_
    refine ug_sld (hin 4 (Nat.le_of_ble_eq_true rfl)) dL_law__2637 ?_
    refine ug_aload_n 0 dL_law__2638 rfl rfl ?_
    refine ug_iload 4 dL_law__2639 rfl ?_
    refine ug_iconst dL_law__2641 un_iconst_5 ?_
    refine ug_iadd dL_law__2642 ?_
    refine ug_sld (hin 5 (Nat.le_of_ble_eq_true rfl)) dL_law__2643 ?_
    refine ug_aload_n 0 dL_law__2644 rfl rfl ?_
    refine ug_iload 4 dL_law__2645 rfl ?_
    refine ug_bipush dL_law__2647 (v := 6) (by decide) ?_
    refine ug_iadd dL_law__2649 ?_
    refine ug_sld (hin 6 (Nat.le_of_ble_eq_true rfl)) dL_law__2650 ?_
    refine ug_aload_n 3 dL_law__2651 rfl rfl ?_
    refine ug_callW [.ref (ue_d E 0), .int (ue_sx E (x4 + 1).toNatClampNeg), .int (ue_sx E (x4 + 2).toNatClampNeg), .int (ue_sx E (x4 + 3).toNatClampNeg), .int (ue_sx E (x4 + 4).toNatClampNeg), .int (ue_sx E (x4 + 5).toNatClampNeg), .int (ue_sx E (x4 + 6).toNatClampNeg), .ref (ue_d E 63)] (c_L_span_r hx e1) kv_L_257 rfl (S := []) rfl (Nat.le_of_ble_eq_true rfl) (Nat.le_of_ble_eq_true rfl) (Nat.le_of_ble_eq_true rfl) ⟨by omega, by omega⟩ dL_law__2652 ?_
    refine ug_istore [(5, .int 0), (0, .ref (ue_sb E)), (1, .ref (ue_d E 0)), (2, .ref (ue_d E 38)), (3, .ref (ue_d E 63)), (4, .int x4)] dL_law__2655 (Nat.le_of_ble_eq_true rfl) rfl ?_
    refine ug_aload_n 3 dL_law__2657 rfl rfl ?_
    refine ug_aload_n 1 dL_law__2658 rfl rfl ?_
    refine ug_iload 5 dL_law__2659 rfl ?_
    refine ug_iconst dL_law__2661 un_iconst_1 ?_
    refine ug_iadd dL_law__2662 ?_
    refine ug_sld (hin 1 (Nat.le_of_ble_eq_true rfl)) dL_law__2663 ?_
    refine ug_aload_n 1 dL_law__2664 rfl rfl ?_
    refine ug_iload 5 dL_law__2665 rfl ?_
    refine ug_iconst dL_law__2667 un_iconst_2 ?_
    refine ug_iadd dL_law__2668 ?_
    refine ug_sld (hin 2 (Nat.le_of_ble_eq_true rfl)) dL_law__2669 ?_
    refine ug_aload_n 1 dL_law__2670 rfl rfl ?_
    refine ug_iload 5 dL_law__2671 rfl ?_
    refine ug_iconst dL_law__2673 un_iconst_3 ?_
    refine ug_iadd dL_law__2674 ?_
    refine ug_sld (hin 3 (Nat.le_of_ble_eq_true rfl)) dL_law__2675 ?_
    refine ug_aload_n 1 dL_law__2676 rfl rfl ?_
    refine ug_iload 5 dL_law__2677 rfl ?_
    refine ug_iconst dL_law__2679 un_iconst_4 ?_
    refine ug_iadd dL_law__2680 ?_
    refine ug_sld (hin 4 (Nat.le_of_ble_eq_true rfl)) dL_law__2681 ?_
    refine ug_aload_n 1 dL_law__2682 rfl rfl ?_
    refine ug_iload 5 dL_law__2683 rfl ?_
    refine ug_iconst dL_law__2685 un_iconst_5 ?_
    refine ug_iadd dL_law__2686 ?_
    refine ug_sld (hin 5 (Nat.le_of_ble_eq_true rfl)) dL_law__2687 ?_
    refine ug_aload_n 1 dL_law__2688 rfl rfl ?_
    refine ug_iload 5 dL_law__2689 rfl ?_
    refine ug_bipush dL_law__2691 (v := 6) (by decide) ?_
    refine ug_iadd dL_law__2693 ?_
    refine ug_sld (hin 6 (Nat.le_of_ble_eq_true rfl)) dL_law__2694 ?_
    refine ug_callVL [.int r] [.int (ue_sx E (x4 + 1).toNatClampNeg), .int (ue_sx E (x4 + 2).toNatClampNeg), .int (ue_sx E (x4 + 3).toNatClampNeg), .int (ue_sx E (x4 + 4).toNatClampNeg), .int (ue_sx E (x4 + 5).toNatClampNeg), .int (ue_sx E (x4 + 6).toNatClampNeg)] (c_X8_span e2) kc_L_260 ro_38 rfl (S := []) rfl rfl (Nat.le_of_ble_eq_true rfl) (Nat.le_of_ble_eq_true rfl) (Nat.le_of_ble_eq_true rfl) ⟨by omega, by omega⟩ dL_law__2695 ?_
    refine ug_istore [(6, .int r), (5, .int 0), (0, .ref (ue_sb E)), (1, .ref (ue_d E 0)), (2, .ref (ue_d E 38)), (3, .ref (ue_d E 63)), (4, .int x4)] dL_law__2698 (Nat.le_of_ble_eq_true rfl) rfl ?_
    refine ug_aload_n 4 dL_law__2700 rfl rfl ?_
    refine ug_callVL [.int (m2 38 0)] [] (c_X8_thrown rfl) kc_L_137 ro_38 rfl (S := []) rfl rfl (Nat.le_of_ble_eq_true rfl) (Nat.le_of_ble_eq_true rfl) (Nat.le_of_ble_eq_true rfl) ⟨by omega, by omega⟩ dL_law__2701 ?_
    refine ug_iload 1 dL_law__2704 rfl ?_
    refine ug_icmp_eq 2711 dL_law__2706 (by decide) (fun _ => ?_) (fun q => absurd e3 q)
    refine ug_iload 1 dL_law__2711 rfl ?_
    refine ug_if_ne 2728 dL_law__2713 (by decide) (fun q => absurd rfl q) (fun _ => ?_)
    refine ug_aload_n 5 dL_law__2716 rfl rfl ?_
    refine ug_iconst dL_law__2717 un_iconst_0 ?_
    refine ug_lald hx dL_law__2718 ?_
    refine ug_iload 0 dL_law__2719 rfl ?_
    refine ug_i2l dL_law__2721 ?_
    refine ug_lcmp dL_law__2722 ?_
    refine ug_if_eq 2728 dL_law__2723 (by decide) (fun _ => ?_) (fun q => absurd (ulaw_cmp e4) q)
    refine ug_goto 2807 dL_law__2728 (by decide) ?_
    refine ug_iinc (v := (x4 + 9)) [(4, .int (x4 + 9)), (6, .int r), (5, .int 0), (0, .ref (ue_sb E)), (1, .ref (ue_d E 0)), (2, .ref (ue_d E 38)), (3, .ref (ue_d E 63))] 6 dL_law__2807 rfl rfl (Nat.le_of_ble_eq_true rfl) rfl ?_
    refine ug_goto 23 dL_law__2810 (by decide) ?_
    refine ug_sub [(0, .ref (ue_sb E)), (1, .ref (ue_d E 0)), (2, .ref (ue_d E 38)), (3, .ref (ue_d E 63)), (4, .int (x4 + 9))] [3, 4, 5, 6, 0] rfl ?_
    exact ih
  · obtain ⟨m9, ih⟩ := ih m2 (ce + 1) (sl + 6) hI (by omega) (by omega)
    refine ⟨m9, ?_⟩
    refine ug_aload_n 1 dL_law__2613 rfl rfl ?_
    refine ug_aload_n 0 dL_law__2614 rfl rfl ?_
    refine ug_iload 4 dL_law__2615 rfl ?_
    refine ug_iconst dL_law__2617 un_iconst_1 ?_
    refine ug_iadd dL_law__2618 ?_
    refine ug_sld (hin 1 (Nat.le_of_ble_eq_true rfl)) dL_law__2619 ?_
    refine ug_aload_n 0 dL_law__2620 rfl rfl ?_
    refine ug_iload 4 dL_law__2621 rfl ?_
    refine ug_iconst dL_law__2623 un_iconst_2 ?_
    refine ug_iadd dL_law__2624 ?_
    refine ug_sld (hin 2 (Nat.le_of_ble_eq_true rfl)) dL_law__2625 ?_
    refine ug_aload_n 0 dL_law__2626 rfl rfl ?_
    refine ug_iload 4 dL_law__2627 rfl ?_
    refine ug_iconst dL_law__2629 un_iconst_3 ?_
    refine ug_iadd dL_law__2630 ?_
    refine ug_sld (hin 3 (Nat.le_of_ble_eq_true rfl)) dL_law__2631 ?_
    refine ug_aload_n 0 dL_law__2632 rfl rfl ?_
    refine ug_iload 4 dL_law__2633 rfl ?_
    refine ug_iconst dL_law__2635 un_iconst_4 ?_
    refine ug_iadd dL_law__2636 ?_
    refine ug_sld (hin 4 (Nat.le_of_ble_eq_true rfl)) dL_law__2637 ?_
    refine ug_aload_n 0 dL_law__2638 rfl rfl ?_
    refine ug_iload 4 dL_law__2639 rfl ?_
    refine ug_iconst dL_law__2641 un_iconst_5 ?_
    refine ug_iadd dL_law__2642 ?_
    refine ug_sld (hin 5 (Nat.le_of_ble_eq_true rfl)) dL_law__2643 ?_
    refine ug_aload_n 0 dL_law__2644 rfl rfl ?_
    refine ug_iload 4 dL_law__2645 rfl ?_
    refine ug_bipush dL_law__2647 (v := 6) (by decide) ?_
    refine ug_iadd dL_law__2649 ?_
    refine ug_sld (hin 6 (Nat.le_of_ble_eq_true rfl)) dL_law__2650 ?_
    refine ug_aload_n 3 dL_law__2651 rfl rfl ?_
    refine ug_callW [.ref (ue_d E 0), .int (ue_sx E (x4 + 1).toNatClampNeg), .int (ue_sx E (x4 + 2).toNatClampNeg), .int (ue_sx E (x4 + 3).toNatClampNeg), .int (ue_sx E (x4 + 4).toNatClampNeg), .int (ue_sx E (x4 + 5).toNatClampNeg), .int (ue_sx E (x4 + 6).toNatClampNeg), .ref (ue_d E 63)] (c_L_span_i e1) kv_L_257 rfl (S := []) rfl (Nat.le_of_ble_eq_true rfl) (Nat.le_of_ble_eq_true rfl) (Nat.le_of_ble_eq_true rfl) ⟨by omega, by omega⟩ dL_law__2652 ?_
    refine ug_istore [(5, .int 1), (0, .ref (ue_sb E)), (1, .ref (ue_d E 0)), (2, .ref (ue_d E 38)), (3, .ref (ue_d E 63)), (4, .int x4)] dL_law__2655 (Nat.le_of_ble_eq_true rfl) rfl ?_
    refine ug_aload_n 3 dL_law__2657 rfl rfl ?_
    refine ug_aload_n 1 dL_law__2658 rfl rfl ?_
    refine ug_iload 5 dL_law__2659 rfl ?_
    refine ug_iconst dL_law__2661 un_iconst_1 ?_
    refine ug_iadd dL_law__2662 ?_
    refine ug_sld (hin 1 (Nat.le_of_ble_eq_true rfl)) dL_law__2663 ?_
    refine ug_aload_n 1 dL_law__2664 rfl rfl ?_
    refine ug_iload 5 dL_law__2665 rfl ?_
    refine ug_iconst dL_law__2667 un_iconst_2 ?_
    refine ug_iadd dL_law__2668 ?_
    refine ug_sld (hin 2 (Nat.le_of_ble_eq_true rfl)) dL_law__2669 ?_
    refine ug_aload_n 1 dL_law__2670 rfl rfl ?_
    refine ug_iload 5 dL_law__2671 rfl ?_
    refine ug_iconst dL_law__2673 un_iconst_3 ?_
    refine ug_iadd dL_law__2674 ?_
    refine ug_sld (hin 3 (Nat.le_of_ble_eq_true rfl)) dL_law__2675 ?_
    refine ug_aload_n 1 dL_law__2676 rfl rfl ?_
    refine ug_iload 5 dL_law__2677 rfl ?_
    refine ug_iconst dL_law__2679 un_iconst_4 ?_
    refine ug_iadd dL_law__2680 ?_
    refine ug_sld (hin 4 (Nat.le_of_ble_eq_true rfl)) dL_law__2681 ?_
    refine ug_aload_n 1 dL_law__2682 rfl rfl ?_
    refine ug_iload 5 dL_law__2683 rfl ?_
    refine ug_iconst dL_law__2685 un_iconst_5 ?_
    refine ug_iadd dL_law__2686 ?_
    refine ug_sld (hin 5 (Nat.le_of_ble_eq_true rfl)) dL_law__2687 ?_
    refine ug_aload_n 1 dL_law__2688 rfl rfl ?_
    refine ug_iload 5 dL_law__2689 rfl ?_
    refine ug_bipush dL_law__2691 (v := 6) (by decide) ?_
    refine ug_iadd dL_law__2693 ?_
    refine ug_sld (hin 6 (Nat.le_of_ble_eq_true rfl)) dL_law__2694 ?_
    refine ug_callVL [.int b] [.int (ue_sx E (x4 + 1).toNatClampNeg), .int (ue_sx E (x4 + 2).toNatClampNeg), .int (ue_sx E (x4 + 3).toNatClampNeg), .int (ue_sx E (x4 + 4).toNatClampNeg), .int (ue_sx E (x4 + 5).toNatClampNeg), .int (ue_sx E (x4 + 6).toNatClampNeg)] (c_X8_span e2) kc_L_260 ro_38 rfl (S := []) rfl rfl (Nat.le_of_ble_eq_true rfl) (Nat.le_of_ble_eq_true rfl) (Nat.le_of_ble_eq_true rfl) ⟨by omega, by omega⟩ dL_law__2695 ?_
    refine ug_istore [(6, .int b), (5, .int 1), (0, .ref (ue_sb E)), (1, .ref (ue_d E 0)), (2, .ref (ue_d E 38)), (3, .ref (ue_d E 63)), (4, .int x4)] dL_law__2698 (Nat.le_of_ble_eq_true rfl) rfl ?_
    refine ug_aload_n 4 dL_law__2700 rfl rfl ?_
    refine ug_callVL [.int (m2 38 0)] [] (c_X8_thrown rfl) kc_L_137 ro_38 rfl (S := []) rfl rfl (Nat.le_of_ble_eq_true rfl) (Nat.le_of_ble_eq_true rfl) (Nat.le_of_ble_eq_true rfl) ⟨by omega, by omega⟩ dL_law__2701 ?_
    refine ug_iload 1 dL_law__2704 rfl ?_
    refine ug_icmp_eq 2711 dL_law__2706 (by decide) (fun _ => ?_) (fun q => absurd e3 q)
    refine ug_iload 1 dL_law__2711 rfl ?_
    refine ug_if_ne 2728 dL_law__2713 (by decide) (fun _ => ?_) (fun q => absurd q (by decide))
    refine ug_goto 2807 dL_law__2728 (by decide) ?_
    refine ug_iinc (v := (x4 + 9)) [(4, .int (x4 + 9)), (6, .int b), (5, .int 1), (0, .ref (ue_sb E)), (1, .ref (ue_d E 0)), (2, .ref (ue_d E 38)), (3, .ref (ue_d E 63))] 6 dL_law__2807 rfl rfl (Nat.le_of_ble_eq_true rfl) rfl ?_
    refine ug_goto 23 dL_law__2810 (by decide) ?_
    refine ug_sub [(0, .ref (ue_sb E)), (1, .ref (ue_d E 0)), (2, .ref (ue_d E 38)), (3, .ref (ue_d E 63)), (4, .int (x4 + 9))] [3, 4, 5, 6, 0] rfl ?_
    exact ih
set_option maxRecDepth 20000 in
theorem law_image {l : Launch} {E : Ue} (hx : ue_x E = [.inr (3, 1)]) {I : Um → Prop} (h : uop_image I) {mc ms ce sl n : Nat} {x4 : Int32} (hin : ∀ q, q ≤ 8 → vp_in (x4 + nI q) (ue_sn E)) (ih : ∀ (m2 : Um) (ce sl : Nat), I m2 → ce + n ≤ mc → sl + 6 * n ≤ ms → ∃ m9, ug l E 2048 mc ms cL_law_ 8 RL (some .boolean) [] (.inl (some (.int 1), m9)) ce sl 23 [(0, .ref (ue_sb E)), (1, .ref (ue_d E 0)), (2, .ref (ue_d E 38)), (3, .ref (ue_d E 63)), (4, .int (x4 + 9))] [] m2) {mem : Um} (hI : I mem) (hc : ce + (n + 1) ≤ mc) (hs : sl + 6 * (n + 1) ≤ ms) : ∃ m9, ug l E 2048 mc ms cL_law_ 8 RL (some .boolean) [] (.inl (some (.int 1), m9)) ce sl 2731 [(0, .ref (ue_sb E)), (1, .ref (ue_d E 0)), (2, .ref (ue_d E 38)), (3, .ref (ue_d E 63)), (4, .int x4)] [] mem := by
  obtain ⟨m1, r, m2, e1, e2, hI⟩ := h mem  hI
  obtain ⟨m9, ih⟩ := ih m2 ce sl hI (by omega) (by omega)
  refine ⟨m9, ?_⟩
  refine ug_aload_n 1 dL_law__2731 rfl rfl ?_
  refine ug_callVL [.int r] [] (c_X7_image e1) kc_L_261 ro_0 rfl (S := []) rfl rfl (Nat.le_of_ble_eq_true rfl) (Nat.le_of_ble_eq_true rfl) (Nat.le_of_ble_eq_true rfl) ⟨by omega, by omega⟩ dL_law__2732 ?_
  refine ug_aload_n 2 dL_law__2735 rfl rfl ?_
  refine ug_callVL [.int r, .int r] [] (c_X8_image e2) kc_L_264 ro_38 rfl (S := [.int r]) rfl rfl (Nat.le_of_ble_eq_true rfl) (Nat.le_of_ble_eq_true rfl) (Nat.le_of_ble_eq_true rfl) ⟨by omega, by omega⟩ dL_law__2736 ?_
  refine ug_icmp_eq 2807 dL_law__2739 (by decide) (fun _ => ?_) (fun q => absurd rfl q)
  refine ug_iinc (v := (x4 + 9)) [(4, .int (x4 + 9)), (0, .ref (ue_sb E)), (1, .ref (ue_d E 0)), (2, .ref (ue_d E 38)), (3, .ref (ue_d E 63))] 4 dL_law__2807 rfl rfl (Nat.le_of_ble_eq_true rfl) rfl ?_
  refine ug_goto 23 dL_law__2810 (by decide) ?_
  refine ug_sub [(0, .ref (ue_sb E)), (1, .ref (ue_d E 0)), (2, .ref (ue_d E 38)), (3, .ref (ue_d E 63)), (4, .int (x4 + 9))] [1, 2, 3, 4, 0] rfl ?_
  exact ih
set_option maxRecDepth 20000 in
theorem law_restore {l : Launch} {E : Ue} (hx : ue_x E = [.inr (3, 1)]) {I : Um → Prop} (h : uop_restore I) {mc ms ce sl n : Nat} {x4 : Int32} (hin : ∀ q, q ≤ 8 → vp_in (x4 + nI q) (ue_sn E)) (ih : ∀ (m2 : Um) (ce sl : Nat), I m2 → ce + n ≤ mc → sl + 6 * n ≤ ms → ∃ m9, ug l E 2048 mc ms cL_law_ 8 RL (some .boolean) [] (.inl (some (.int 1), m9)) ce sl 23 [(0, .ref (ue_sb E)), (1, .ref (ue_d E 0)), (2, .ref (ue_d E 38)), (3, .ref (ue_d E 63)), (4, .int (x4 + 9))] [] m2) {mem : Um} (hI : I mem) (hc : ce + (n + 1) ≤ mc) (hs : sl + 6 * (n + 1) ≤ ms) : ∃ m9, ug l E 2048 mc ms cL_law_ 8 RL (some .boolean) [] (.inl (some (.int 1), m9)) ce sl 2744 [(0, .ref (ue_sb E)), (1, .ref (ue_d E 0)), (2, .ref (ue_d E 38)), (3, .ref (ue_d E 63)), (4, .int x4)] [] mem := by
  obtain ⟨m1, r, m2, e1, e2, hI⟩ := h mem  hI
  obtain ⟨m9, ih⟩ := ih m2 ce sl hI (by omega) (by omega)
  refine ⟨m9, ?_⟩
  refine ug_aload_n 1 dL_law__2744 rfl rfl ?_
  refine ug_callVL [.int r] [] (c_X7_restore e1) kc_L_265 ro_0 rfl (S := []) rfl rfl (Nat.le_of_ble_eq_true rfl) (Nat.le_of_ble_eq_true rfl) (Nat.le_of_ble_eq_true rfl) ⟨by omega, by omega⟩ dL_law__2745 ?_
  refine ug_aload_n 2 dL_law__2748 rfl rfl ?_
  refine ug_callVL [.int r, .int r] [] (c_X8_restore e2) kc_L_268 ro_38 rfl (S := [.int r]) rfl rfl (Nat.le_of_ble_eq_true rfl) (Nat.le_of_ble_eq_true rfl) (Nat.le_of_ble_eq_true rfl) ⟨by omega, by omega⟩ dL_law__2749 ?_
  refine ug_icmp_eq 2807 dL_law__2752 (by decide) (fun _ => ?_) (fun q => absurd rfl q)
  refine ug_iinc (v := (x4 + 9)) [(4, .int (x4 + 9)), (0, .ref (ue_sb E)), (1, .ref (ue_d E 0)), (2, .ref (ue_d E 38)), (3, .ref (ue_d E 63))] 4 dL_law__2807 rfl rfl (Nat.le_of_ble_eq_true rfl) rfl ?_
  refine ug_goto 23 dL_law__2810 (by decide) ?_
  refine ug_sub [(0, .ref (ue_sb E)), (1, .ref (ue_d E 0)), (2, .ref (ue_d E 38)), (3, .ref (ue_d E 63)), (4, .int (x4 + 9))] [1, 2, 3, 4, 0] rfl ?_
  exact ih
set_option maxRecDepth 20000 in
theorem law_status {l : Launch} {E : Ue} (hx : ue_x E = [.inr (3, 1)]) {I : Um → Prop} (h : uop_status I) {mc ms ce sl n : Nat} {x4 : Int32} (hin : ∀ q, q ≤ 8 → vp_in (x4 + nI q) (ue_sn E)) (ih : ∀ (m2 : Um) (ce sl : Nat), I m2 → ce + n ≤ mc → sl + 6 * n ≤ ms → ∃ m9, ug l E 2048 mc ms cL_law_ 8 RL (some .boolean) [] (.inl (some (.int 1), m9)) ce sl 23 [(0, .ref (ue_sb E)), (1, .ref (ue_d E 0)), (2, .ref (ue_d E 38)), (3, .ref (ue_d E 63)), (4, .int (x4 + 9))] [] m2) {mem : Um} (hI : I mem) (hc : ce + (n + 1) ≤ mc) (hs : sl + 6 * (n + 1) ≤ ms) : ∃ m9, ug l E 2048 mc ms cL_law_ 8 RL (some .boolean) [] (.inl (some (.int 1), m9)) ce sl 2757 [(0, .ref (ue_sb E)), (1, .ref (ue_d E 0)), (2, .ref (ue_d E 38)), (3, .ref (ue_d E 63)), (4, .int x4)] [] mem := by
  obtain ⟨m1, r, m2, e1, e2, hI⟩ := h mem (ue_sx E (x4 + 1).toNatClampNeg) hI
  obtain ⟨m9, ih⟩ := ih m2 ce sl hI (by omega) (by omega)
  refine ⟨m9, ?_⟩
  refine ug_aload_n 1 dL_law__2757 rfl rfl ?_
  refine ug_aload_n 0 dL_law__2758 rfl rfl ?_
  refine ug_iload 4 dL_law__2759 rfl ?_
  refine ug_iconst dL_law__2761 un_iconst_1 ?_
  refine ug_iadd dL_law__2762 ?_
  refine ug_sld (hin 1 (Nat.le_of_ble_eq_true rfl)) dL_law__2763 ?_
  refine ug_callVL [.int r] [.int (ue_sx E (x4 + 1).toNatClampNeg)] (c_X7_status e1) kc_L_269 ro_0 rfl (S := []) rfl rfl (Nat.le_of_ble_eq_true rfl) (Nat.le_of_ble_eq_true rfl) (Nat.le_of_ble_eq_true rfl) ⟨by omega, by omega⟩ dL_law__2764 ?_
  refine ug_aload_n 2 dL_law__2767 rfl rfl ?_
  refine ug_aload_n 0 dL_law__2768 rfl rfl ?_
  refine ug_iload 4 dL_law__2769 rfl ?_
  refine ug_iconst dL_law__2771 un_iconst_1 ?_
  refine ug_iadd dL_law__2772 ?_
  refine ug_sld (hin 1 (Nat.le_of_ble_eq_true rfl)) dL_law__2773 ?_
  refine ug_callVL [.int r, .int r] [.int (ue_sx E (x4 + 1).toNatClampNeg)] (c_X8_status e2) kc_L_272 ro_38 rfl (S := [.int r]) rfl rfl (Nat.le_of_ble_eq_true rfl) (Nat.le_of_ble_eq_true rfl) (Nat.le_of_ble_eq_true rfl) ⟨by omega, by omega⟩ dL_law__2774 ?_
  refine ug_icmp_eq 2807 dL_law__2777 (by decide) (fun _ => ?_) (fun q => absurd rfl q)
  refine ug_iinc (v := (x4 + 9)) [(4, .int (x4 + 9)), (0, .ref (ue_sb E)), (1, .ref (ue_d E 0)), (2, .ref (ue_d E 38)), (3, .ref (ue_d E 63))] 4 dL_law__2807 rfl rfl (Nat.le_of_ble_eq_true rfl) rfl ?_
  refine ug_goto 23 dL_law__2810 (by decide) ?_
  refine ug_sub [(0, .ref (ue_sb E)), (1, .ref (ue_d E 0)), (2, .ref (ue_d E 38)), (3, .ref (ue_d E 63)), (4, .int (x4 + 9))] [1, 2, 3, 4, 0] rfl ?_
  exact ih
set_option maxRecDepth 20000 in
theorem law_count {l : Launch} {E : Ue} (hx : ue_x E = [.inr (3, 1)]) {I : Um → Prop} (h : uop_count I) {mc ms ce sl n : Nat} {x4 : Int32} (hin : ∀ q, q ≤ 8 → vp_in (x4 + nI q) (ue_sn E)) (ih : ∀ (m2 : Um) (ce sl : Nat), I m2 → ce + n ≤ mc → sl + 6 * n ≤ ms → ∃ m9, ug l E 2048 mc ms cL_law_ 8 RL (some .boolean) [] (.inl (some (.int 1), m9)) ce sl 23 [(0, .ref (ue_sb E)), (1, .ref (ue_d E 0)), (2, .ref (ue_d E 38)), (3, .ref (ue_d E 63)), (4, .int (x4 + 9))] [] m2) {mem : Um} (hI : I mem) (hc : ce + (n + 1) ≤ mc) (hs : sl + 6 * (n + 1) ≤ ms) : ∃ m9, ug l E 2048 mc ms cL_law_ 8 RL (some .boolean) [] (.inl (some (.int 1), m9)) ce sl 2782 [(0, .ref (ue_sb E)), (1, .ref (ue_d E 0)), (2, .ref (ue_d E 38)), (3, .ref (ue_d E 63)), (4, .int x4)] [] mem := by
  obtain ⟨m1, r, m2, e1, e2, hI⟩ := h mem (ue_sx E (x4 + 1).toNatClampNeg) hI
  obtain ⟨m9, ih⟩ := ih m2 ce sl hI (by omega) (by omega)
  refine ⟨m9, ?_⟩
  refine ug_aload_n 1 dL_law__2782 rfl rfl ?_
  refine ug_aload_n 0 dL_law__2783 rfl rfl ?_
  refine ug_iload 4 dL_law__2784 rfl ?_
  refine ug_iconst dL_law__2786 un_iconst_1 ?_
  refine ug_iadd dL_law__2787 ?_
  refine ug_sld (hin 1 (Nat.le_of_ble_eq_true rfl)) dL_law__2788 ?_
  refine ug_callVL [.int r] [.int (ue_sx E (x4 + 1).toNatClampNeg)] (c_X7_count e1) kc_L_273 ro_0 rfl (S := []) rfl rfl (Nat.le_of_ble_eq_true rfl) (Nat.le_of_ble_eq_true rfl) (Nat.le_of_ble_eq_true rfl) ⟨by omega, by omega⟩ dL_law__2789 ?_
  refine ug_aload_n 2 dL_law__2792 rfl rfl ?_
  refine ug_aload_n 0 dL_law__2793 rfl rfl ?_
  refine ug_iload 4 dL_law__2794 rfl ?_
  refine ug_iconst dL_law__2796 un_iconst_1 ?_
  refine ug_iadd dL_law__2797 ?_
  refine ug_sld (hin 1 (Nat.le_of_ble_eq_true rfl)) dL_law__2798 ?_
  refine ug_callVL [.int r, .int r] [.int (ue_sx E (x4 + 1).toNatClampNeg)] (c_X8_count e2) kc_L_276 ro_38 rfl (S := [.int r]) rfl rfl (Nat.le_of_ble_eq_true rfl) (Nat.le_of_ble_eq_true rfl) (Nat.le_of_ble_eq_true rfl) ⟨by omega, by omega⟩ dL_law__2799 ?_
  refine ug_icmp_eq 2807 dL_law__2802 (by decide) (fun _ => ?_) (fun q => absurd rfl q)
  refine ug_iinc (v := (x4 + 9)) [(4, .int (x4 + 9)), (0, .ref (ue_sb E)), (1, .ref (ue_d E 0)), (2, .ref (ue_d E 38)), (3, .ref (ue_d E 63))] 4 dL_law__2807 rfl rfl (Nat.le_of_ble_eq_true rfl) rfl ?_
  refine ug_goto 23 dL_law__2810 (by decide) ?_
  refine ug_sub [(0, .ref (ue_sb E)), (1, .ref (ue_d E 0)), (2, .ref (ue_d E 38)), (3, .ref (ue_d E 63)), (4, .int (x4 + 9))] [1, 2, 3, 4, 0] rfl ?_
  exact ih
