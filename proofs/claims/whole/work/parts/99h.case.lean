/-! printed by wip/whole/tools/gen99h.py -/
theorem q332 : Cond.methodLink "CustomsShedLaw" 180 yX6_lotCount ∈ lw_tbl := List.mem_of_getElem? (i := 332) (by decide +kernel)
theorem q336 : Cond.methodLink "CustomsShedLaw" 227 yX6_stepCount ∈ lw_tbl := List.mem_of_getElem? (i := 336) (by decide +kernel)
theorem q340 : Cond.methodLink "CustomsShedLaw" 246 yX6_totalDuty ∈ lw_tbl := List.mem_of_getElem? (i := 340) (by decide +kernel)
theorem q366 : Cond.methodLink "CustomsShedLaw" 250 yX6_totalDutyByBays ∈ lw_tbl := List.mem_of_getElem? (i := 366) (by decide +kernel)
theorem q378 : Cond.methodLink "CustomsShedLaw" 257 yX6_day ∈ lw_tbl := List.mem_of_getElem? (i := 378) (by decide +kernel)
theorem q382 : Cond.methodLink "CustomsShedLaw" 261 yX6_dampCount ∈ lw_tbl := List.mem_of_getElem? (i := 382) (by decide +kernel)
theorem q390 : Cond.methodLink "CustomsShedLaw" 268 yX6_dampReach ∈ lw_tbl := List.mem_of_getElem? (i := 390) (by decide +kernel)
theorem q412 : Cond.methodLink "CustomsShedLaw" 272 yX6_dampReachByStretches ∈ lw_tbl := List.mem_of_getElem? (i := 412) (by decide +kernel)
theorem q421 : Cond.methodLink "CustomsShedLaw" 276 yX6_destroyedCount ∈ lw_tbl := List.mem_of_getElem? (i := 421) (by decide +kernel)
theorem q425 : Cond.methodLink "CustomsShedLaw" 287 yX6_queueLength ∈ lw_tbl := List.mem_of_getElem? (i := 425) (by decide +kernel)
theorem q429 : Cond.methodLink "CustomsShedLaw" 300 yX6_bond ∈ lw_tbl := List.mem_of_getElem? (i := 429) (by decide +kernel)
theorem q433 : Cond.methodLink "CustomsShedLaw" 304 yX6_collected ∈ lw_tbl := List.mem_of_getElem? (i := 433) (by decide +kernel)
theorem q437 : Cond.methodLink "CustomsShedLaw" 308 yX6_mostReleases ∈ lw_tbl := List.mem_of_getElem? (i := 437) (by decide +kernel)
theorem q449 : Cond.methodLink "CustomsShedLaw" 322 yX6_writeBays ∈ lw_tbl := List.mem_of_getElem? (i := 449) (by decide +kernel)
theorem q823 : Cond.methodLink "CustomsShedLaw" 329 yX6_isConsistent ∈ lw_tbl := List.mem_of_getElem? (i := 823) (by decide +kernel)
theorem q835 : Cond.methodLink "CustomsShedLaw" 349 yX6_undoCount ∈ lw_tbl := List.mem_of_getElem? (i := 835) (by decide +kernel)
theorem q839 : Cond.methodLink "CustomsShedLaw" 353 yX6_save ∈ lw_tbl := List.mem_of_getElem? (i := 839) (by decide +kernel)
theorem q1614 : Cond.methodLink "CustomsShedLaw" 163 yX7_thrown ∈ lw_tbl := List.mem_of_getElem? (i := 1614) (by decide +kernel)
theorem q1618 : Cond.methodLink "CustomsShedLaw" 162 yX7_addLot ∈ lw_tbl := List.mem_of_getElem? (i := 1618) (by decide +kernel)
theorem q1667 : Cond.methodLink "CustomsShedLaw" 169 yX7_seal ∈ lw_tbl := List.mem_of_getElem? (i := 1667) (by decide +kernel)
theorem q1683 : Cond.methodLink "CustomsShedLaw" 172 yX7_open ∈ lw_tbl := List.mem_of_getElem? (i := 1683) (by decide +kernel)
theorem q1691 : Cond.methodLink "CustomsShedLaw" 175 yX7_wet ∈ lw_tbl := List.mem_of_getElem? (i := 1691) (by decide +kernel)
theorem q1699 : Cond.methodLink "CustomsShedLaw" 179 yX7_move ∈ lw_tbl := List.mem_of_getElem? (i := 1699) (by decide +kernel)
theorem q1707 : Cond.methodLink "CustomsShedLaw" 183 yX7_lotCount ∈ lw_tbl := List.mem_of_getElem? (i := 1707) (by decide +kernel)
theorem q1711 : Cond.methodLink "CustomsShedLaw" 186 yX7_lot ∈ lw_tbl := List.mem_of_getElem? (i := 1711) (by decide +kernel)
theorem q1715 : Cond.methodLink "CustomsShedLaw" 189 yX7_kind ∈ lw_tbl := List.mem_of_getElem? (i := 1715) (by decide +kernel)
theorem q1723 : Cond.methodLink "CustomsShedLaw" 192 yX7_quantity ∈ lw_tbl := List.mem_of_getElem? (i := 1723) (by decide +kernel)
theorem q1727 : Cond.methodLink "CustomsShedLaw" 195 yX7_price ∈ lw_tbl := List.mem_of_getElem? (i := 1727) (by decide +kernel)
theorem q1731 : Cond.methodLink "CustomsShedLaw" 198 yX7_value ∈ lw_tbl := List.mem_of_getElem? (i := 1731) (by decide +kernel)
theorem q1735 : Cond.methodLink "CustomsShedLaw" 201 yX7_bay ∈ lw_tbl := List.mem_of_getElem? (i := 1735) (by decide +kernel)
theorem q1739 : Cond.methodLink "CustomsShedLaw" 204 yX7_isSealed ∈ lw_tbl := List.mem_of_getElem? (i := 1739) (by decide +kernel)
theorem q1743 : Cond.methodLink "CustomsShedLaw" 207 yX7_isDamp ∈ lw_tbl := List.mem_of_getElem? (i := 1743) (by decide +kernel)
theorem q1747 : Cond.methodLink "CustomsShedLaw" 210 yX7_lotAt ∈ lw_tbl := List.mem_of_getElem? (i := 1747) (by decide +kernel)
theorem q1751 : Cond.methodLink "CustomsShedLaw" 213 yX7_nextEmptyBay ∈ lw_tbl := List.mem_of_getElem? (i := 1751) (by decide +kernel)
theorem q1755 : Cond.methodLink "CustomsShedLaw" 217 yX7_quantityOfKind ∈ lw_tbl := List.mem_of_getElem? (i := 1755) (by decide +kernel)
theorem q1759 : Cond.methodLink "CustomsShedLaw" 220 yX7_lotByValue ∈ lw_tbl := List.mem_of_getElem? (i := 1759) (by decide +kernel)
theorem q1767 : Cond.methodLink "CustomsShedLaw" 223 yX7_addStep ∈ lw_tbl := List.mem_of_getElem? (i := 1767) (by decide +kernel)
theorem q1775 : Cond.methodLink "CustomsShedLaw" 226 yX7_removeStep ∈ lw_tbl := List.mem_of_getElem? (i := 1775) (by decide +kernel)
theorem q1783 : Cond.methodLink "CustomsShedLaw" 230 yX7_stepCount ∈ lw_tbl := List.mem_of_getElem? (i := 1783) (by decide +kernel)
theorem q1787 : Cond.methodLink "CustomsShedLaw" 233 yX7_threshold ∈ lw_tbl := List.mem_of_getElem? (i := 1787) (by decide +kernel)
theorem q1791 : Cond.methodLink "CustomsShedLaw" 236 yX7_rate ∈ lw_tbl := List.mem_of_getElem? (i := 1791) (by decide +kernel)
theorem q1795 : Cond.methodLink "CustomsShedLaw" 239 yX7_dutyOn ∈ lw_tbl := List.mem_of_getElem? (i := 1795) (by decide +kernel)
theorem q1803 : Cond.methodLink "CustomsShedLaw" 242 yX7_dutyOnByCoins ∈ lw_tbl := List.mem_of_getElem? (i := 1803) (by decide +kernel)
theorem q1808 : Cond.methodLink "CustomsShedLaw" 245 yX7_duty ∈ lw_tbl := List.mem_of_getElem? (i := 1808) (by decide +kernel)
theorem q1816 : Cond.methodLink "CustomsShedLaw" 249 yX7_totalDuty ∈ lw_tbl := List.mem_of_getElem? (i := 1816) (by decide +kernel)
theorem q1820 : Cond.methodLink "CustomsShedLaw" 253 yX7_totalDutyByBays ∈ lw_tbl := List.mem_of_getElem? (i := 1820) (by decide +kernel)
theorem q1825 : Cond.methodLink "CustomsShedLaw" 256 yX7_passDays ∈ lw_tbl := List.mem_of_getElem? (i := 1825) (by decide +kernel)
theorem q1849 : Cond.methodLink "CustomsShedLaw" 260 yX7_day ∈ lw_tbl := List.mem_of_getElem? (i := 1849) (by decide +kernel)
theorem q1853 : Cond.methodLink "CustomsShedLaw" 264 yX7_dampCount ∈ lw_tbl := List.mem_of_getElem? (i := 1853) (by decide +kernel)
theorem q1857 : Cond.methodLink "CustomsShedLaw" 267 yX7_dampAfter ∈ lw_tbl := List.mem_of_getElem? (i := 1857) (by decide +kernel)
theorem q1861 : Cond.methodLink "CustomsShedLaw" 271 yX7_dampReach ∈ lw_tbl := List.mem_of_getElem? (i := 1861) (by decide +kernel)
theorem q1865 : Cond.methodLink "CustomsShedLaw" 275 yX7_dampReachByStretches ∈ lw_tbl := List.mem_of_getElem? (i := 1865) (by decide +kernel)
theorem q1870 : Cond.methodLink "CustomsShedLaw" 279 yX7_destroyedCount ∈ lw_tbl := List.mem_of_getElem? (i := 1870) (by decide +kernel)
theorem q1874 : Cond.methodLink "CustomsShedLaw" 282 yX7_enqueue ∈ lw_tbl := List.mem_of_getElem? (i := 1874) (by decide +kernel)
theorem q1882 : Cond.methodLink "CustomsShedLaw" 286 yX7_audit ∈ lw_tbl := List.mem_of_getElem? (i := 1882) (by decide +kernel)
theorem q1890 : Cond.methodLink "CustomsShedLaw" 290 yX7_queueLength ∈ lw_tbl := List.mem_of_getElem? (i := 1890) (by decide +kernel)
theorem q1894 : Cond.methodLink "CustomsShedLaw" 293 yX7_queued ∈ lw_tbl := List.mem_of_getElem? (i := 1894) (by decide +kernel)
theorem q1898 : Cond.methodLink "CustomsShedLaw" 296 yX7_deposit ∈ lw_tbl := List.mem_of_getElem? (i := 1898) (by decide +kernel)
theorem q1906 : Cond.methodLink "CustomsShedLaw" 299 yX7_release ∈ lw_tbl := List.mem_of_getElem? (i := 1906) (by decide +kernel)
theorem q1914 : Cond.methodLink "CustomsShedLaw" 303 yX7_bond ∈ lw_tbl := List.mem_of_getElem? (i := 1914) (by decide +kernel)
theorem q1918 : Cond.methodLink "CustomsShedLaw" 307 yX7_collected ∈ lw_tbl := List.mem_of_getElem? (i := 1918) (by decide +kernel)
theorem q1922 : Cond.methodLink "CustomsShedLaw" 311 yX7_mostReleases ∈ lw_tbl := List.mem_of_getElem? (i := 1922) (by decide +kernel)
theorem q1934 : Cond.methodLink "CustomsShedLaw" 321 yX7_writeLot ∈ lw_tbl := List.mem_of_getElem? (i := 1934) (by decide +kernel)
theorem q1946 : Cond.methodLink "CustomsShedLaw" 325 yX7_writeBays ∈ lw_tbl := List.mem_of_getElem? (i := 1946) (by decide +kernel)
theorem q1950 : Cond.methodLink "CustomsShedLaw" 328 yX7_outputCharacter ∈ lw_tbl := List.mem_of_getElem? (i := 1950) (by decide +kernel)
theorem q1954 : Cond.methodLink "CustomsShedLaw" 333 yX7_isConsistent ∈ lw_tbl := List.mem_of_getElem? (i := 1954) (by decide +kernel)
theorem q1958 : Cond.methodLink "CustomsShedLaw" 336 yX7_feed ∈ lw_tbl := List.mem_of_getElem? (i := 1958) (by decide +kernel)
theorem q1962 : Cond.methodLink "CustomsShedLaw" 339 yX7_execute ∈ lw_tbl := List.mem_of_getElem? (i := 1962) (by decide +kernel)
theorem q2014 : Cond.methodLink "CustomsShedLaw" 342 yX7_errorPosition ∈ lw_tbl := List.mem_of_getElem? (i := 2014) (by decide +kernel)
theorem q2018 : Cond.methodLink "CustomsShedLaw" 345 yX7_failedCommand ∈ lw_tbl := List.mem_of_getElem? (i := 2018) (by decide +kernel)
theorem q2022 : Cond.methodLink "CustomsShedLaw" 348 yX7_undo ∈ lw_tbl := List.mem_of_getElem? (i := 2022) (by decide +kernel)
theorem q2026 : Cond.methodLink "CustomsShedLaw" 352 yX7_undoCount ∈ lw_tbl := List.mem_of_getElem? (i := 2026) (by decide +kernel)
theorem q2030 : Cond.methodLink "CustomsShedLaw" 356 yX7_save ∈ lw_tbl := List.mem_of_getElem? (i := 2030) (by decide +kernel)
theorem q2034 : Cond.methodLink "CustomsShedLaw" 359 yX7_restore ∈ lw_tbl := List.mem_of_getElem? (i := 2034) (by decide +kernel)
theorem m_X7_addLot : YM yX7_addLot cX7_addLot 5 (some (.int)) 4 := ⟨⟨List.mem_of_getElem? (i := 1621) (by decide +kernel), by decide +kernel⟩, List.mem_of_getElem? (i := 66) (by decide +kernel), ⟨by decide, by decide⟩, by decide +kernel⟩
theorem v_X7_addLot : YV yX7_addLot := ⟨(List.mem_of_getElem? (i := 1619) (by decide +kernel)), List.mem_of_getElem? (i := 1620) (by decide +kernel)⟩
theorem m_X7_thrown : YM yX7_thrown cX7_thrown 1 (some (.int)) 0 := ⟨⟨List.mem_of_getElem? (i := 1617) (by decide +kernel), by decide +kernel⟩, List.mem_of_getElem? (i := 66) (by decide +kernel), ⟨by decide, by decide⟩, by decide +kernel⟩
theorem v_X7_thrown : YV yX7_thrown := ⟨(List.mem_of_getElem? (i := 1615) (by decide +kernel)), List.mem_of_getElem? (i := 1616) (by decide +kernel)⟩
theorem m_X7_seal : YM yX7_seal cX7_seal 2 (some (.int)) 1 := ⟨⟨List.mem_of_getElem? (i := 1670) (by decide +kernel), by decide +kernel⟩, List.mem_of_getElem? (i := 66) (by decide +kernel), ⟨by decide, by decide⟩, by decide +kernel⟩
theorem v_X7_seal : YV yX7_seal := ⟨(List.mem_of_getElem? (i := 1668) (by decide +kernel)), List.mem_of_getElem? (i := 1669) (by decide +kernel)⟩
theorem m_X7_open : YM yX7_open cX7_open 2 (some (.int)) 1 := ⟨⟨List.mem_of_getElem? (i := 1686) (by decide +kernel), by decide +kernel⟩, List.mem_of_getElem? (i := 66) (by decide +kernel), ⟨by decide, by decide⟩, by decide +kernel⟩
theorem v_X7_open : YV yX7_open := ⟨(List.mem_of_getElem? (i := 1684) (by decide +kernel)), List.mem_of_getElem? (i := 1685) (by decide +kernel)⟩
theorem m_X7_wet : YM yX7_wet cX7_wet 2 (some (.int)) 1 := ⟨⟨List.mem_of_getElem? (i := 1694) (by decide +kernel), by decide +kernel⟩, List.mem_of_getElem? (i := 66) (by decide +kernel), ⟨by decide, by decide⟩, by decide +kernel⟩
theorem v_X7_wet : YV yX7_wet := ⟨(List.mem_of_getElem? (i := 1692) (by decide +kernel)), List.mem_of_getElem? (i := 1693) (by decide +kernel)⟩
theorem m_X7_move : YM yX7_move cX7_move 3 (some (.int)) 2 := ⟨⟨List.mem_of_getElem? (i := 1702) (by decide +kernel), by decide +kernel⟩, List.mem_of_getElem? (i := 66) (by decide +kernel), ⟨by decide, by decide⟩, by decide +kernel⟩
theorem v_X7_move : YV yX7_move := ⟨(List.mem_of_getElem? (i := 1700) (by decide +kernel)), List.mem_of_getElem? (i := 1701) (by decide +kernel)⟩
theorem m_X6_lotCount : YM yX6_lotCount cX6_lotCount 1 (some (.int)) 0 := ⟨⟨List.mem_of_getElem? (i := 335) (by decide +kernel), by decide +kernel⟩, List.mem_of_getElem? (i := 55) (by decide +kernel), ⟨by decide, by decide⟩, by decide +kernel⟩
theorem v_X6_lotCount : YV yX6_lotCount := ⟨(List.mem_of_getElem? (i := 333) (by decide +kernel)), List.mem_of_getElem? (i := 334) (by decide +kernel)⟩
theorem m_X7_lotCount : YM yX7_lotCount cX7_lotCount 1 (some (.int)) 0 := ⟨⟨List.mem_of_getElem? (i := 1710) (by decide +kernel), by decide +kernel⟩, List.mem_of_getElem? (i := 66) (by decide +kernel), ⟨by decide, by decide⟩, by decide +kernel⟩
theorem v_X7_lotCount : YV yX7_lotCount := ⟨(List.mem_of_getElem? (i := 1708) (by decide +kernel)), List.mem_of_getElem? (i := 1709) (by decide +kernel)⟩
theorem m_X7_lot : YM yX7_lot cX7_lot 2 (some (.int)) 1 := ⟨⟨List.mem_of_getElem? (i := 1714) (by decide +kernel), by decide +kernel⟩, List.mem_of_getElem? (i := 66) (by decide +kernel), ⟨by decide, by decide⟩, by decide +kernel⟩
theorem v_X7_lot : YV yX7_lot := ⟨(List.mem_of_getElem? (i := 1712) (by decide +kernel)), List.mem_of_getElem? (i := 1713) (by decide +kernel)⟩
theorem m_X7_kind : YM yX7_kind cX7_kind 2 (some (.char)) 1 := ⟨⟨List.mem_of_getElem? (i := 1718) (by decide +kernel), by decide +kernel⟩, List.mem_of_getElem? (i := 66) (by decide +kernel), ⟨by decide, by decide⟩, by decide +kernel⟩
theorem v_X7_kind : YV yX7_kind := ⟨(List.mem_of_getElem? (i := 1716) (by decide +kernel)), List.mem_of_getElem? (i := 1717) (by decide +kernel)⟩
theorem m_X7_quantity : YM yX7_quantity cX7_quantity 2 (some (.int)) 1 := ⟨⟨List.mem_of_getElem? (i := 1726) (by decide +kernel), by decide +kernel⟩, List.mem_of_getElem? (i := 66) (by decide +kernel), ⟨by decide, by decide⟩, by decide +kernel⟩
theorem v_X7_quantity : YV yX7_quantity := ⟨(List.mem_of_getElem? (i := 1724) (by decide +kernel)), List.mem_of_getElem? (i := 1725) (by decide +kernel)⟩
theorem m_X7_price : YM yX7_price cX7_price 2 (some (.int)) 1 := ⟨⟨List.mem_of_getElem? (i := 1730) (by decide +kernel), by decide +kernel⟩, List.mem_of_getElem? (i := 66) (by decide +kernel), ⟨by decide, by decide⟩, by decide +kernel⟩
theorem v_X7_price : YV yX7_price := ⟨(List.mem_of_getElem? (i := 1728) (by decide +kernel)), List.mem_of_getElem? (i := 1729) (by decide +kernel)⟩
theorem m_X7_value : YM yX7_value cX7_value 2 (some (.int)) 1 := ⟨⟨List.mem_of_getElem? (i := 1734) (by decide +kernel), by decide +kernel⟩, List.mem_of_getElem? (i := 66) (by decide +kernel), ⟨by decide, by decide⟩, by decide +kernel⟩
theorem v_X7_value : YV yX7_value := ⟨(List.mem_of_getElem? (i := 1732) (by decide +kernel)), List.mem_of_getElem? (i := 1733) (by decide +kernel)⟩
theorem m_X7_bay : YM yX7_bay cX7_bay 2 (some (.int)) 1 := ⟨⟨List.mem_of_getElem? (i := 1738) (by decide +kernel), by decide +kernel⟩, List.mem_of_getElem? (i := 66) (by decide +kernel), ⟨by decide, by decide⟩, by decide +kernel⟩
theorem v_X7_bay : YV yX7_bay := ⟨(List.mem_of_getElem? (i := 1736) (by decide +kernel)), List.mem_of_getElem? (i := 1737) (by decide +kernel)⟩
theorem m_X7_isSealed : YM yX7_isSealed cX7_isSealed 2 (some (.boolean)) 1 := ⟨⟨List.mem_of_getElem? (i := 1742) (by decide +kernel), by decide +kernel⟩, List.mem_of_getElem? (i := 66) (by decide +kernel), ⟨by decide, by decide⟩, by decide +kernel⟩
theorem v_X7_isSealed : YV yX7_isSealed := ⟨(List.mem_of_getElem? (i := 1740) (by decide +kernel)), List.mem_of_getElem? (i := 1741) (by decide +kernel)⟩
theorem m_X7_isDamp : YM yX7_isDamp cX7_isDamp 2 (some (.boolean)) 1 := ⟨⟨List.mem_of_getElem? (i := 1746) (by decide +kernel), by decide +kernel⟩, List.mem_of_getElem? (i := 66) (by decide +kernel), ⟨by decide, by decide⟩, by decide +kernel⟩
theorem v_X7_isDamp : YV yX7_isDamp := ⟨(List.mem_of_getElem? (i := 1744) (by decide +kernel)), List.mem_of_getElem? (i := 1745) (by decide +kernel)⟩
theorem m_X7_lotAt : YM yX7_lotAt cX7_lotAt 2 (some (.int)) 1 := ⟨⟨List.mem_of_getElem? (i := 1750) (by decide +kernel), by decide +kernel⟩, List.mem_of_getElem? (i := 66) (by decide +kernel), ⟨by decide, by decide⟩, by decide +kernel⟩
theorem v_X7_lotAt : YV yX7_lotAt := ⟨(List.mem_of_getElem? (i := 1748) (by decide +kernel)), List.mem_of_getElem? (i := 1749) (by decide +kernel)⟩
theorem m_X7_nextEmptyBay : YM yX7_nextEmptyBay cX7_nextEmptyBay 3 (some (.int)) 1 := ⟨⟨List.mem_of_getElem? (i := 1754) (by decide +kernel), by decide +kernel⟩, List.mem_of_getElem? (i := 66) (by decide +kernel), ⟨by decide, by decide⟩, by decide +kernel⟩
theorem v_X7_nextEmptyBay : YV yX7_nextEmptyBay := ⟨(List.mem_of_getElem? (i := 1752) (by decide +kernel)), List.mem_of_getElem? (i := 1753) (by decide +kernel)⟩
theorem m_X7_quantityOfKind : YM yX7_quantityOfKind cX7_quantityOfKind 4 (some (.int)) 1 := ⟨⟨List.mem_of_getElem? (i := 1758) (by decide +kernel), by decide +kernel⟩, List.mem_of_getElem? (i := 66) (by decide +kernel), ⟨by decide, by decide⟩, by decide +kernel⟩
theorem v_X7_quantityOfKind : YV yX7_quantityOfKind := ⟨(List.mem_of_getElem? (i := 1756) (by decide +kernel)), List.mem_of_getElem? (i := 1757) (by decide +kernel)⟩
theorem m_X7_lotByValue : YM yX7_lotByValue cX7_lotByValue 5 (some (.int)) 1 := ⟨⟨List.mem_of_getElem? (i := 1762) (by decide +kernel), by decide +kernel⟩, List.mem_of_getElem? (i := 66) (by decide +kernel), ⟨by decide, by decide⟩, by decide +kernel⟩
theorem v_X7_lotByValue : YV yX7_lotByValue := ⟨(List.mem_of_getElem? (i := 1760) (by decide +kernel)), List.mem_of_getElem? (i := 1761) (by decide +kernel)⟩
theorem m_X7_addStep : YM yX7_addStep cX7_addStep 3 (some (.int)) 2 := ⟨⟨List.mem_of_getElem? (i := 1770) (by decide +kernel), by decide +kernel⟩, List.mem_of_getElem? (i := 66) (by decide +kernel), ⟨by decide, by decide⟩, by decide +kernel⟩
theorem v_X7_addStep : YV yX7_addStep := ⟨(List.mem_of_getElem? (i := 1768) (by decide +kernel)), List.mem_of_getElem? (i := 1769) (by decide +kernel)⟩
theorem m_X7_removeStep : YM yX7_removeStep cX7_removeStep 2 (some (.int)) 1 := ⟨⟨List.mem_of_getElem? (i := 1778) (by decide +kernel), by decide +kernel⟩, List.mem_of_getElem? (i := 66) (by decide +kernel), ⟨by decide, by decide⟩, by decide +kernel⟩
theorem v_X7_removeStep : YV yX7_removeStep := ⟨(List.mem_of_getElem? (i := 1776) (by decide +kernel)), List.mem_of_getElem? (i := 1777) (by decide +kernel)⟩
theorem m_X6_stepCount : YM yX6_stepCount cX6_stepCount 1 (some (.int)) 0 := ⟨⟨List.mem_of_getElem? (i := 339) (by decide +kernel), by decide +kernel⟩, List.mem_of_getElem? (i := 55) (by decide +kernel), ⟨by decide, by decide⟩, by decide +kernel⟩
theorem v_X6_stepCount : YV yX6_stepCount := ⟨(List.mem_of_getElem? (i := 337) (by decide +kernel)), List.mem_of_getElem? (i := 338) (by decide +kernel)⟩
theorem m_X7_stepCount : YM yX7_stepCount cX7_stepCount 1 (some (.int)) 0 := ⟨⟨List.mem_of_getElem? (i := 1786) (by decide +kernel), by decide +kernel⟩, List.mem_of_getElem? (i := 66) (by decide +kernel), ⟨by decide, by decide⟩, by decide +kernel⟩
theorem v_X7_stepCount : YV yX7_stepCount := ⟨(List.mem_of_getElem? (i := 1784) (by decide +kernel)), List.mem_of_getElem? (i := 1785) (by decide +kernel)⟩
theorem m_X7_threshold : YM yX7_threshold cX7_threshold 2 (some (.int)) 1 := ⟨⟨List.mem_of_getElem? (i := 1790) (by decide +kernel), by decide +kernel⟩, List.mem_of_getElem? (i := 66) (by decide +kernel), ⟨by decide, by decide⟩, by decide +kernel⟩
theorem v_X7_threshold : YV yX7_threshold := ⟨(List.mem_of_getElem? (i := 1788) (by decide +kernel)), List.mem_of_getElem? (i := 1789) (by decide +kernel)⟩
theorem m_X7_rate : YM yX7_rate cX7_rate 2 (some (.int)) 1 := ⟨⟨List.mem_of_getElem? (i := 1794) (by decide +kernel), by decide +kernel⟩, List.mem_of_getElem? (i := 66) (by decide +kernel), ⟨by decide, by decide⟩, by decide +kernel⟩
theorem v_X7_rate : YV yX7_rate := ⟨(List.mem_of_getElem? (i := 1792) (by decide +kernel)), List.mem_of_getElem? (i := 1793) (by decide +kernel)⟩
theorem m_X7_dutyOnByCoins : YM yX7_dutyOnByCoins cX7_dutyOnByCoins 2 (some (.int)) 1 := ⟨⟨List.mem_of_getElem? (i := 1806) (by decide +kernel), by decide +kernel⟩, List.mem_of_getElem? (i := 66) (by decide +kernel), ⟨by decide, by decide⟩, by decide +kernel⟩
theorem v_X7_dutyOnByCoins : YV yX7_dutyOnByCoins := ⟨(List.mem_of_getElem? (i := 1804) (by decide +kernel)), List.mem_of_getElem? (i := 1805) (by decide +kernel)⟩
theorem m_X7_duty : YM yX7_duty cX7_duty 3 (some (.int)) 1 := ⟨⟨List.mem_of_getElem? (i := 1811) (by decide +kernel), by decide +kernel⟩, List.mem_of_getElem? (i := 66) (by decide +kernel), ⟨by decide, by decide⟩, by decide +kernel⟩
theorem v_X7_duty : YV yX7_duty := ⟨(List.mem_of_getElem? (i := 1809) (by decide +kernel)), List.mem_of_getElem? (i := 1810) (by decide +kernel)⟩
theorem m_X6_totalDuty : YM yX6_totalDuty cX6_totalDuty 1 (some (.int)) 0 := ⟨⟨List.mem_of_getElem? (i := 343) (by decide +kernel), by decide +kernel⟩, List.mem_of_getElem? (i := 55) (by decide +kernel), ⟨by decide, by decide⟩, by decide +kernel⟩
theorem v_X6_totalDuty : YV yX6_totalDuty := ⟨(List.mem_of_getElem? (i := 341) (by decide +kernel)), List.mem_of_getElem? (i := 342) (by decide +kernel)⟩
theorem m_X6_totalDutyByBays : YM yX6_totalDutyByBays cX6_totalDutyByBays 1 (some (.int)) 0 := ⟨⟨List.mem_of_getElem? (i := 369) (by decide +kernel), by decide +kernel⟩, List.mem_of_getElem? (i := 55) (by decide +kernel), ⟨by decide, by decide⟩, by decide +kernel⟩
theorem v_X6_totalDutyByBays : YV yX6_totalDutyByBays := ⟨(List.mem_of_getElem? (i := 367) (by decide +kernel)), List.mem_of_getElem? (i := 368) (by decide +kernel)⟩
theorem m_X7_totalDutyByBays : YM yX7_totalDutyByBays cX7_totalDutyByBays 1 (some (.int)) 0 := ⟨⟨List.mem_of_getElem? (i := 1823) (by decide +kernel), by decide +kernel⟩, List.mem_of_getElem? (i := 66) (by decide +kernel), ⟨by decide, by decide⟩, by decide +kernel⟩
theorem v_X7_totalDutyByBays : YV yX7_totalDutyByBays := ⟨(List.mem_of_getElem? (i := 1821) (by decide +kernel)), List.mem_of_getElem? (i := 1822) (by decide +kernel)⟩
theorem m_X7_passDays : YM yX7_passDays cX7_passDays 2 (some (.int)) 1 := ⟨⟨List.mem_of_getElem? (i := 1828) (by decide +kernel), by decide +kernel⟩, List.mem_of_getElem? (i := 66) (by decide +kernel), ⟨by decide, by decide⟩, by decide +kernel⟩
theorem v_X7_passDays : YV yX7_passDays := ⟨(List.mem_of_getElem? (i := 1826) (by decide +kernel)), List.mem_of_getElem? (i := 1827) (by decide +kernel)⟩
theorem m_X6_day : YM yX6_day cX6_day 1 (some (.int)) 0 := ⟨⟨List.mem_of_getElem? (i := 381) (by decide +kernel), by decide +kernel⟩, List.mem_of_getElem? (i := 55) (by decide +kernel), ⟨by decide, by decide⟩, by decide +kernel⟩
theorem v_X6_day : YV yX6_day := ⟨(List.mem_of_getElem? (i := 379) (by decide +kernel)), List.mem_of_getElem? (i := 380) (by decide +kernel)⟩
theorem m_X7_day : YM yX7_day cX7_day 1 (some (.int)) 0 := ⟨⟨List.mem_of_getElem? (i := 1852) (by decide +kernel), by decide +kernel⟩, List.mem_of_getElem? (i := 66) (by decide +kernel), ⟨by decide, by decide⟩, by decide +kernel⟩
theorem v_X7_day : YV yX7_day := ⟨(List.mem_of_getElem? (i := 1850) (by decide +kernel)), List.mem_of_getElem? (i := 1851) (by decide +kernel)⟩
theorem m_X6_dampCount : YM yX6_dampCount cX6_dampCount 1 (some (.int)) 0 := ⟨⟨List.mem_of_getElem? (i := 385) (by decide +kernel), by decide +kernel⟩, List.mem_of_getElem? (i := 55) (by decide +kernel), ⟨by decide, by decide⟩, by decide +kernel⟩
theorem v_X6_dampCount : YV yX6_dampCount := ⟨(List.mem_of_getElem? (i := 383) (by decide +kernel)), List.mem_of_getElem? (i := 384) (by decide +kernel)⟩
theorem m_X7_dampCount : YM yX7_dampCount cX7_dampCount 1 (some (.int)) 0 := ⟨⟨List.mem_of_getElem? (i := 1856) (by decide +kernel), by decide +kernel⟩, List.mem_of_getElem? (i := 66) (by decide +kernel), ⟨by decide, by decide⟩, by decide +kernel⟩
theorem v_X7_dampCount : YV yX7_dampCount := ⟨(List.mem_of_getElem? (i := 1854) (by decide +kernel)), List.mem_of_getElem? (i := 1855) (by decide +kernel)⟩
theorem m_X7_dampAfter : YM yX7_dampAfter cX7_dampAfter 5 (some (.int)) 1 := ⟨⟨List.mem_of_getElem? (i := 1860) (by decide +kernel), by decide +kernel⟩, List.mem_of_getElem? (i := 66) (by decide +kernel), ⟨by decide, by decide⟩, by decide +kernel⟩
theorem v_X7_dampAfter : YV yX7_dampAfter := ⟨(List.mem_of_getElem? (i := 1858) (by decide +kernel)), List.mem_of_getElem? (i := 1859) (by decide +kernel)⟩
theorem m_X6_dampReach : YM yX6_dampReach cX6_dampReach 1 (some (.int)) 0 := ⟨⟨List.mem_of_getElem? (i := 393) (by decide +kernel), by decide +kernel⟩, List.mem_of_getElem? (i := 55) (by decide +kernel), ⟨by decide, by decide⟩, by decide +kernel⟩
theorem v_X6_dampReach : YV yX6_dampReach := ⟨(List.mem_of_getElem? (i := 391) (by decide +kernel)), List.mem_of_getElem? (i := 392) (by decide +kernel)⟩
theorem m_X6_dampReachByStretches : YM yX6_dampReachByStretches cX6_dampReachByStretches 1 (some (.int)) 0 := ⟨⟨List.mem_of_getElem? (i := 415) (by decide +kernel), by decide +kernel⟩, List.mem_of_getElem? (i := 55) (by decide +kernel), ⟨by decide, by decide⟩, by decide +kernel⟩
theorem v_X6_dampReachByStretches : YV yX6_dampReachByStretches := ⟨(List.mem_of_getElem? (i := 413) (by decide +kernel)), List.mem_of_getElem? (i := 414) (by decide +kernel)⟩
theorem m_X7_dampReachByStretches : YM yX7_dampReachByStretches cX7_dampReachByStretches 1 (some (.int)) 0 := ⟨⟨List.mem_of_getElem? (i := 1868) (by decide +kernel), by decide +kernel⟩, List.mem_of_getElem? (i := 66) (by decide +kernel), ⟨by decide, by decide⟩, by decide +kernel⟩
theorem v_X7_dampReachByStretches : YV yX7_dampReachByStretches := ⟨(List.mem_of_getElem? (i := 1866) (by decide +kernel)), List.mem_of_getElem? (i := 1867) (by decide +kernel)⟩
theorem m_X6_destroyedCount : YM yX6_destroyedCount cX6_destroyedCount 1 (some (.int)) 0 := ⟨⟨List.mem_of_getElem? (i := 424) (by decide +kernel), by decide +kernel⟩, List.mem_of_getElem? (i := 55) (by decide +kernel), ⟨by decide, by decide⟩, by decide +kernel⟩
theorem v_X6_destroyedCount : YV yX6_destroyedCount := ⟨(List.mem_of_getElem? (i := 422) (by decide +kernel)), List.mem_of_getElem? (i := 423) (by decide +kernel)⟩
theorem m_X7_destroyedCount : YM yX7_destroyedCount cX7_destroyedCount 1 (some (.int)) 0 := ⟨⟨List.mem_of_getElem? (i := 1873) (by decide +kernel), by decide +kernel⟩, List.mem_of_getElem? (i := 66) (by decide +kernel), ⟨by decide, by decide⟩, by decide +kernel⟩
theorem v_X7_destroyedCount : YV yX7_destroyedCount := ⟨(List.mem_of_getElem? (i := 1871) (by decide +kernel)), List.mem_of_getElem? (i := 1872) (by decide +kernel)⟩
theorem m_X7_enqueue : YM yX7_enqueue cX7_enqueue 2 (some (.int)) 1 := ⟨⟨List.mem_of_getElem? (i := 1877) (by decide +kernel), by decide +kernel⟩, List.mem_of_getElem? (i := 66) (by decide +kernel), ⟨by decide, by decide⟩, by decide +kernel⟩
theorem v_X7_enqueue : YV yX7_enqueue := ⟨(List.mem_of_getElem? (i := 1875) (by decide +kernel)), List.mem_of_getElem? (i := 1876) (by decide +kernel)⟩
theorem m_X7_audit : YM yX7_audit cX7_audit 1 (some (.int)) 0 := ⟨⟨List.mem_of_getElem? (i := 1885) (by decide +kernel), by decide +kernel⟩, List.mem_of_getElem? (i := 66) (by decide +kernel), ⟨by decide, by decide⟩, by decide +kernel⟩
theorem v_X7_audit : YV yX7_audit := ⟨(List.mem_of_getElem? (i := 1883) (by decide +kernel)), List.mem_of_getElem? (i := 1884) (by decide +kernel)⟩
theorem m_X6_queueLength : YM yX6_queueLength cX6_queueLength 1 (some (.int)) 0 := ⟨⟨List.mem_of_getElem? (i := 428) (by decide +kernel), by decide +kernel⟩, List.mem_of_getElem? (i := 55) (by decide +kernel), ⟨by decide, by decide⟩, by decide +kernel⟩
theorem v_X6_queueLength : YV yX6_queueLength := ⟨(List.mem_of_getElem? (i := 426) (by decide +kernel)), List.mem_of_getElem? (i := 427) (by decide +kernel)⟩
theorem m_X7_queueLength : YM yX7_queueLength cX7_queueLength 1 (some (.int)) 0 := ⟨⟨List.mem_of_getElem? (i := 1893) (by decide +kernel), by decide +kernel⟩, List.mem_of_getElem? (i := 66) (by decide +kernel), ⟨by decide, by decide⟩, by decide +kernel⟩
theorem v_X7_queueLength : YV yX7_queueLength := ⟨(List.mem_of_getElem? (i := 1891) (by decide +kernel)), List.mem_of_getElem? (i := 1892) (by decide +kernel)⟩
theorem m_X7_queued : YM yX7_queued cX7_queued 2 (some (.int)) 1 := ⟨⟨List.mem_of_getElem? (i := 1897) (by decide +kernel), by decide +kernel⟩, List.mem_of_getElem? (i := 66) (by decide +kernel), ⟨by decide, by decide⟩, by decide +kernel⟩
theorem v_X7_queued : YV yX7_queued := ⟨(List.mem_of_getElem? (i := 1895) (by decide +kernel)), List.mem_of_getElem? (i := 1896) (by decide +kernel)⟩
theorem m_X7_deposit : YM yX7_deposit cX7_deposit 2 (some (.int)) 1 := ⟨⟨List.mem_of_getElem? (i := 1901) (by decide +kernel), by decide +kernel⟩, List.mem_of_getElem? (i := 66) (by decide +kernel), ⟨by decide, by decide⟩, by decide +kernel⟩
theorem v_X7_deposit : YV yX7_deposit := ⟨(List.mem_of_getElem? (i := 1899) (by decide +kernel)), List.mem_of_getElem? (i := 1900) (by decide +kernel)⟩
theorem m_X7_release : YM yX7_release cX7_release 2 (some (.int)) 1 := ⟨⟨List.mem_of_getElem? (i := 1909) (by decide +kernel), by decide +kernel⟩, List.mem_of_getElem? (i := 66) (by decide +kernel), ⟨by decide, by decide⟩, by decide +kernel⟩
theorem v_X7_release : YV yX7_release := ⟨(List.mem_of_getElem? (i := 1907) (by decide +kernel)), List.mem_of_getElem? (i := 1908) (by decide +kernel)⟩
theorem m_X6_bond : YM yX6_bond cX6_bond 1 (some (.int)) 0 := ⟨⟨List.mem_of_getElem? (i := 432) (by decide +kernel), by decide +kernel⟩, List.mem_of_getElem? (i := 55) (by decide +kernel), ⟨by decide, by decide⟩, by decide +kernel⟩
theorem v_X6_bond : YV yX6_bond := ⟨(List.mem_of_getElem? (i := 430) (by decide +kernel)), List.mem_of_getElem? (i := 431) (by decide +kernel)⟩
theorem m_X7_bond : YM yX7_bond cX7_bond 1 (some (.int)) 0 := ⟨⟨List.mem_of_getElem? (i := 1917) (by decide +kernel), by decide +kernel⟩, List.mem_of_getElem? (i := 66) (by decide +kernel), ⟨by decide, by decide⟩, by decide +kernel⟩
theorem v_X7_bond : YV yX7_bond := ⟨(List.mem_of_getElem? (i := 1915) (by decide +kernel)), List.mem_of_getElem? (i := 1916) (by decide +kernel)⟩
theorem m_X6_collected : YM yX6_collected cX6_collected 1 (some (.int)) 0 := ⟨⟨List.mem_of_getElem? (i := 436) (by decide +kernel), by decide +kernel⟩, List.mem_of_getElem? (i := 55) (by decide +kernel), ⟨by decide, by decide⟩, by decide +kernel⟩
theorem v_X6_collected : YV yX6_collected := ⟨(List.mem_of_getElem? (i := 434) (by decide +kernel)), List.mem_of_getElem? (i := 435) (by decide +kernel)⟩
theorem m_X7_collected : YM yX7_collected cX7_collected 1 (some (.int)) 0 := ⟨⟨List.mem_of_getElem? (i := 1921) (by decide +kernel), by decide +kernel⟩, List.mem_of_getElem? (i := 66) (by decide +kernel), ⟨by decide, by decide⟩, by decide +kernel⟩
theorem v_X7_collected : YV yX7_collected := ⟨(List.mem_of_getElem? (i := 1919) (by decide +kernel)), List.mem_of_getElem? (i := 1920) (by decide +kernel)⟩
theorem m_X6_mostReleases : YM yX6_mostReleases cX6_mostReleases 1 (some (.int)) 0 := ⟨⟨List.mem_of_getElem? (i := 440) (by decide +kernel), by decide +kernel⟩, List.mem_of_getElem? (i := 55) (by decide +kernel), ⟨by decide, by decide⟩, by decide +kernel⟩
theorem v_X6_mostReleases : YV yX6_mostReleases := ⟨(List.mem_of_getElem? (i := 438) (by decide +kernel)), List.mem_of_getElem? (i := 439) (by decide +kernel)⟩
theorem m_X7_mostReleases : YM yX7_mostReleases cX7_mostReleases 6 (some (.int)) 0 := ⟨⟨List.mem_of_getElem? (i := 1925) (by decide +kernel), by decide +kernel⟩, List.mem_of_getElem? (i := 66) (by decide +kernel), ⟨by decide, by decide⟩, by decide +kernel⟩
theorem v_X7_mostReleases : YV yX7_mostReleases := ⟨(List.mem_of_getElem? (i := 1923) (by decide +kernel)), List.mem_of_getElem? (i := 1924) (by decide +kernel)⟩
theorem m_X7_writeLot : YM yX7_writeLot cX7_writeLot 3 (some (.int)) 1 := ⟨⟨List.mem_of_getElem? (i := 1937) (by decide +kernel), by decide +kernel⟩, List.mem_of_getElem? (i := 66) (by decide +kernel), ⟨by decide, by decide⟩, by decide +kernel⟩
theorem v_X7_writeLot : YV yX7_writeLot := ⟨(List.mem_of_getElem? (i := 1935) (by decide +kernel)), List.mem_of_getElem? (i := 1936) (by decide +kernel)⟩
theorem m_X6_writeBays : YM yX6_writeBays cX6_writeBays 2 (some (.int)) 0 := ⟨⟨List.mem_of_getElem? (i := 452) (by decide +kernel), by decide +kernel⟩, List.mem_of_getElem? (i := 55) (by decide +kernel), ⟨by decide, by decide⟩, by decide +kernel⟩
theorem v_X6_writeBays : YV yX6_writeBays := ⟨(List.mem_of_getElem? (i := 450) (by decide +kernel)), List.mem_of_getElem? (i := 451) (by decide +kernel)⟩
theorem m_X7_writeBays : YM yX7_writeBays cX7_writeBays 3 (some (.int)) 0 := ⟨⟨List.mem_of_getElem? (i := 1949) (by decide +kernel), by decide +kernel⟩, List.mem_of_getElem? (i := 66) (by decide +kernel), ⟨by decide, by decide⟩, by decide +kernel⟩
theorem v_X7_writeBays : YV yX7_writeBays := ⟨(List.mem_of_getElem? (i := 1947) (by decide +kernel)), List.mem_of_getElem? (i := 1948) (by decide +kernel)⟩
theorem m_X7_outputCharacter : YM yX7_outputCharacter cX7_outputCharacter 2 (some (.char)) 1 := ⟨⟨List.mem_of_getElem? (i := 1953) (by decide +kernel), by decide +kernel⟩, List.mem_of_getElem? (i := 66) (by decide +kernel), ⟨by decide, by decide⟩, by decide +kernel⟩
theorem v_X7_outputCharacter : YV yX7_outputCharacter := ⟨(List.mem_of_getElem? (i := 1951) (by decide +kernel)), List.mem_of_getElem? (i := 1952) (by decide +kernel)⟩
theorem m_X6_isConsistent : YM yX6_isConsistent cX6_isConsistent 1 (some (.boolean)) 0 := ⟨⟨List.mem_of_getElem? (i := 826) (by decide +kernel), by decide +kernel⟩, List.mem_of_getElem? (i := 55) (by decide +kernel), ⟨by decide, by decide⟩, by decide +kernel⟩
theorem v_X6_isConsistent : YV yX6_isConsistent := ⟨(List.mem_of_getElem? (i := 824) (by decide +kernel)), List.mem_of_getElem? (i := 825) (by decide +kernel)⟩
theorem m_X7_isConsistent : YM yX7_isConsistent cX7_isConsistent 1 (some (.boolean)) 0 := ⟨⟨List.mem_of_getElem? (i := 1957) (by decide +kernel), by decide +kernel⟩, List.mem_of_getElem? (i := 66) (by decide +kernel), ⟨by decide, by decide⟩, by decide +kernel⟩
theorem v_X7_isConsistent : YV yX7_isConsistent := ⟨(List.mem_of_getElem? (i := 1955) (by decide +kernel)), List.mem_of_getElem? (i := 1956) (by decide +kernel)⟩
theorem m_X7_feed : YM yX7_feed cX7_feed 2 (some (.int)) 1 := ⟨⟨List.mem_of_getElem? (i := 1961) (by decide +kernel), by decide +kernel⟩, List.mem_of_getElem? (i := 66) (by decide +kernel), ⟨by decide, by decide⟩, by decide +kernel⟩
theorem v_X7_feed : YV yX7_feed := ⟨(List.mem_of_getElem? (i := 1959) (by decide +kernel)), List.mem_of_getElem? (i := 1960) (by decide +kernel)⟩
theorem m_X7_execute : YM yX7_execute cX7_execute 3 (some (.int)) 0 := ⟨⟨List.mem_of_getElem? (i := 1965) (by decide +kernel), by decide +kernel⟩, List.mem_of_getElem? (i := 66) (by decide +kernel), ⟨by decide, by decide⟩, by decide +kernel⟩
theorem v_X7_execute : YV yX7_execute := ⟨(List.mem_of_getElem? (i := 1963) (by decide +kernel)), List.mem_of_getElem? (i := 1964) (by decide +kernel)⟩
theorem m_X7_errorPosition : YM yX7_errorPosition cX7_errorPosition 1 (some (.int)) 0 := ⟨⟨List.mem_of_getElem? (i := 2017) (by decide +kernel), by decide +kernel⟩, List.mem_of_getElem? (i := 66) (by decide +kernel), ⟨by decide, by decide⟩, by decide +kernel⟩
theorem v_X7_errorPosition : YV yX7_errorPosition := ⟨(List.mem_of_getElem? (i := 2015) (by decide +kernel)), List.mem_of_getElem? (i := 2016) (by decide +kernel)⟩
theorem m_X7_failedCommand : YM yX7_failedCommand cX7_failedCommand 1 (some (.int)) 0 := ⟨⟨List.mem_of_getElem? (i := 2021) (by decide +kernel), by decide +kernel⟩, List.mem_of_getElem? (i := 66) (by decide +kernel), ⟨by decide, by decide⟩, by decide +kernel⟩
theorem v_X7_failedCommand : YV yX7_failedCommand := ⟨(List.mem_of_getElem? (i := 2019) (by decide +kernel)), List.mem_of_getElem? (i := 2020) (by decide +kernel)⟩
theorem m_X7_undo : YM yX7_undo cX7_undo 2 (some (.int)) 0 := ⟨⟨List.mem_of_getElem? (i := 2025) (by decide +kernel), by decide +kernel⟩, List.mem_of_getElem? (i := 66) (by decide +kernel), ⟨by decide, by decide⟩, by decide +kernel⟩
theorem v_X7_undo : YV yX7_undo := ⟨(List.mem_of_getElem? (i := 2023) (by decide +kernel)), List.mem_of_getElem? (i := 2024) (by decide +kernel)⟩
theorem m_X6_undoCount : YM yX6_undoCount cX6_undoCount 1 (some (.int)) 0 := ⟨⟨List.mem_of_getElem? (i := 838) (by decide +kernel), by decide +kernel⟩, List.mem_of_getElem? (i := 55) (by decide +kernel), ⟨by decide, by decide⟩, by decide +kernel⟩
theorem v_X6_undoCount : YV yX6_undoCount := ⟨(List.mem_of_getElem? (i := 836) (by decide +kernel)), List.mem_of_getElem? (i := 837) (by decide +kernel)⟩
theorem m_X7_undoCount : YM yX7_undoCount cX7_undoCount 1 (some (.int)) 0 := ⟨⟨List.mem_of_getElem? (i := 2029) (by decide +kernel), by decide +kernel⟩, List.mem_of_getElem? (i := 66) (by decide +kernel), ⟨by decide, by decide⟩, by decide +kernel⟩
theorem v_X7_undoCount : YV yX7_undoCount := ⟨(List.mem_of_getElem? (i := 2027) (by decide +kernel)), List.mem_of_getElem? (i := 2028) (by decide +kernel)⟩
theorem m_X6_save : YM yX6_save cX6_save 2 (some (.int)) 0 := ⟨⟨List.mem_of_getElem? (i := 842) (by decide +kernel), by decide +kernel⟩, List.mem_of_getElem? (i := 55) (by decide +kernel), ⟨by decide, by decide⟩, by decide +kernel⟩
theorem v_X6_save : YV yX6_save := ⟨(List.mem_of_getElem? (i := 840) (by decide +kernel)), List.mem_of_getElem? (i := 841) (by decide +kernel)⟩
theorem m_X7_save : YM yX7_save cX7_save 2 (some (.int)) 0 := ⟨⟨List.mem_of_getElem? (i := 2033) (by decide +kernel), by decide +kernel⟩, List.mem_of_getElem? (i := 66) (by decide +kernel), ⟨by decide, by decide⟩, by decide +kernel⟩
theorem v_X7_save : YV yX7_save := ⟨(List.mem_of_getElem? (i := 2031) (by decide +kernel)), List.mem_of_getElem? (i := 2032) (by decide +kernel)⟩
theorem m_X7_restore : YM yX7_restore cX7_restore 2 (some (.int)) 0 := ⟨⟨List.mem_of_getElem? (i := 2037) (by decide +kernel), by decide +kernel⟩, List.mem_of_getElem? (i := 66) (by decide +kernel), ⟨by decide, by decide⟩, by decide +kernel⟩
theorem v_X7_restore : YV yX7_restore := ⟨(List.mem_of_getElem? (i := 2035) (by decide +kernel)), List.mem_of_getElem? (i := 2036) (by decide +kernel)⟩
theorem mh_addLot : YMH yL_addLot cL_addLot 7 [(0, 14, 17, 13), (0, 14, 21, 15), (0, 14, 25, 17), (0, 14, 29, 19)] 6 := ⟨⟨List.mem_of_getElem? (i := 865) (by decide +kernel), by rfl⟩, (List.mem_of_getElem? (i := 54) (by decide +kernel)), ⟨by decide, by decide⟩, by decide +kernel⟩
theorem vh_addLot : YS yL_addLot := (List.mem_of_getElem? (i := 864) (by decide +kernel))
theorem mh_seal : YMH yL_seal cL_seal 4 [(0, 9, 12, 25), (0, 9, 15, 17), (0, 9, 18, 19)] 3 := ⟨⟨List.mem_of_getElem? (i := 978) (by decide +kernel), by rfl⟩, (List.mem_of_getElem? (i := 54) (by decide +kernel)), ⟨by decide, by decide⟩, by decide +kernel⟩
theorem vh_seal : YS yL_seal := (List.mem_of_getElem? (i := 977) (by decide +kernel))
theorem mh_open : YMH yL_open cL_open 4 [(0, 9, 12, 25), (0, 9, 15, 17)] 3 := ⟨⟨List.mem_of_getElem? (i := 998) (by decide +kernel), by rfl⟩, (List.mem_of_getElem? (i := 54) (by decide +kernel)), ⟨by decide, by decide⟩, by decide +kernel⟩
theorem vh_open : YS yL_open := (List.mem_of_getElem? (i := 997) (by decide +kernel))
theorem mh_wet : YMH yL_wet cL_wet 4 [(0, 9, 12, 25), (0, 9, 15, 17)] 3 := ⟨⟨List.mem_of_getElem? (i := 1009) (by decide +kernel), by rfl⟩, (List.mem_of_getElem? (i := 54) (by decide +kernel)), ⟨by decide, by decide⟩, by decide +kernel⟩
theorem vh_wet : YS yL_wet := (List.mem_of_getElem? (i := 1008) (by decide +kernel))
theorem mh_move : YMH yL_move cL_move 5 [(0, 10, 13, 25), (0, 10, 17, 13), (0, 10, 21, 19)] 4 := ⟨⟨List.mem_of_getElem? (i := 1021) (by decide +kernel), by rfl⟩, (List.mem_of_getElem? (i := 54) (by decide +kernel)), ⟨by decide, by decide⟩, by decide +kernel⟩
theorem vh_move : YS yL_move := (List.mem_of_getElem? (i := 1020) (by decide +kernel))
theorem mh_lot : YMH yL_lot cL_lot 4 [(0, 9, 12, 13)] 3 := ⟨⟨List.mem_of_getElem? (i := 1032) (by decide +kernel), by rfl⟩, (List.mem_of_getElem? (i := 54) (by decide +kernel)), ⟨by decide, by decide⟩, by decide +kernel⟩
theorem vh_lot : YS yL_lot := (List.mem_of_getElem? (i := 1031) (by decide +kernel))
theorem mh_kind : YMH yL_kind cL_kind 4 [(0, 9, 12, 25)] 3 := ⟨⟨List.mem_of_getElem? (i := 1042) (by decide +kernel), by rfl⟩, (List.mem_of_getElem? (i := 54) (by decide +kernel)), ⟨by decide, by decide⟩, by decide +kernel⟩
theorem vh_kind : YS yL_kind := (List.mem_of_getElem? (i := 1041) (by decide +kernel))
theorem mh_quantity : YMH yL_quantity cL_quantity 4 [(0, 9, 12, 25)] 3 := ⟨⟨List.mem_of_getElem? (i := 1059) (by decide +kernel), by rfl⟩, (List.mem_of_getElem? (i := 54) (by decide +kernel)), ⟨by decide, by decide⟩, by decide +kernel⟩
theorem vh_quantity : YS yL_quantity := (List.mem_of_getElem? (i := 1058) (by decide +kernel))
theorem mh_price : YMH yL_price cL_price 4 [(0, 9, 12, 25)] 3 := ⟨⟨List.mem_of_getElem? (i := 1066) (by decide +kernel), by rfl⟩, (List.mem_of_getElem? (i := 54) (by decide +kernel)), ⟨by decide, by decide⟩, by decide +kernel⟩
theorem vh_price : YS yL_price := (List.mem_of_getElem? (i := 1065) (by decide +kernel))
theorem mh_value : YMH yL_value cL_value 4 [(0, 9, 12, 25)] 3 := ⟨⟨List.mem_of_getElem? (i := 1073) (by decide +kernel), by rfl⟩, (List.mem_of_getElem? (i := 54) (by decide +kernel)), ⟨by decide, by decide⟩, by decide +kernel⟩
theorem vh_value : YS yL_value := (List.mem_of_getElem? (i := 1072) (by decide +kernel))
theorem mh_bay : YMH yL_bay cL_bay 4 [(0, 9, 12, 25)] 3 := ⟨⟨List.mem_of_getElem? (i := 1081) (by decide +kernel), by rfl⟩, (List.mem_of_getElem? (i := 54) (by decide +kernel)), ⟨by decide, by decide⟩, by decide +kernel⟩
theorem vh_bay : YS yL_bay := (List.mem_of_getElem? (i := 1080) (by decide +kernel))
theorem mh_isSealed : YMH yL_isSealed cL_isSealed 4 [(0, 16, 19, 25)] 3 := ⟨⟨List.mem_of_getElem? (i := 1088) (by decide +kernel), by rfl⟩, (List.mem_of_getElem? (i := 54) (by decide +kernel)), ⟨by decide, by decide⟩, by decide +kernel⟩
theorem vh_isSealed : YS yL_isSealed := (List.mem_of_getElem? (i := 1087) (by decide +kernel))
theorem mh_isDamp : YMH yL_isDamp cL_isDamp 4 [(0, 16, 19, 25)] 3 := ⟨⟨List.mem_of_getElem? (i := 1095) (by decide +kernel), by rfl⟩, (List.mem_of_getElem? (i := 54) (by decide +kernel)), ⟨by decide, by decide⟩, by decide +kernel⟩
theorem vh_isDamp : YS yL_isDamp := (List.mem_of_getElem? (i := 1094) (by decide +kernel))
theorem mh_lotAt : YMH yL_lotAt cL_lotAt 4 [(0, 9, 12, 13), (0, 9, 15, 25)] 3 := ⟨⟨List.mem_of_getElem? (i := 1102) (by decide +kernel), by rfl⟩, (List.mem_of_getElem? (i := 54) (by decide +kernel)), ⟨by decide, by decide⟩, by decide +kernel⟩
theorem vh_lotAt : YS yL_lotAt := (List.mem_of_getElem? (i := 1101) (by decide +kernel))
theorem mh_nextEmptyBay : YMH yL_nextEmptyBay cL_nextEmptyBay 4 [(0, 9, 12, 13), (0, 9, 15, 25)] 3 := ⟨⟨List.mem_of_getElem? (i := 1111) (by decide +kernel), by rfl⟩, (List.mem_of_getElem? (i := 54) (by decide +kernel)), ⟨by decide, by decide⟩, by decide +kernel⟩
theorem vh_nextEmptyBay : YS yL_nextEmptyBay := (List.mem_of_getElem? (i := 1110) (by decide +kernel))
theorem mh_quantityOfKind : YMH yL_quantityOfKind cL_quantityOfKind 4 [(0, 9, 12, 15)] 3 := ⟨⟨List.mem_of_getElem? (i := 1119) (by decide +kernel), by rfl⟩, (List.mem_of_getElem? (i := 54) (by decide +kernel)), ⟨by decide, by decide⟩, by decide +kernel⟩
theorem vh_quantityOfKind : YS yL_quantityOfKind := (List.mem_of_getElem? (i := 1118) (by decide +kernel))
theorem mh_lotByValue : YMH yL_lotByValue cL_lotByValue 4 [(0, 9, 12, 13)] 3 := ⟨⟨List.mem_of_getElem? (i := 1133) (by decide +kernel), by rfl⟩, (List.mem_of_getElem? (i := 54) (by decide +kernel)), ⟨by decide, by decide⟩, by decide +kernel⟩
theorem vh_lotByValue : YS yL_lotByValue := (List.mem_of_getElem? (i := 1132) (by decide +kernel))
theorem mh_addStep : YMH yL_addStep cL_addStep 5 [(0, 10, 13, 15), (0, 10, 17, 19), (0, 10, 21, 17)] 4 := ⟨⟨List.mem_of_getElem? (i := 1151) (by decide +kernel), by rfl⟩, (List.mem_of_getElem? (i := 54) (by decide +kernel)), ⟨by decide, by decide⟩, by decide +kernel⟩
theorem vh_addStep : YS yL_addStep := (List.mem_of_getElem? (i := 1150) (by decide +kernel))
theorem mh_removeStep : YMH yL_removeStep cL_removeStep 4 [(0, 9, 12, 25)] 3 := ⟨⟨List.mem_of_getElem? (i := 1166) (by decide +kernel), by rfl⟩, (List.mem_of_getElem? (i := 54) (by decide +kernel)), ⟨by decide, by decide⟩, by decide +kernel⟩
theorem vh_removeStep : YS yL_removeStep := (List.mem_of_getElem? (i := 1165) (by decide +kernel))
theorem mh_threshold : YMH yL_threshold cL_threshold 4 [(0, 9, 12, 13)] 3 := ⟨⟨List.mem_of_getElem? (i := 1177) (by decide +kernel), by rfl⟩, (List.mem_of_getElem? (i := 54) (by decide +kernel)), ⟨by decide, by decide⟩, by decide +kernel⟩
theorem vh_threshold : YS yL_threshold := (List.mem_of_getElem? (i := 1176) (by decide +kernel))
theorem mh_rate : YMH yL_rate cL_rate 4 [(0, 9, 12, 13)] 3 := ⟨⟨List.mem_of_getElem? (i := 1184) (by decide +kernel), by rfl⟩, (List.mem_of_getElem? (i := 54) (by decide +kernel)), ⟨by decide, by decide⟩, by decide +kernel⟩
theorem vh_rate : YS yL_rate := (List.mem_of_getElem? (i := 1183) (by decide +kernel))
theorem mh_dutyOn : YMH yL_dutyOn cL_dutyOn 4 [(0, 9, 12, 15)] 3 := ⟨⟨List.mem_of_getElem? (i := 1191) (by decide +kernel), by rfl⟩, (List.mem_of_getElem? (i := 54) (by decide +kernel)), ⟨by decide, by decide⟩, by decide +kernel⟩
theorem vh_dutyOn : YS yL_dutyOn := (List.mem_of_getElem? (i := 1190) (by decide +kernel))
theorem mh_dutyOnByCoins : YMH yL_dutyOnByCoins cL_dutyOnByCoins 4 [(0, 9, 12, 15)] 3 := ⟨⟨List.mem_of_getElem? (i := 1203) (by decide +kernel), by rfl⟩, (List.mem_of_getElem? (i := 54) (by decide +kernel)), ⟨by decide, by decide⟩, by decide +kernel⟩
theorem vh_dutyOnByCoins : YS yL_dutyOnByCoins := (List.mem_of_getElem? (i := 1202) (by decide +kernel))
theorem mh_duty : YMH yL_duty cL_duty 4 [(0, 9, 12, 25)] 3 := ⟨⟨List.mem_of_getElem? (i := 1211) (by decide +kernel), by rfl⟩, (List.mem_of_getElem? (i := 54) (by decide +kernel)), ⟨by decide, by decide⟩, by decide +kernel⟩
theorem vh_duty : YS yL_duty := (List.mem_of_getElem? (i := 1210) (by decide +kernel))
theorem mh_passDays : YMH yL_passDays cL_passDays 4 [(0, 9, 12, 15)] 3 := ⟨⟨List.mem_of_getElem? (i := 1219) (by decide +kernel), by rfl⟩, (List.mem_of_getElem? (i := 54) (by decide +kernel)), ⟨by decide, by decide⟩, by decide +kernel⟩
theorem vh_passDays : YS yL_passDays := (List.mem_of_getElem? (i := 1218) (by decide +kernel))
theorem mh_dampAfter : YMH yL_dampAfter cL_dampAfter 4 [(0, 9, 12, 15)] 3 := ⟨⟨List.mem_of_getElem? (i := 1252) (by decide +kernel), by rfl⟩, (List.mem_of_getElem? (i := 54) (by decide +kernel)), ⟨by decide, by decide⟩, by decide +kernel⟩
theorem vh_dampAfter : YS yL_dampAfter := (List.mem_of_getElem? (i := 1251) (by decide +kernel))
theorem mh_enqueue : YMH yL_enqueue cL_enqueue 4 [(0, 9, 12, 25), (0, 9, 15, 17)] 3 := ⟨⟨List.mem_of_getElem? (i := 1260) (by decide +kernel), by rfl⟩, (List.mem_of_getElem? (i := 54) (by decide +kernel)), ⟨by decide, by decide⟩, by decide +kernel⟩
theorem vh_enqueue : YS yL_enqueue := (List.mem_of_getElem? (i := 1259) (by decide +kernel))
theorem mh_audit : YMH yL_audit cL_audit 3 [(0, 8, 11, 25)] 2 := ⟨⟨List.mem_of_getElem? (i := 1279) (by decide +kernel), by rfl⟩, (List.mem_of_getElem? (i := 54) (by decide +kernel)), ⟨by decide, by decide⟩, by decide +kernel⟩
theorem vh_audit : YS yL_audit := (List.mem_of_getElem? (i := 1278) (by decide +kernel))
theorem mh_queued : YMH yL_queued cL_queued 4 [(0, 9, 12, 13)] 3 := ⟨⟨List.mem_of_getElem? (i := 1290) (by decide +kernel), by rfl⟩, (List.mem_of_getElem? (i := 54) (by decide +kernel)), ⟨by decide, by decide⟩, by decide +kernel⟩
theorem vh_queued : YS yL_queued := (List.mem_of_getElem? (i := 1289) (by decide +kernel))
theorem mh_deposit : YMH yL_deposit cL_deposit 4 [(0, 9, 12, 15), (0, 9, 15, 17)] 3 := ⟨⟨List.mem_of_getElem? (i := 1297) (by decide +kernel), by rfl⟩, (List.mem_of_getElem? (i := 54) (by decide +kernel)), ⟨by decide, by decide⟩, by decide +kernel⟩
theorem vh_deposit : YS yL_deposit := (List.mem_of_getElem? (i := 1296) (by decide +kernel))
theorem mh_release : YMH yL_release cL_release 4 [(0, 9, 12, 25), (0, 9, 15, 19)] 3 := ⟨⟨List.mem_of_getElem? (i := 1308) (by decide +kernel), by rfl⟩, (List.mem_of_getElem? (i := 54) (by decide +kernel)), ⟨by decide, by decide⟩, by decide +kernel⟩
theorem vh_release : YS yL_release := (List.mem_of_getElem? (i := 1307) (by decide +kernel))
theorem mh_writeLot : YMH yL_writeLot cL_writeLot 4 [(0, 9, 12, 25)] 3 := ⟨⟨List.mem_of_getElem? (i := 1355) (by decide +kernel), by rfl⟩, (List.mem_of_getElem? (i := 54) (by decide +kernel)), ⟨by decide, by decide⟩, by decide +kernel⟩
theorem vh_writeLot : YS yL_writeLot := (List.mem_of_getElem? (i := 1354) (by decide +kernel))
theorem mh_outputCharacter : YMH yL_outputCharacter cL_outputCharacter 4 [(0, 9, 12, 13)] 3 := ⟨⟨List.mem_of_getElem? (i := 1364) (by decide +kernel), by rfl⟩, (List.mem_of_getElem? (i := 54) (by decide +kernel)), ⟨by decide, by decide⟩, by decide +kernel⟩
theorem vh_outputCharacter : YS yL_outputCharacter := (List.mem_of_getElem? (i := 1363) (by decide +kernel))
theorem mh_feed : YMH yL_feed cL_feed 4 [(0, 9, 12, 17)] 3 := ⟨⟨List.mem_of_getElem? (i := 1381) (by decide +kernel), by rfl⟩, (List.mem_of_getElem? (i := 54) (by decide +kernel)), ⟨by decide, by decide⟩, by decide +kernel⟩
theorem vh_feed : YS yL_feed := (List.mem_of_getElem? (i := 1380) (by decide +kernel))
theorem mh_execute : YMH yL_execute cL_execute 3 [(0, 8, 11, 15), (0, 8, 14, 19)] 2 := ⟨⟨List.mem_of_getElem? (i := 1397) (by decide +kernel), by rfl⟩, (List.mem_of_getElem? (i := 54) (by decide +kernel)), ⟨by decide, by decide⟩, by decide +kernel⟩
theorem vh_execute : YS yL_execute := (List.mem_of_getElem? (i := 1396) (by decide +kernel))
theorem mh_errorPosition : YMH yL_errorPosition cL_errorPosition 3 [(0, 8, 11, 25)] 2 := ⟨⟨List.mem_of_getElem? (i := 1502) (by decide +kernel), by rfl⟩, (List.mem_of_getElem? (i := 54) (by decide +kernel)), ⟨by decide, by decide⟩, by decide +kernel⟩
theorem vh_errorPosition : YS yL_errorPosition := (List.mem_of_getElem? (i := 1501) (by decide +kernel))
theorem mh_failedCommand : YMH yL_failedCommand cL_failedCommand 3 [(0, 8, 11, 25)] 2 := ⟨⟨List.mem_of_getElem? (i := 1510) (by decide +kernel), by rfl⟩, (List.mem_of_getElem? (i := 54) (by decide +kernel)), ⟨by decide, by decide⟩, by decide +kernel⟩
theorem vh_failedCommand : YS yL_failedCommand := (List.mem_of_getElem? (i := 1509) (by decide +kernel))
theorem mh_undo : YMH yL_undo cL_undo 3 [(0, 8, 11, 17)] 2 := ⟨⟨List.mem_of_getElem? (i := 1518) (by decide +kernel), by rfl⟩, (List.mem_of_getElem? (i := 54) (by decide +kernel)), ⟨by decide, by decide⟩, by decide +kernel⟩
theorem vh_undo : YS yL_undo := (List.mem_of_getElem? (i := 1517) (by decide +kernel))
theorem mh_restore : YMH yL_restore cL_restore 3 [(0, 8, 11, 17)] 2 := ⟨⟨List.mem_of_getElem? (i := 1531) (by decide +kernel), by rfl⟩, (List.mem_of_getElem? (i := 54) (by decide +kernel)), ⟨by decide, by decide⟩, by decide +kernel⟩
theorem vh_restore : YS yL_restore := (List.mem_of_getElem? (i := 1530) (by decide +kernel))
theorem chr (x : Int32) : ∃ cc, cc < 65536 ∧ (x.toUInt32 % 65536).toInt32 = nI cc := by
  rw [pk_char]
  exact ⟨_, Nat.mod_lt _ (by decide), rfl⟩
theorem cons_val (M : Mem) : Val M 1 (f_X7_isConsistent M) := Val.of rfl
set_option maxRecDepth 100000 in
set_option maxHeartbeats 4000000 in
theorem cs_0 {G : cG} {p : Program} {l : Launch} {e : Env} {R : Room} {s : State} {m : MethodId} {args : Array Value} {below : List Frame} {meth : Method} {c : Code} {A : Nat → Prop} {Q : State → Prop} {ad : Nat → Nat → Nat} {fo fd : Nat} {mo : Nat → Nat} {b i L N cells slots : Nat} {xs : Nat → Int32} {ks kv : Nat → Nat} {d1 d2 : Nat} {K S Fc C D B : Mem} {cu ct : Nat} {hs : hS} {sv : sV} {ou : oB} {M : Mem} {f0 : Nat → Int64} {fD : Nat → UInt64} {H : Heap} {locs : List Loc} {ls : Array Slot} (F : Fx G p s m c cL_law 9 RL A) (gM : MG G) (hNC : NcG G) (hSG : SG G ks kv) (pv : PV G) (hD : DGs G d1 d2) (hst : l.stackTraces = false) (hX : va_X b L xs s s.heap) (hbA : ¬ A b) (hbl : b < s.heap.size) (hL : L ≤ 2560) (hi : i + 5 ≤ L) (hR1 : 60 ≤ R.frames) (hR2 : 3000 ≤ R.locals) (hc1 : cells + 20 ≤ R.cells) (hs1 : slots + 200 ≤ R.slots) (hN : N < 2 ^ 29) (h : Top N K S C cu ct hs sv ou M) (w : Wd G A s.heap (fl (wAll G.2.1 ad K S Fc C D B cu ct hs sv ou fo f0 fd fD mo M)) H locs) (hl : lv_has ls 9 [(5, .int (nI i)), (4, .ref fd), (3, .ref fo), (2, .ref (mo 0)), (1, .ref ((ad 0) 0)), (0, .ref b)]) (kk : KKc G p l e R s m args below meth c A Q ad fo fd mo b i N cells slots) : W p l e R s m args below meth c H locs cells slots Q (F0 m 292 ls []) := by
  have w : Wd G A s.heap (fl [wXo G.2.1 (ad 0) (xF ad) (svV sv) K, wSh G.2.1 (ad 1) S, wSh G.2.1 (ad 2) Fc, wTe G.2.1 (ad 4) C, wSb G.2.1 (ad 5) ou, wAd G.2.1 (ad 6) D, wAb G.2.1 (ad 7) B, wHo G.2.1 (ad 3) cu ct hs, [(fo, .inl (G.2.1 4, 1, .inr (.inl f0)))], [(fd, .inl (G.2.1 5, 1, .inr (.inr (.inr (.inl fD)))))], wMo G.2.1 mo M, hsL G.2.1 hs, blk G.2.1 sv]) H locs := w
  refine lv_aload_n F.x F.b dL_law_292 rfl (lv_at hl 4 rfl) ?_
  refine lv_aload_n F.x F.b dL_law_293 rfl (lv_at hl 5 rfl) ?_
  refine lv_iload F.x F.b dL_law_294 (lv_at hl 0 rfl) ?_
  refine lv_iconst (v := 1) F.x F.b dL_law_296 (by decide) ?_
  refine lv_iadd F.x F.b dL_law_297 ?_
  refine rX F w hX hbA hbl (k := i + 1) (nI_add i 1) (by omega) hL dL_law_298 ?_
  refine lv_i2c (v := ((xs (i + 1)).toUInt32 % 65536).toInt32) F.x F.b dL_law_299 rfl ?_
  refine lv_aload_n F.x F.b dL_law_300 rfl (lv_at hl 5 rfl) ?_
  refine lv_iload F.x F.b dL_law_301 (lv_at hl 0 rfl) ?_
  refine lv_iconst (v := 2) F.x F.b dL_law_303 (by decide) ?_
  refine lv_iadd F.x F.b dL_law_304 ?_
  refine rX F w hX hbA hbl (k := i + 2) (nI_add i 2) (by omega) hL dL_law_305 ?_
  refine lv_aload_n F.x F.b dL_law_306 rfl (lv_at hl 5 rfl) ?_
  refine lv_iload F.x F.b dL_law_307 (lv_at hl 0 rfl) ?_
  refine lv_iconst (v := 3) F.x F.b dL_law_309 (by decide) ?_
  refine lv_iadd F.x F.b dL_law_310 ?_
  refine rX F w hX hbA hbl (k := i + 3) (nI_add i 3) (by omega) hL dL_law_311 ?_
  refine lv_aload_n F.x F.b dL_law_312 rfl (lv_at hl 5 rfl) ?_
  refine lv_iload F.x F.b dL_law_313 (lv_at hl 0 rfl) ?_
  refine lv_iconst (v := 4) F.x F.b dL_law_315 (by decide) ?_
  refine lv_iadd F.x F.b dL_law_316 ?_
  refine rX F w hX hbA hbl (k := i + 4) (nI_add i 4) (by omega) hL dL_law_317 ?_
  refine lv_aload_n F.x F.b dL_law_318 rfl (lv_at hl 2 rfl) ?_
  refine kLi F w hst (LC := [wXo G.2.1 (ad 0) (xF ad) (svV sv) K, wSh G.2.1 (ad 1) S, wSh G.2.1 (ad 2) Fc, wTe G.2.1 (ad 4) C, wSb G.2.1 (ad 5) ou, wAd G.2.1 (ad 6) D, wAb G.2.1 (ad 7) B, wHo G.2.1 (ad 3) cu ct hs, [(fo, .inl (G.2.1 4, 1, .inr (.inl f0)))], hsL G.2.1 hs, blk G.2.1 sv]) (LR := [[(fd, .inl (G.2.1 5, 1, .inr (.inr (.inr (.inl fD)))))], wMo G.2.1 mo M]) (As := [.ref ((ad 0) 0), .int (((xs (i + 1)).toUInt32 % 65536).toInt32), .int (xs (i + 2)), .int (xs (i + 3)), .int (xs (i + 4)), .ref fo]) (rest := []) (l_addLot F.1 gM hNC h hN) mh_addLot vh_addLot (List.mem_of_getElem? (i := 863) (by decide +kernel)) 13 [0, 1, 2, 3, 4, 5, 6, 7, 8, 11, 12, 9, 10] rfl rfl rfl ⟨by omega, by omega⟩ rfl hl.1 rfl (Nat.le_of_ble_eq_true rfl) dL_law_319 ⟨by omega, by omega⟩ (fun r8 w1 H locs h9 w => ?_)
  obtain ⟨K1, S1, Fc1, C1, D1, B1, cu1, ct1, hs1, sv1, ou1, M1, b1, f1, h9, e2, e3, e4, hf⟩ := h9
  have w := w.jn (L1 := [wXo G.2.1 (ad 0) (xF ad) (svV sv1) K1, wSh G.2.1 (ad 1) S1, wSh G.2.1 (ad 2) Fc1, wTe G.2.1 (ad 4) C1, wSb G.2.1 (ad 5) ou1, wAd G.2.1 (ad 6) D1, wAb G.2.1 (ad 7) B1, wHo G.2.1 (ad 3) cu1 ct1 hs1, [(fo, .inl (G.2.1 4, 1, .inr (.inl f1)))], hsL G.2.1 hs1, blk G.2.1 sv1]) (L' := [wXo G.2.1 (ad 0) (xF ad) (svV sv1) K1, wSh G.2.1 (ad 1) S1, wSh G.2.1 (ad 2) Fc1, wTe G.2.1 (ad 4) C1, wSb G.2.1 (ad 5) ou1, wAd G.2.1 (ad 6) D1, wAb G.2.1 (ad 7) B1, wHo G.2.1 (ad 3) cu1 ct1 hs1, [(fo, .inl (G.2.1 4, 1, .inr (.inl f1)))], [(fd, .inl (G.2.1 5, 1, .inr (.inr (.inr (.inl fD)))))], wMo G.2.1 mo M, hsL G.2.1 hs1, blk G.2.1 sv1]) h9 13 [0, 1, 2, 3, 4, 5, 6, 7, 8, 11, 12, 9, 10] rfl rfl rfl
  have w : Wd G A s.heap (fl [wXo G.2.1 (ad 0) (xF ad) (svV sv1) K1, wSh G.2.1 (ad 1) S1, wSh G.2.1 (ad 2) Fc1, wTe G.2.1 (ad 4) C1, wSb G.2.1 (ad 5) ou1, wAd G.2.1 (ad 6) D1, wAb G.2.1 (ad 7) B1, wHo G.2.1 (ad 3) cu1 ct1 hs1, [(fo, .inl (G.2.1 4, 1, .inr (.inl f1)))], [(fd, .inl (G.2.1 5, 1, .inr (.inr (.inr (.inl fD)))))], wMo G.2.1 mo M, hsL G.2.1 hs1, blk G.2.1 sv1]) _ _ := w
  refine lv_istore (lv' := [(6, .int r8), (5, .int (nI i)), (4, .ref fd), (3, .ref fo), (2, .ref (mo 0)), (1, .ref ((ad 0) 0)), (0, .ref b)]) F.x F.b dL_law_322 hl (by decide) rfl (fun ls hl => ?_)
  refine lv_aload_n F.x F.b dL_law_324 rfl (lv_at hl 4 rfl) ?_
  refine lv_aload_n F.x F.b dL_law_325 rfl (lv_at hl 6 rfl) ?_
  refine lv_iload F.x F.b dL_law_326 (lv_at hl 1 rfl) ?_
  refine lv_iconst (v := 1) F.x F.b dL_law_328 (by decide) ?_
  refine lv_iadd F.x F.b dL_law_329 ?_
  refine rX F w hX hbA hbl (k := i + 1) (nI_add i 1) (by omega) hL dL_law_330 ?_
  refine lv_i2c (v := ((xs (i + 1)).toUInt32 % 65536).toInt32) F.x F.b dL_law_331 rfl ?_
  refine lv_aload_n F.x F.b dL_law_332 rfl (lv_at hl 6 rfl) ?_
  refine lv_iload F.x F.b dL_law_333 (lv_at hl 1 rfl) ?_
  refine lv_iconst (v := 2) F.x F.b dL_law_335 (by decide) ?_
  refine lv_iadd F.x F.b dL_law_336 ?_
  refine rX F w hX hbA hbl (k := i + 2) (nI_add i 2) (by omega) hL dL_law_337 ?_
  refine lv_aload_n F.x F.b dL_law_338 rfl (lv_at hl 6 rfl) ?_
  refine lv_iload F.x F.b dL_law_339 (lv_at hl 1 rfl) ?_
  refine lv_iconst (v := 3) F.x F.b dL_law_341 (by decide) ?_
  refine lv_iadd F.x F.b dL_law_342 ?_
  refine rX F w hX hbA hbl (k := i + 3) (nI_add i 3) (by omega) hL dL_law_343 ?_
  refine lv_aload_n F.x F.b dL_law_344 rfl (lv_at hl 6 rfl) ?_
  refine lv_iload F.x F.b dL_law_345 (lv_at hl 1 rfl) ?_
  refine lv_iconst (v := 4) F.x F.b dL_law_347 (by decide) ?_
  refine lv_iadd F.x F.b dL_law_348 ?_
  refine rX F w hX hbA hbl (k := i + 4) (nI_add i 4) (by omega) hL dL_law_349 ?_
  refine kXi F w hst (LC := [wMo G.2.1 mo M]) (LR := [wXo G.2.1 (ad 0) (xF ad) (svV sv1) K1, wSh G.2.1 (ad 1) S1, wSh G.2.1 (ad 2) Fc1, wTe G.2.1 (ad 4) C1, wSb G.2.1 (ad 5) ou1, wAd G.2.1 (ad 6) D1, wAb G.2.1 (ad 7) B1, wHo G.2.1 (ad 3) cu1 ct1 hs1, [(fo, .inl (G.2.1 4, 1, .inr (.inl f1)))], [(fd, .inl (G.2.1 5, 1, .inr (.inr (.inr (.inl fD)))))], hsL G.2.1 hs1, blk G.2.1 sv1]) (As := [.int (((xs (i + 1)).toUInt32 % 65536).toInt32), .int (xs (i + 2)), .int (xs (i + 3)), .int (xs (i + 4))]) (rest := []) (t_X7_addLot F.1 e2).toX m_X7_addLot v_X7_addLot q1618 (ci := 11) (q0 := 40) rfl rfl rfl 13 [10, 0, 1, 2, 3, 4, 5, 6, 7, 8, 9, 11, 12] rfl rfl rfl ⟨by omega, by omega⟩ rfl hl.1 rfl (Nat.le_of_ble_eq_true rfl) dL_law_350 ⟨by omega, by omega⟩ (fun _ _ _ _ _ _ hx => False.elim hx) (fun r9 w1 H locs h9 w => ?_)
  obtain ⟨hb9, h9⟩ := h9
  have w := w.jn (L1 := [wMo G.2.1 mo M1]) (L' := [wXo G.2.1 (ad 0) (xF ad) (svV sv1) K1, wSh G.2.1 (ad 1) S1, wSh G.2.1 (ad 2) Fc1, wTe G.2.1 (ad 4) C1, wSb G.2.1 (ad 5) ou1, wAd G.2.1 (ad 6) D1, wAb G.2.1 (ad 7) B1, wHo G.2.1 (ad 3) cu1 ct1 hs1, [(fo, .inl (G.2.1 4, 1, .inr (.inl f1)))], [(fd, .inl (G.2.1 5, 1, .inr (.inr (.inr (.inl fD)))))], wMo G.2.1 mo M1, hsL G.2.1 hs1, blk G.2.1 sv1]) h9 13 [1, 2, 3, 4, 5, 6, 7, 8, 9, 10, 0, 11, 12] rfl rfl rfl
  rw [hb9]
  have w : Wd G A s.heap (fl [wXo G.2.1 (ad 0) (xF ad) (svV sv1) K1, wSh G.2.1 (ad 1) S1, wSh G.2.1 (ad 2) Fc1, wTe G.2.1 (ad 4) C1, wSb G.2.1 (ad 5) ou1, wAd G.2.1 (ad 6) D1, wAb G.2.1 (ad 7) B1, wHo G.2.1 (ad 3) cu1 ct1 hs1, [(fo, .inl (G.2.1 4, 1, .inr (.inl f1)))], [(fd, .inl (G.2.1 5, 1, .inr (.inr (.inr (.inl fD)))))], wMo G.2.1 mo M1, hsL G.2.1 hs1, blk G.2.1 sv1]) _ _ := w
  refine lv_istore (lv' := [(7, .int b1), (6, .int r8), (5, .int (nI i)), (4, .ref fd), (3, .ref fo), (2, .ref (mo 0)), (1, .ref ((ad 0) 0)), (0, .ref b)]) F.x F.b dL_law_353 hl (by decide) rfl (fun ls hl => ?_)
  refine lv_aload_n F.x F.b dL_law_355 rfl (lv_at hl 5 rfl) ?_
  refine kXi F w hst (LC := [wMo G.2.1 mo M1]) (LR := [wXo G.2.1 (ad 0) (xF ad) (svV sv1) K1, wSh G.2.1 (ad 1) S1, wSh G.2.1 (ad 2) Fc1, wTe G.2.1 (ad 4) C1, wSb G.2.1 (ad 5) ou1, wAd G.2.1 (ad 6) D1, wAb G.2.1 (ad 7) B1, wHo G.2.1 (ad 3) cu1 ct1 hs1, [(fo, .inl (G.2.1 4, 1, .inr (.inl f1)))], [(fd, .inl (G.2.1 5, 1, .inr (.inr (.inr (.inl fD)))))], hsL G.2.1 hs1, blk G.2.1 sv1]) (As := []) (rest := []) (t_X7_thrown F.1 (r := r8) (show f_X7_thrown M1 = some r8 from by rw [f_X7_thrown, e3])).toX m_X7_thrown v_X7_thrown q1614 (ci := 11) (q0 := 40) rfl rfl rfl 13 [10, 0, 1, 2, 3, 4, 5, 6, 7, 8, 9, 11, 12] rfl rfl rfl ⟨by omega, by omega⟩ rfl hl.1 rfl (Nat.le_of_ble_eq_true rfl) dL_law_356 ⟨by omega, by omega⟩ (fun _ _ _ _ _ _ hx => False.elim hx) (fun r9 w1 H locs h9 w => ?_)
  obtain ⟨hb8, h9⟩ := h9
  have w := w.jn (L1 := [wMo G.2.1 mo M1]) (L' := [wXo G.2.1 (ad 0) (xF ad) (svV sv1) K1, wSh G.2.1 (ad 1) S1, wSh G.2.1 (ad 2) Fc1, wTe G.2.1 (ad 4) C1, wSb G.2.1 (ad 5) ou1, wAd G.2.1 (ad 6) D1, wAb G.2.1 (ad 7) B1, wHo G.2.1 (ad 3) cu1 ct1 hs1, [(fo, .inl (G.2.1 4, 1, .inr (.inl f1)))], [(fd, .inl (G.2.1 5, 1, .inr (.inr (.inr (.inl fD)))))], wMo G.2.1 mo M1, hsL G.2.1 hs1, blk G.2.1 sv1]) h9 13 [1, 2, 3, 4, 5, 6, 7, 8, 9, 10, 0, 11, 12] rfl rfl rfl
  rw [hb8]
  have w : Wd G A s.heap (fl [wXo G.2.1 (ad 0) (xF ad) (svV sv1) K1, wSh G.2.1 (ad 1) S1, wSh G.2.1 (ad 2) Fc1, wTe G.2.1 (ad 4) C1, wSb G.2.1 (ad 5) ou1, wAd G.2.1 (ad 6) D1, wAb G.2.1 (ad 7) B1, wHo G.2.1 (ad 3) cu1 ct1 hs1, [(fo, .inl (G.2.1 4, 1, .inr (.inl f1)))], [(fd, .inl (G.2.1 5, 1, .inr (.inr (.inr (.inl fD)))))], wMo G.2.1 mo M1, hsL G.2.1 hs1, blk G.2.1 sv1]) _ _ := w
  refine lv_iload F.x F.b dL_law_359 (lv_at hl 1 rfl) ?_
  refine lv_icmp_eq (tgt := 366) F.x F.b dL_law_361 (by decide) (fun _ => ?_) (fun c9 => absurd rfl c9)
  refine lv_iload F.x F.b dL_law_366 (lv_at hl 1 rfl) ?_
  by_cases hr : r8 = 0
  · refine lv_if_ne (tgt := 383) F.x F.b dL_law_368 (by decide) (fun c9 => absurd hr c9) (fun _ => ?_)
    refine lv_aload_n F.x F.b dL_law_371 rfl (lv_at hl 4 rfl) ?_
    refine lv_iconst (v := 0) F.x F.b dL_law_372 (by decide) ?_
    refine rLl F w 38 rfl (by decide) (v := Int32.toInt64 b1) (by rw [sb_cl0]; exact hf hr) dL_law_373 ?_
    refine lv_iload F.x F.b dL_law_374 (lv_at hl 0 rfl) ?_
    refine lv_i2l (v := (Int32.toInt64 b1)) F.x F.b dL_law_376 rfl ?_
    refine rLc F.x F.b rfl dL_law_377 ?_
    refine lv_if_eq (tgt := 383) F.x F.b dL_law_378 (by decide) (fun _ => ?_) (fun c9 => absurd rfl c9)
    refine lv_goto (tgt := 2836) F.x F.b dL_law_383 (by decide) ?_
    refine W.widen (k := cells + 20) (n := slots + 200) (by omega) (by omega) ?_
    exact kk K1 S1 Fc1 C1 D1 B1 cu1 ct1 hs1 sv1 ou1 M1 f1 fD _ _ _ w e4 (lv_sub hl [2, 3, 4, 5, 6, 7] rfl)
  · refine lv_if_ne (tgt := 383) F.x F.b dL_law_368 (by decide) (fun _ => ?_) (fun c9 => absurd c9 hr)
    refine lv_goto (tgt := 2836) F.x F.b dL_law_383 (by decide) ?_
    refine W.widen (k := cells + 20) (n := slots + 200) (by omega) (by omega) ?_
    exact kk K1 S1 Fc1 C1 D1 B1 cu1 ct1 hs1 sv1 ou1 M1 f1 fD _ _ _ w e4 (lv_sub hl [2, 3, 4, 5, 6, 7] rfl)
set_option maxRecDepth 100000 in
set_option maxHeartbeats 4000000 in
theorem cs_1 {G : cG} {p : Program} {l : Launch} {e : Env} {R : Room} {s : State} {m : MethodId} {args : Array Value} {below : List Frame} {meth : Method} {c : Code} {A : Nat → Prop} {Q : State → Prop} {ad : Nat → Nat → Nat} {fo fd : Nat} {mo : Nat → Nat} {b i L N cells slots : Nat} {xs : Nat → Int32} {ks kv : Nat → Nat} {d1 d2 : Nat} {K S Fc C D B : Mem} {cu ct : Nat} {hs : hS} {sv : sV} {ou : oB} {M : Mem} {f0 : Nat → Int64} {fD : Nat → UInt64} {H : Heap} {locs : List Loc} {ls : Array Slot} (F : Fx G p s m c cL_law 9 RL A) (gM : MG G) (hNC : NcG G) (hSG : SG G ks kv) (pv : PV G) (hD : DGs G d1 d2) (hst : l.stackTraces = false) (hX : va_X b L xs s s.heap) (hbA : ¬ A b) (hbl : b < s.heap.size) (hL : L ≤ 2560) (hi : i + 5 ≤ L) (hR1 : 60 ≤ R.frames) (hR2 : 3000 ≤ R.locals) (hc1 : cells + 20 ≤ R.cells) (hs1 : slots + 200 ≤ R.slots) (hN : N < 2 ^ 29) (h : Top N K S C cu ct hs sv ou M) (w : Wd G A s.heap (fl (wAll G.2.1 ad K S Fc C D B cu ct hs sv ou fo f0 fd fD mo M)) H locs) (hl : lv_has ls 9 [(5, .int (nI i)), (4, .ref fd), (3, .ref fo), (2, .ref (mo 0)), (1, .ref ((ad 0) 0)), (0, .ref b)]) (kk : KKc G p l e R s m args below meth c A Q ad fo fd mo b i N cells slots) : W p l e R s m args below meth c H locs cells slots Q (F0 m 386 ls []) := by
  have w : Wd G A s.heap (fl [wXo G.2.1 (ad 0) (xF ad) (svV sv) K, wSh G.2.1 (ad 1) S, wSh G.2.1 (ad 2) Fc, wTe G.2.1 (ad 4) C, wSb G.2.1 (ad 5) ou, wAd G.2.1 (ad 6) D, wAb G.2.1 (ad 7) B, wHo G.2.1 (ad 3) cu ct hs, [(fo, .inl (G.2.1 4, 1, .inr (.inl f0)))], [(fd, .inl (G.2.1 5, 1, .inr (.inr (.inr (.inl fD)))))], wMo G.2.1 mo M, hsL G.2.1 hs, blk G.2.1 sv]) H locs := w
  refine lv_aload_n F.x F.b dL_law_386 rfl (lv_at hl 4 rfl) ?_
  refine lv_aload_n F.x F.b dL_law_387 rfl (lv_at hl 5 rfl) ?_
  refine lv_iload F.x F.b dL_law_388 (lv_at hl 0 rfl) ?_
  refine lv_iconst (v := 1) F.x F.b dL_law_390 (by decide) ?_
  refine lv_iadd F.x F.b dL_law_391 ?_
  refine rX F w hX hbA hbl (k := i + 1) (nI_add i 1) (by omega) hL dL_law_392 ?_
  refine lv_aload_n F.x F.b dL_law_393 rfl (lv_at hl 2 rfl) ?_
  refine kLi F w hst (LC := [wXo G.2.1 (ad 0) (xF ad) (svV sv) K, wSh G.2.1 (ad 1) S, wSh G.2.1 (ad 2) Fc, wTe G.2.1 (ad 4) C, wSb G.2.1 (ad 5) ou, wAd G.2.1 (ad 6) D, wAb G.2.1 (ad 7) B, wHo G.2.1 (ad 3) cu ct hs, [(fo, .inl (G.2.1 4, 1, .inr (.inl f0)))], hsL G.2.1 hs, blk G.2.1 sv]) (LR := [[(fd, .inl (G.2.1 5, 1, .inr (.inr (.inr (.inl fD)))))], wMo G.2.1 mo M]) (As := [.ref ((ad 0) 0), .int (xs (i + 1)), .ref fo]) (rest := []) (l_seal F.1 gM hNC h hN) mh_seal vh_seal (List.mem_of_getElem? (i := 976) (by decide +kernel)) 13 [0, 1, 2, 3, 4, 5, 6, 7, 8, 11, 12, 9, 10] rfl rfl rfl ⟨by omega, by omega⟩ rfl hl.1 rfl (Nat.le_of_ble_eq_true rfl) dL_law_394 ⟨by omega, by omega⟩ (fun r8 w1 H locs h9 w => ?_)
  obtain ⟨K1, S1, Fc1, C1, D1, B1, cu1, ct1, hs1, sv1, ou1, M1, b1, f1, h9, e2, e3, e4, hf⟩ := h9
  have w := w.jn (L1 := [wXo G.2.1 (ad 0) (xF ad) (svV sv1) K1, wSh G.2.1 (ad 1) S1, wSh G.2.1 (ad 2) Fc1, wTe G.2.1 (ad 4) C1, wSb G.2.1 (ad 5) ou1, wAd G.2.1 (ad 6) D1, wAb G.2.1 (ad 7) B1, wHo G.2.1 (ad 3) cu1 ct1 hs1, [(fo, .inl (G.2.1 4, 1, .inr (.inl f1)))], hsL G.2.1 hs1, blk G.2.1 sv1]) (L' := [wXo G.2.1 (ad 0) (xF ad) (svV sv1) K1, wSh G.2.1 (ad 1) S1, wSh G.2.1 (ad 2) Fc1, wTe G.2.1 (ad 4) C1, wSb G.2.1 (ad 5) ou1, wAd G.2.1 (ad 6) D1, wAb G.2.1 (ad 7) B1, wHo G.2.1 (ad 3) cu1 ct1 hs1, [(fo, .inl (G.2.1 4, 1, .inr (.inl f1)))], [(fd, .inl (G.2.1 5, 1, .inr (.inr (.inr (.inl fD)))))], wMo G.2.1 mo M, hsL G.2.1 hs1, blk G.2.1 sv1]) h9 13 [0, 1, 2, 3, 4, 5, 6, 7, 8, 11, 12, 9, 10] rfl rfl rfl
  have w : Wd G A s.heap (fl [wXo G.2.1 (ad 0) (xF ad) (svV sv1) K1, wSh G.2.1 (ad 1) S1, wSh G.2.1 (ad 2) Fc1, wTe G.2.1 (ad 4) C1, wSb G.2.1 (ad 5) ou1, wAd G.2.1 (ad 6) D1, wAb G.2.1 (ad 7) B1, wHo G.2.1 (ad 3) cu1 ct1 hs1, [(fo, .inl (G.2.1 4, 1, .inr (.inl f1)))], [(fd, .inl (G.2.1 5, 1, .inr (.inr (.inr (.inl fD)))))], wMo G.2.1 mo M, hsL G.2.1 hs1, blk G.2.1 sv1]) _ _ := w
  refine lv_istore (lv' := [(6, .int r8), (5, .int (nI i)), (4, .ref fd), (3, .ref fo), (2, .ref (mo 0)), (1, .ref ((ad 0) 0)), (0, .ref b)]) F.x F.b dL_law_397 hl (by decide) rfl (fun ls hl => ?_)
  refine lv_aload_n F.x F.b dL_law_399 rfl (lv_at hl 4 rfl) ?_
  refine lv_aload_n F.x F.b dL_law_400 rfl (lv_at hl 6 rfl) ?_
  refine lv_iload F.x F.b dL_law_401 (lv_at hl 1 rfl) ?_
  refine lv_iconst (v := 1) F.x F.b dL_law_403 (by decide) ?_
  refine lv_iadd F.x F.b dL_law_404 ?_
  refine rX F w hX hbA hbl (k := i + 1) (nI_add i 1) (by omega) hL dL_law_405 ?_
  refine kXi F w hst (LC := [wMo G.2.1 mo M]) (LR := [wXo G.2.1 (ad 0) (xF ad) (svV sv1) K1, wSh G.2.1 (ad 1) S1, wSh G.2.1 (ad 2) Fc1, wTe G.2.1 (ad 4) C1, wSb G.2.1 (ad 5) ou1, wAd G.2.1 (ad 6) D1, wAb G.2.1 (ad 7) B1, wHo G.2.1 (ad 3) cu1 ct1 hs1, [(fo, .inl (G.2.1 4, 1, .inr (.inl f1)))], [(fd, .inl (G.2.1 5, 1, .inr (.inr (.inr (.inl fD)))))], hsL G.2.1 hs1, blk G.2.1 sv1]) (As := [.int (xs (i + 1))]) (rest := []) (t_X7_seal F.1 e2).toX m_X7_seal v_X7_seal q1667 (ci := 11) (q0 := 40) rfl rfl rfl 13 [10, 0, 1, 2, 3, 4, 5, 6, 7, 8, 9, 11, 12] rfl rfl rfl ⟨by omega, by omega⟩ rfl hl.1 rfl (Nat.le_of_ble_eq_true rfl) dL_law_406 ⟨by omega, by omega⟩ (fun _ _ _ _ _ _ hx => False.elim hx) (fun r9 w1 H locs h9 w => ?_)
  obtain ⟨hb9, h9⟩ := h9
  have w := w.jn (L1 := [wMo G.2.1 mo M1]) (L' := [wXo G.2.1 (ad 0) (xF ad) (svV sv1) K1, wSh G.2.1 (ad 1) S1, wSh G.2.1 (ad 2) Fc1, wTe G.2.1 (ad 4) C1, wSb G.2.1 (ad 5) ou1, wAd G.2.1 (ad 6) D1, wAb G.2.1 (ad 7) B1, wHo G.2.1 (ad 3) cu1 ct1 hs1, [(fo, .inl (G.2.1 4, 1, .inr (.inl f1)))], [(fd, .inl (G.2.1 5, 1, .inr (.inr (.inr (.inl fD)))))], wMo G.2.1 mo M1, hsL G.2.1 hs1, blk G.2.1 sv1]) h9 13 [1, 2, 3, 4, 5, 6, 7, 8, 9, 10, 0, 11, 12] rfl rfl rfl
  rw [hb9]
  have w : Wd G A s.heap (fl [wXo G.2.1 (ad 0) (xF ad) (svV sv1) K1, wSh G.2.1 (ad 1) S1, wSh G.2.1 (ad 2) Fc1, wTe G.2.1 (ad 4) C1, wSb G.2.1 (ad 5) ou1, wAd G.2.1 (ad 6) D1, wAb G.2.1 (ad 7) B1, wHo G.2.1 (ad 3) cu1 ct1 hs1, [(fo, .inl (G.2.1 4, 1, .inr (.inl f1)))], [(fd, .inl (G.2.1 5, 1, .inr (.inr (.inr (.inl fD)))))], wMo G.2.1 mo M1, hsL G.2.1 hs1, blk G.2.1 sv1]) _ _ := w
  refine lv_istore (lv' := [(7, .int b1), (6, .int r8), (5, .int (nI i)), (4, .ref fd), (3, .ref fo), (2, .ref (mo 0)), (1, .ref ((ad 0) 0)), (0, .ref b)]) F.x F.b dL_law_409 hl (by decide) rfl (fun ls hl => ?_)
  refine lv_aload_n F.x F.b dL_law_411 rfl (lv_at hl 5 rfl) ?_
  refine kXi F w hst (LC := [wMo G.2.1 mo M1]) (LR := [wXo G.2.1 (ad 0) (xF ad) (svV sv1) K1, wSh G.2.1 (ad 1) S1, wSh G.2.1 (ad 2) Fc1, wTe G.2.1 (ad 4) C1, wSb G.2.1 (ad 5) ou1, wAd G.2.1 (ad 6) D1, wAb G.2.1 (ad 7) B1, wHo G.2.1 (ad 3) cu1 ct1 hs1, [(fo, .inl (G.2.1 4, 1, .inr (.inl f1)))], [(fd, .inl (G.2.1 5, 1, .inr (.inr (.inr (.inl fD)))))], hsL G.2.1 hs1, blk G.2.1 sv1]) (As := []) (rest := []) (t_X7_thrown F.1 (r := r8) (show f_X7_thrown M1 = some r8 from by rw [f_X7_thrown, e3])).toX m_X7_thrown v_X7_thrown q1614 (ci := 11) (q0 := 40) rfl rfl rfl 13 [10, 0, 1, 2, 3, 4, 5, 6, 7, 8, 9, 11, 12] rfl rfl rfl ⟨by omega, by omega⟩ rfl hl.1 rfl (Nat.le_of_ble_eq_true rfl) dL_law_412 ⟨by omega, by omega⟩ (fun _ _ _ _ _ _ hx => False.elim hx) (fun r9 w1 H locs h9 w => ?_)
  obtain ⟨hb8, h9⟩ := h9
  have w := w.jn (L1 := [wMo G.2.1 mo M1]) (L' := [wXo G.2.1 (ad 0) (xF ad) (svV sv1) K1, wSh G.2.1 (ad 1) S1, wSh G.2.1 (ad 2) Fc1, wTe G.2.1 (ad 4) C1, wSb G.2.1 (ad 5) ou1, wAd G.2.1 (ad 6) D1, wAb G.2.1 (ad 7) B1, wHo G.2.1 (ad 3) cu1 ct1 hs1, [(fo, .inl (G.2.1 4, 1, .inr (.inl f1)))], [(fd, .inl (G.2.1 5, 1, .inr (.inr (.inr (.inl fD)))))], wMo G.2.1 mo M1, hsL G.2.1 hs1, blk G.2.1 sv1]) h9 13 [1, 2, 3, 4, 5, 6, 7, 8, 9, 10, 0, 11, 12] rfl rfl rfl
  rw [hb8]
  have w : Wd G A s.heap (fl [wXo G.2.1 (ad 0) (xF ad) (svV sv1) K1, wSh G.2.1 (ad 1) S1, wSh G.2.1 (ad 2) Fc1, wTe G.2.1 (ad 4) C1, wSb G.2.1 (ad 5) ou1, wAd G.2.1 (ad 6) D1, wAb G.2.1 (ad 7) B1, wHo G.2.1 (ad 3) cu1 ct1 hs1, [(fo, .inl (G.2.1 4, 1, .inr (.inl f1)))], [(fd, .inl (G.2.1 5, 1, .inr (.inr (.inr (.inl fD)))))], wMo G.2.1 mo M1, hsL G.2.1 hs1, blk G.2.1 sv1]) _ _ := w
  refine lv_iload F.x F.b dL_law_415 (lv_at hl 1 rfl) ?_
  refine lv_icmp_eq (tgt := 422) F.x F.b dL_law_417 (by decide) (fun _ => ?_) (fun c9 => absurd rfl c9)
  refine lv_iload F.x F.b dL_law_422 (lv_at hl 1 rfl) ?_
  by_cases hr : r8 = 0
  · refine lv_if_ne (tgt := 439) F.x F.b dL_law_424 (by decide) (fun c9 => absurd hr c9) (fun _ => ?_)
    refine lv_aload_n F.x F.b dL_law_427 rfl (lv_at hl 4 rfl) ?_
    refine lv_iconst (v := 0) F.x F.b dL_law_428 (by decide) ?_
    refine rLl F w 38 rfl (by decide) (v := Int32.toInt64 b1) (by rw [sb_cl0]; exact hf hr) dL_law_429 ?_
    refine lv_iload F.x F.b dL_law_430 (lv_at hl 0 rfl) ?_
    refine lv_i2l (v := (Int32.toInt64 b1)) F.x F.b dL_law_432 rfl ?_
    refine rLc F.x F.b rfl dL_law_433 ?_
    refine lv_if_eq (tgt := 439) F.x F.b dL_law_434 (by decide) (fun _ => ?_) (fun c9 => absurd rfl c9)
    refine lv_goto (tgt := 2836) F.x F.b dL_law_439 (by decide) ?_
    refine W.widen (k := cells + 20) (n := slots + 200) (by omega) (by omega) ?_
    exact kk K1 S1 Fc1 C1 D1 B1 cu1 ct1 hs1 sv1 ou1 M1 f1 fD _ _ _ w e4 (lv_sub hl [2, 3, 4, 5, 6, 7] rfl)
  · refine lv_if_ne (tgt := 439) F.x F.b dL_law_424 (by decide) (fun _ => ?_) (fun c9 => absurd c9 hr)
    refine lv_goto (tgt := 2836) F.x F.b dL_law_439 (by decide) ?_
    refine W.widen (k := cells + 20) (n := slots + 200) (by omega) (by omega) ?_
    exact kk K1 S1 Fc1 C1 D1 B1 cu1 ct1 hs1 sv1 ou1 M1 f1 fD _ _ _ w e4 (lv_sub hl [2, 3, 4, 5, 6, 7] rfl)
set_option maxRecDepth 100000 in
set_option maxHeartbeats 4000000 in
theorem cs_2 {G : cG} {p : Program} {l : Launch} {e : Env} {R : Room} {s : State} {m : MethodId} {args : Array Value} {below : List Frame} {meth : Method} {c : Code} {A : Nat → Prop} {Q : State → Prop} {ad : Nat → Nat → Nat} {fo fd : Nat} {mo : Nat → Nat} {b i L N cells slots : Nat} {xs : Nat → Int32} {ks kv : Nat → Nat} {d1 d2 : Nat} {K S Fc C D B : Mem} {cu ct : Nat} {hs : hS} {sv : sV} {ou : oB} {M : Mem} {f0 : Nat → Int64} {fD : Nat → UInt64} {H : Heap} {locs : List Loc} {ls : Array Slot} (F : Fx G p s m c cL_law 9 RL A) (gM : MG G) (hNC : NcG G) (hSG : SG G ks kv) (pv : PV G) (hD : DGs G d1 d2) (hst : l.stackTraces = false) (hX : va_X b L xs s s.heap) (hbA : ¬ A b) (hbl : b < s.heap.size) (hL : L ≤ 2560) (hi : i + 5 ≤ L) (hR1 : 60 ≤ R.frames) (hR2 : 3000 ≤ R.locals) (hc1 : cells + 20 ≤ R.cells) (hs1 : slots + 200 ≤ R.slots) (hN : N < 2 ^ 29) (h : Top N K S C cu ct hs sv ou M) (w : Wd G A s.heap (fl (wAll G.2.1 ad K S Fc C D B cu ct hs sv ou fo f0 fd fD mo M)) H locs) (hl : lv_has ls 9 [(5, .int (nI i)), (4, .ref fd), (3, .ref fo), (2, .ref (mo 0)), (1, .ref ((ad 0) 0)), (0, .ref b)]) (kk : KKc G p l e R s m args below meth c A Q ad fo fd mo b i N cells slots) : W p l e R s m args below meth c H locs cells slots Q (F0 m 442 ls []) := by
  have w : Wd G A s.heap (fl [wXo G.2.1 (ad 0) (xF ad) (svV sv) K, wSh G.2.1 (ad 1) S, wSh G.2.1 (ad 2) Fc, wTe G.2.1 (ad 4) C, wSb G.2.1 (ad 5) ou, wAd G.2.1 (ad 6) D, wAb G.2.1 (ad 7) B, wHo G.2.1 (ad 3) cu ct hs, [(fo, .inl (G.2.1 4, 1, .inr (.inl f0)))], [(fd, .inl (G.2.1 5, 1, .inr (.inr (.inr (.inl fD)))))], wMo G.2.1 mo M, hsL G.2.1 hs, blk G.2.1 sv]) H locs := w
  refine lv_aload_n F.x F.b dL_law_442 rfl (lv_at hl 4 rfl) ?_
  refine lv_aload_n F.x F.b dL_law_443 rfl (lv_at hl 5 rfl) ?_
  refine lv_iload F.x F.b dL_law_444 (lv_at hl 0 rfl) ?_
  refine lv_iconst (v := 1) F.x F.b dL_law_446 (by decide) ?_
  refine lv_iadd F.x F.b dL_law_447 ?_
  refine rX F w hX hbA hbl (k := i + 1) (nI_add i 1) (by omega) hL dL_law_448 ?_
  refine lv_aload_n F.x F.b dL_law_449 rfl (lv_at hl 2 rfl) ?_
  refine kLi F w hst (LC := [wXo G.2.1 (ad 0) (xF ad) (svV sv) K, wSh G.2.1 (ad 1) S, wSh G.2.1 (ad 2) Fc, wTe G.2.1 (ad 4) C, wSb G.2.1 (ad 5) ou, wAd G.2.1 (ad 6) D, wAb G.2.1 (ad 7) B, wHo G.2.1 (ad 3) cu ct hs, [(fo, .inl (G.2.1 4, 1, .inr (.inl f0)))], hsL G.2.1 hs, blk G.2.1 sv]) (LR := [[(fd, .inl (G.2.1 5, 1, .inr (.inr (.inr (.inl fD)))))], wMo G.2.1 mo M]) (As := [.ref ((ad 0) 0), .int (xs (i + 1)), .ref fo]) (rest := []) (l_open F.1 gM hNC h hN) mh_open vh_open (List.mem_of_getElem? (i := 996) (by decide +kernel)) 13 [0, 1, 2, 3, 4, 5, 6, 7, 8, 11, 12, 9, 10] rfl rfl rfl ⟨by omega, by omega⟩ rfl hl.1 rfl (Nat.le_of_ble_eq_true rfl) dL_law_450 ⟨by omega, by omega⟩ (fun r8 w1 H locs h9 w => ?_)
  obtain ⟨K1, S1, Fc1, C1, D1, B1, cu1, ct1, hs1, sv1, ou1, M1, b1, f1, h9, e2, e3, e4, hf⟩ := h9
  have w := w.jn (L1 := [wXo G.2.1 (ad 0) (xF ad) (svV sv1) K1, wSh G.2.1 (ad 1) S1, wSh G.2.1 (ad 2) Fc1, wTe G.2.1 (ad 4) C1, wSb G.2.1 (ad 5) ou1, wAd G.2.1 (ad 6) D1, wAb G.2.1 (ad 7) B1, wHo G.2.1 (ad 3) cu1 ct1 hs1, [(fo, .inl (G.2.1 4, 1, .inr (.inl f1)))], hsL G.2.1 hs1, blk G.2.1 sv1]) (L' := [wXo G.2.1 (ad 0) (xF ad) (svV sv1) K1, wSh G.2.1 (ad 1) S1, wSh G.2.1 (ad 2) Fc1, wTe G.2.1 (ad 4) C1, wSb G.2.1 (ad 5) ou1, wAd G.2.1 (ad 6) D1, wAb G.2.1 (ad 7) B1, wHo G.2.1 (ad 3) cu1 ct1 hs1, [(fo, .inl (G.2.1 4, 1, .inr (.inl f1)))], [(fd, .inl (G.2.1 5, 1, .inr (.inr (.inr (.inl fD)))))], wMo G.2.1 mo M, hsL G.2.1 hs1, blk G.2.1 sv1]) h9 13 [0, 1, 2, 3, 4, 5, 6, 7, 8, 11, 12, 9, 10] rfl rfl rfl
  have w : Wd G A s.heap (fl [wXo G.2.1 (ad 0) (xF ad) (svV sv1) K1, wSh G.2.1 (ad 1) S1, wSh G.2.1 (ad 2) Fc1, wTe G.2.1 (ad 4) C1, wSb G.2.1 (ad 5) ou1, wAd G.2.1 (ad 6) D1, wAb G.2.1 (ad 7) B1, wHo G.2.1 (ad 3) cu1 ct1 hs1, [(fo, .inl (G.2.1 4, 1, .inr (.inl f1)))], [(fd, .inl (G.2.1 5, 1, .inr (.inr (.inr (.inl fD)))))], wMo G.2.1 mo M, hsL G.2.1 hs1, blk G.2.1 sv1]) _ _ := w
  refine lv_istore (lv' := [(6, .int r8), (5, .int (nI i)), (4, .ref fd), (3, .ref fo), (2, .ref (mo 0)), (1, .ref ((ad 0) 0)), (0, .ref b)]) F.x F.b dL_law_453 hl (by decide) rfl (fun ls hl => ?_)
  refine lv_aload_n F.x F.b dL_law_455 rfl (lv_at hl 4 rfl) ?_
  refine lv_aload_n F.x F.b dL_law_456 rfl (lv_at hl 6 rfl) ?_
  refine lv_iload F.x F.b dL_law_457 (lv_at hl 1 rfl) ?_
  refine lv_iconst (v := 1) F.x F.b dL_law_459 (by decide) ?_
  refine lv_iadd F.x F.b dL_law_460 ?_
  refine rX F w hX hbA hbl (k := i + 1) (nI_add i 1) (by omega) hL dL_law_461 ?_
  refine kXi F w hst (LC := [wMo G.2.1 mo M]) (LR := [wXo G.2.1 (ad 0) (xF ad) (svV sv1) K1, wSh G.2.1 (ad 1) S1, wSh G.2.1 (ad 2) Fc1, wTe G.2.1 (ad 4) C1, wSb G.2.1 (ad 5) ou1, wAd G.2.1 (ad 6) D1, wAb G.2.1 (ad 7) B1, wHo G.2.1 (ad 3) cu1 ct1 hs1, [(fo, .inl (G.2.1 4, 1, .inr (.inl f1)))], [(fd, .inl (G.2.1 5, 1, .inr (.inr (.inr (.inl fD)))))], hsL G.2.1 hs1, blk G.2.1 sv1]) (As := [.int (xs (i + 1))]) (rest := []) (t_X7_open F.1 e2).toX m_X7_open v_X7_open q1683 (ci := 11) (q0 := 40) rfl rfl rfl 13 [10, 0, 1, 2, 3, 4, 5, 6, 7, 8, 9, 11, 12] rfl rfl rfl ⟨by omega, by omega⟩ rfl hl.1 rfl (Nat.le_of_ble_eq_true rfl) dL_law_462 ⟨by omega, by omega⟩ (fun _ _ _ _ _ _ hx => False.elim hx) (fun r9 w1 H locs h9 w => ?_)
  obtain ⟨hb9, h9⟩ := h9
  have w := w.jn (L1 := [wMo G.2.1 mo M1]) (L' := [wXo G.2.1 (ad 0) (xF ad) (svV sv1) K1, wSh G.2.1 (ad 1) S1, wSh G.2.1 (ad 2) Fc1, wTe G.2.1 (ad 4) C1, wSb G.2.1 (ad 5) ou1, wAd G.2.1 (ad 6) D1, wAb G.2.1 (ad 7) B1, wHo G.2.1 (ad 3) cu1 ct1 hs1, [(fo, .inl (G.2.1 4, 1, .inr (.inl f1)))], [(fd, .inl (G.2.1 5, 1, .inr (.inr (.inr (.inl fD)))))], wMo G.2.1 mo M1, hsL G.2.1 hs1, blk G.2.1 sv1]) h9 13 [1, 2, 3, 4, 5, 6, 7, 8, 9, 10, 0, 11, 12] rfl rfl rfl
  rw [hb9]
  have w : Wd G A s.heap (fl [wXo G.2.1 (ad 0) (xF ad) (svV sv1) K1, wSh G.2.1 (ad 1) S1, wSh G.2.1 (ad 2) Fc1, wTe G.2.1 (ad 4) C1, wSb G.2.1 (ad 5) ou1, wAd G.2.1 (ad 6) D1, wAb G.2.1 (ad 7) B1, wHo G.2.1 (ad 3) cu1 ct1 hs1, [(fo, .inl (G.2.1 4, 1, .inr (.inl f1)))], [(fd, .inl (G.2.1 5, 1, .inr (.inr (.inr (.inl fD)))))], wMo G.2.1 mo M1, hsL G.2.1 hs1, blk G.2.1 sv1]) _ _ := w
  refine lv_istore (lv' := [(7, .int b1), (6, .int r8), (5, .int (nI i)), (4, .ref fd), (3, .ref fo), (2, .ref (mo 0)), (1, .ref ((ad 0) 0)), (0, .ref b)]) F.x F.b dL_law_465 hl (by decide) rfl (fun ls hl => ?_)
  refine lv_aload_n F.x F.b dL_law_467 rfl (lv_at hl 5 rfl) ?_
  refine kXi F w hst (LC := [wMo G.2.1 mo M1]) (LR := [wXo G.2.1 (ad 0) (xF ad) (svV sv1) K1, wSh G.2.1 (ad 1) S1, wSh G.2.1 (ad 2) Fc1, wTe G.2.1 (ad 4) C1, wSb G.2.1 (ad 5) ou1, wAd G.2.1 (ad 6) D1, wAb G.2.1 (ad 7) B1, wHo G.2.1 (ad 3) cu1 ct1 hs1, [(fo, .inl (G.2.1 4, 1, .inr (.inl f1)))], [(fd, .inl (G.2.1 5, 1, .inr (.inr (.inr (.inl fD)))))], hsL G.2.1 hs1, blk G.2.1 sv1]) (As := []) (rest := []) (t_X7_thrown F.1 (r := r8) (show f_X7_thrown M1 = some r8 from by rw [f_X7_thrown, e3])).toX m_X7_thrown v_X7_thrown q1614 (ci := 11) (q0 := 40) rfl rfl rfl 13 [10, 0, 1, 2, 3, 4, 5, 6, 7, 8, 9, 11, 12] rfl rfl rfl ⟨by omega, by omega⟩ rfl hl.1 rfl (Nat.le_of_ble_eq_true rfl) dL_law_468 ⟨by omega, by omega⟩ (fun _ _ _ _ _ _ hx => False.elim hx) (fun r9 w1 H locs h9 w => ?_)
  obtain ⟨hb8, h9⟩ := h9
  have w := w.jn (L1 := [wMo G.2.1 mo M1]) (L' := [wXo G.2.1 (ad 0) (xF ad) (svV sv1) K1, wSh G.2.1 (ad 1) S1, wSh G.2.1 (ad 2) Fc1, wTe G.2.1 (ad 4) C1, wSb G.2.1 (ad 5) ou1, wAd G.2.1 (ad 6) D1, wAb G.2.1 (ad 7) B1, wHo G.2.1 (ad 3) cu1 ct1 hs1, [(fo, .inl (G.2.1 4, 1, .inr (.inl f1)))], [(fd, .inl (G.2.1 5, 1, .inr (.inr (.inr (.inl fD)))))], wMo G.2.1 mo M1, hsL G.2.1 hs1, blk G.2.1 sv1]) h9 13 [1, 2, 3, 4, 5, 6, 7, 8, 9, 10, 0, 11, 12] rfl rfl rfl
  rw [hb8]
  have w : Wd G A s.heap (fl [wXo G.2.1 (ad 0) (xF ad) (svV sv1) K1, wSh G.2.1 (ad 1) S1, wSh G.2.1 (ad 2) Fc1, wTe G.2.1 (ad 4) C1, wSb G.2.1 (ad 5) ou1, wAd G.2.1 (ad 6) D1, wAb G.2.1 (ad 7) B1, wHo G.2.1 (ad 3) cu1 ct1 hs1, [(fo, .inl (G.2.1 4, 1, .inr (.inl f1)))], [(fd, .inl (G.2.1 5, 1, .inr (.inr (.inr (.inl fD)))))], wMo G.2.1 mo M1, hsL G.2.1 hs1, blk G.2.1 sv1]) _ _ := w
  refine lv_iload F.x F.b dL_law_471 (lv_at hl 1 rfl) ?_
  refine lv_icmp_eq (tgt := 478) F.x F.b dL_law_473 (by decide) (fun _ => ?_) (fun c9 => absurd rfl c9)
  refine lv_iload F.x F.b dL_law_478 (lv_at hl 1 rfl) ?_
  by_cases hr : r8 = 0
  · refine lv_if_ne (tgt := 495) F.x F.b dL_law_480 (by decide) (fun c9 => absurd hr c9) (fun _ => ?_)
    refine lv_aload_n F.x F.b dL_law_483 rfl (lv_at hl 4 rfl) ?_
    refine lv_iconst (v := 0) F.x F.b dL_law_484 (by decide) ?_
    refine rLl F w 38 rfl (by decide) (v := Int32.toInt64 b1) (by rw [sb_cl0]; exact hf hr) dL_law_485 ?_
    refine lv_iload F.x F.b dL_law_486 (lv_at hl 0 rfl) ?_
    refine lv_i2l (v := (Int32.toInt64 b1)) F.x F.b dL_law_488 rfl ?_
    refine rLc F.x F.b rfl dL_law_489 ?_
    refine lv_if_eq (tgt := 495) F.x F.b dL_law_490 (by decide) (fun _ => ?_) (fun c9 => absurd rfl c9)
    refine lv_goto (tgt := 2836) F.x F.b dL_law_495 (by decide) ?_
    refine W.widen (k := cells + 20) (n := slots + 200) (by omega) (by omega) ?_
    exact kk K1 S1 Fc1 C1 D1 B1 cu1 ct1 hs1 sv1 ou1 M1 f1 fD _ _ _ w e4 (lv_sub hl [2, 3, 4, 5, 6, 7] rfl)
  · refine lv_if_ne (tgt := 495) F.x F.b dL_law_480 (by decide) (fun _ => ?_) (fun c9 => absurd c9 hr)
    refine lv_goto (tgt := 2836) F.x F.b dL_law_495 (by decide) ?_
    refine W.widen (k := cells + 20) (n := slots + 200) (by omega) (by omega) ?_
    exact kk K1 S1 Fc1 C1 D1 B1 cu1 ct1 hs1 sv1 ou1 M1 f1 fD _ _ _ w e4 (lv_sub hl [2, 3, 4, 5, 6, 7] rfl)
set_option maxRecDepth 100000 in
set_option maxHeartbeats 4000000 in
theorem cs_3 {G : cG} {p : Program} {l : Launch} {e : Env} {R : Room} {s : State} {m : MethodId} {args : Array Value} {below : List Frame} {meth : Method} {c : Code} {A : Nat → Prop} {Q : State → Prop} {ad : Nat → Nat → Nat} {fo fd : Nat} {mo : Nat → Nat} {b i L N cells slots : Nat} {xs : Nat → Int32} {ks kv : Nat → Nat} {d1 d2 : Nat} {K S Fc C D B : Mem} {cu ct : Nat} {hs : hS} {sv : sV} {ou : oB} {M : Mem} {f0 : Nat → Int64} {fD : Nat → UInt64} {H : Heap} {locs : List Loc} {ls : Array Slot} (F : Fx G p s m c cL_law 9 RL A) (gM : MG G) (hNC : NcG G) (hSG : SG G ks kv) (pv : PV G) (hD : DGs G d1 d2) (hst : l.stackTraces = false) (hX : va_X b L xs s s.heap) (hbA : ¬ A b) (hbl : b < s.heap.size) (hL : L ≤ 2560) (hi : i + 5 ≤ L) (hR1 : 60 ≤ R.frames) (hR2 : 3000 ≤ R.locals) (hc1 : cells + 20 ≤ R.cells) (hs1 : slots + 200 ≤ R.slots) (hN : N < 2 ^ 29) (h : Top N K S C cu ct hs sv ou M) (w : Wd G A s.heap (fl (wAll G.2.1 ad K S Fc C D B cu ct hs sv ou fo f0 fd fD mo M)) H locs) (hl : lv_has ls 9 [(5, .int (nI i)), (4, .ref fd), (3, .ref fo), (2, .ref (mo 0)), (1, .ref ((ad 0) 0)), (0, .ref b)]) (kk : KKc G p l e R s m args below meth c A Q ad fo fd mo b i N cells slots) : W p l e R s m args below meth c H locs cells slots Q (F0 m 498 ls []) := by
  have w : Wd G A s.heap (fl [wXo G.2.1 (ad 0) (xF ad) (svV sv) K, wSh G.2.1 (ad 1) S, wSh G.2.1 (ad 2) Fc, wTe G.2.1 (ad 4) C, wSb G.2.1 (ad 5) ou, wAd G.2.1 (ad 6) D, wAb G.2.1 (ad 7) B, wHo G.2.1 (ad 3) cu ct hs, [(fo, .inl (G.2.1 4, 1, .inr (.inl f0)))], [(fd, .inl (G.2.1 5, 1, .inr (.inr (.inr (.inl fD)))))], wMo G.2.1 mo M, hsL G.2.1 hs, blk G.2.1 sv]) H locs := w
  refine lv_aload_n F.x F.b dL_law_498 rfl (lv_at hl 4 rfl) ?_
  refine lv_aload_n F.x F.b dL_law_499 rfl (lv_at hl 5 rfl) ?_
  refine lv_iload F.x F.b dL_law_500 (lv_at hl 0 rfl) ?_
  refine lv_iconst (v := 1) F.x F.b dL_law_502 (by decide) ?_
  refine lv_iadd F.x F.b dL_law_503 ?_
  refine rX F w hX hbA hbl (k := i + 1) (nI_add i 1) (by omega) hL dL_law_504 ?_
  refine lv_aload_n F.x F.b dL_law_505 rfl (lv_at hl 2 rfl) ?_
  refine kLi F w hst (LC := [wXo G.2.1 (ad 0) (xF ad) (svV sv) K, wSh G.2.1 (ad 1) S, wSh G.2.1 (ad 2) Fc, wTe G.2.1 (ad 4) C, wSb G.2.1 (ad 5) ou, wAd G.2.1 (ad 6) D, wAb G.2.1 (ad 7) B, wHo G.2.1 (ad 3) cu ct hs, [(fo, .inl (G.2.1 4, 1, .inr (.inl f0)))], hsL G.2.1 hs, blk G.2.1 sv]) (LR := [[(fd, .inl (G.2.1 5, 1, .inr (.inr (.inr (.inl fD)))))], wMo G.2.1 mo M]) (As := [.ref ((ad 0) 0), .int (xs (i + 1)), .ref fo]) (rest := []) (l_wet F.1 gM hNC h hN) mh_wet vh_wet (List.mem_of_getElem? (i := 1007) (by decide +kernel)) 13 [0, 1, 2, 3, 4, 5, 6, 7, 8, 11, 12, 9, 10] rfl rfl rfl ⟨by omega, by omega⟩ rfl hl.1 rfl (Nat.le_of_ble_eq_true rfl) dL_law_506 ⟨by omega, by omega⟩ (fun r8 w1 H locs h9 w => ?_)
  obtain ⟨K1, S1, Fc1, C1, D1, B1, cu1, ct1, hs1, sv1, ou1, M1, b1, f1, h9, e2, e3, e4, hf⟩ := h9
  have w := w.jn (L1 := [wXo G.2.1 (ad 0) (xF ad) (svV sv1) K1, wSh G.2.1 (ad 1) S1, wSh G.2.1 (ad 2) Fc1, wTe G.2.1 (ad 4) C1, wSb G.2.1 (ad 5) ou1, wAd G.2.1 (ad 6) D1, wAb G.2.1 (ad 7) B1, wHo G.2.1 (ad 3) cu1 ct1 hs1, [(fo, .inl (G.2.1 4, 1, .inr (.inl f1)))], hsL G.2.1 hs1, blk G.2.1 sv1]) (L' := [wXo G.2.1 (ad 0) (xF ad) (svV sv1) K1, wSh G.2.1 (ad 1) S1, wSh G.2.1 (ad 2) Fc1, wTe G.2.1 (ad 4) C1, wSb G.2.1 (ad 5) ou1, wAd G.2.1 (ad 6) D1, wAb G.2.1 (ad 7) B1, wHo G.2.1 (ad 3) cu1 ct1 hs1, [(fo, .inl (G.2.1 4, 1, .inr (.inl f1)))], [(fd, .inl (G.2.1 5, 1, .inr (.inr (.inr (.inl fD)))))], wMo G.2.1 mo M, hsL G.2.1 hs1, blk G.2.1 sv1]) h9 13 [0, 1, 2, 3, 4, 5, 6, 7, 8, 11, 12, 9, 10] rfl rfl rfl
  have w : Wd G A s.heap (fl [wXo G.2.1 (ad 0) (xF ad) (svV sv1) K1, wSh G.2.1 (ad 1) S1, wSh G.2.1 (ad 2) Fc1, wTe G.2.1 (ad 4) C1, wSb G.2.1 (ad 5) ou1, wAd G.2.1 (ad 6) D1, wAb G.2.1 (ad 7) B1, wHo G.2.1 (ad 3) cu1 ct1 hs1, [(fo, .inl (G.2.1 4, 1, .inr (.inl f1)))], [(fd, .inl (G.2.1 5, 1, .inr (.inr (.inr (.inl fD)))))], wMo G.2.1 mo M, hsL G.2.1 hs1, blk G.2.1 sv1]) _ _ := w
  refine lv_istore (lv' := [(6, .int r8), (5, .int (nI i)), (4, .ref fd), (3, .ref fo), (2, .ref (mo 0)), (1, .ref ((ad 0) 0)), (0, .ref b)]) F.x F.b dL_law_509 hl (by decide) rfl (fun ls hl => ?_)
  refine lv_aload_n F.x F.b dL_law_511 rfl (lv_at hl 4 rfl) ?_
  refine lv_aload_n F.x F.b dL_law_512 rfl (lv_at hl 6 rfl) ?_
  refine lv_iload F.x F.b dL_law_513 (lv_at hl 1 rfl) ?_
  refine lv_iconst (v := 1) F.x F.b dL_law_515 (by decide) ?_
  refine lv_iadd F.x F.b dL_law_516 ?_
  refine rX F w hX hbA hbl (k := i + 1) (nI_add i 1) (by omega) hL dL_law_517 ?_
  refine kXi F w hst (LC := [wMo G.2.1 mo M]) (LR := [wXo G.2.1 (ad 0) (xF ad) (svV sv1) K1, wSh G.2.1 (ad 1) S1, wSh G.2.1 (ad 2) Fc1, wTe G.2.1 (ad 4) C1, wSb G.2.1 (ad 5) ou1, wAd G.2.1 (ad 6) D1, wAb G.2.1 (ad 7) B1, wHo G.2.1 (ad 3) cu1 ct1 hs1, [(fo, .inl (G.2.1 4, 1, .inr (.inl f1)))], [(fd, .inl (G.2.1 5, 1, .inr (.inr (.inr (.inl fD)))))], hsL G.2.1 hs1, blk G.2.1 sv1]) (As := [.int (xs (i + 1))]) (rest := []) (t_X7_wet F.1 e2).toX m_X7_wet v_X7_wet q1691 (ci := 11) (q0 := 40) rfl rfl rfl 13 [10, 0, 1, 2, 3, 4, 5, 6, 7, 8, 9, 11, 12] rfl rfl rfl ⟨by omega, by omega⟩ rfl hl.1 rfl (Nat.le_of_ble_eq_true rfl) dL_law_518 ⟨by omega, by omega⟩ (fun _ _ _ _ _ _ hx => False.elim hx) (fun r9 w1 H locs h9 w => ?_)
  obtain ⟨hb9, h9⟩ := h9
  have w := w.jn (L1 := [wMo G.2.1 mo M1]) (L' := [wXo G.2.1 (ad 0) (xF ad) (svV sv1) K1, wSh G.2.1 (ad 1) S1, wSh G.2.1 (ad 2) Fc1, wTe G.2.1 (ad 4) C1, wSb G.2.1 (ad 5) ou1, wAd G.2.1 (ad 6) D1, wAb G.2.1 (ad 7) B1, wHo G.2.1 (ad 3) cu1 ct1 hs1, [(fo, .inl (G.2.1 4, 1, .inr (.inl f1)))], [(fd, .inl (G.2.1 5, 1, .inr (.inr (.inr (.inl fD)))))], wMo G.2.1 mo M1, hsL G.2.1 hs1, blk G.2.1 sv1]) h9 13 [1, 2, 3, 4, 5, 6, 7, 8, 9, 10, 0, 11, 12] rfl rfl rfl
  rw [hb9]
  have w : Wd G A s.heap (fl [wXo G.2.1 (ad 0) (xF ad) (svV sv1) K1, wSh G.2.1 (ad 1) S1, wSh G.2.1 (ad 2) Fc1, wTe G.2.1 (ad 4) C1, wSb G.2.1 (ad 5) ou1, wAd G.2.1 (ad 6) D1, wAb G.2.1 (ad 7) B1, wHo G.2.1 (ad 3) cu1 ct1 hs1, [(fo, .inl (G.2.1 4, 1, .inr (.inl f1)))], [(fd, .inl (G.2.1 5, 1, .inr (.inr (.inr (.inl fD)))))], wMo G.2.1 mo M1, hsL G.2.1 hs1, blk G.2.1 sv1]) _ _ := w
  refine lv_istore (lv' := [(7, .int b1), (6, .int r8), (5, .int (nI i)), (4, .ref fd), (3, .ref fo), (2, .ref (mo 0)), (1, .ref ((ad 0) 0)), (0, .ref b)]) F.x F.b dL_law_521 hl (by decide) rfl (fun ls hl => ?_)
  refine lv_aload_n F.x F.b dL_law_523 rfl (lv_at hl 5 rfl) ?_
  refine kXi F w hst (LC := [wMo G.2.1 mo M1]) (LR := [wXo G.2.1 (ad 0) (xF ad) (svV sv1) K1, wSh G.2.1 (ad 1) S1, wSh G.2.1 (ad 2) Fc1, wTe G.2.1 (ad 4) C1, wSb G.2.1 (ad 5) ou1, wAd G.2.1 (ad 6) D1, wAb G.2.1 (ad 7) B1, wHo G.2.1 (ad 3) cu1 ct1 hs1, [(fo, .inl (G.2.1 4, 1, .inr (.inl f1)))], [(fd, .inl (G.2.1 5, 1, .inr (.inr (.inr (.inl fD)))))], hsL G.2.1 hs1, blk G.2.1 sv1]) (As := []) (rest := []) (t_X7_thrown F.1 (r := r8) (show f_X7_thrown M1 = some r8 from by rw [f_X7_thrown, e3])).toX m_X7_thrown v_X7_thrown q1614 (ci := 11) (q0 := 40) rfl rfl rfl 13 [10, 0, 1, 2, 3, 4, 5, 6, 7, 8, 9, 11, 12] rfl rfl rfl ⟨by omega, by omega⟩ rfl hl.1 rfl (Nat.le_of_ble_eq_true rfl) dL_law_524 ⟨by omega, by omega⟩ (fun _ _ _ _ _ _ hx => False.elim hx) (fun r9 w1 H locs h9 w => ?_)
  obtain ⟨hb8, h9⟩ := h9
  have w := w.jn (L1 := [wMo G.2.1 mo M1]) (L' := [wXo G.2.1 (ad 0) (xF ad) (svV sv1) K1, wSh G.2.1 (ad 1) S1, wSh G.2.1 (ad 2) Fc1, wTe G.2.1 (ad 4) C1, wSb G.2.1 (ad 5) ou1, wAd G.2.1 (ad 6) D1, wAb G.2.1 (ad 7) B1, wHo G.2.1 (ad 3) cu1 ct1 hs1, [(fo, .inl (G.2.1 4, 1, .inr (.inl f1)))], [(fd, .inl (G.2.1 5, 1, .inr (.inr (.inr (.inl fD)))))], wMo G.2.1 mo M1, hsL G.2.1 hs1, blk G.2.1 sv1]) h9 13 [1, 2, 3, 4, 5, 6, 7, 8, 9, 10, 0, 11, 12] rfl rfl rfl
  rw [hb8]
  have w : Wd G A s.heap (fl [wXo G.2.1 (ad 0) (xF ad) (svV sv1) K1, wSh G.2.1 (ad 1) S1, wSh G.2.1 (ad 2) Fc1, wTe G.2.1 (ad 4) C1, wSb G.2.1 (ad 5) ou1, wAd G.2.1 (ad 6) D1, wAb G.2.1 (ad 7) B1, wHo G.2.1 (ad 3) cu1 ct1 hs1, [(fo, .inl (G.2.1 4, 1, .inr (.inl f1)))], [(fd, .inl (G.2.1 5, 1, .inr (.inr (.inr (.inl fD)))))], wMo G.2.1 mo M1, hsL G.2.1 hs1, blk G.2.1 sv1]) _ _ := w
  refine lv_iload F.x F.b dL_law_527 (lv_at hl 1 rfl) ?_
  refine lv_icmp_eq (tgt := 534) F.x F.b dL_law_529 (by decide) (fun _ => ?_) (fun c9 => absurd rfl c9)
  refine lv_iload F.x F.b dL_law_534 (lv_at hl 1 rfl) ?_
  by_cases hr : r8 = 0
  · refine lv_if_ne (tgt := 551) F.x F.b dL_law_536 (by decide) (fun c9 => absurd hr c9) (fun _ => ?_)
    refine lv_aload_n F.x F.b dL_law_539 rfl (lv_at hl 4 rfl) ?_
    refine lv_iconst (v := 0) F.x F.b dL_law_540 (by decide) ?_
    refine rLl F w 38 rfl (by decide) (v := Int32.toInt64 b1) (by rw [sb_cl0]; exact hf hr) dL_law_541 ?_
    refine lv_iload F.x F.b dL_law_542 (lv_at hl 0 rfl) ?_
    refine lv_i2l (v := (Int32.toInt64 b1)) F.x F.b dL_law_544 rfl ?_
    refine rLc F.x F.b rfl dL_law_545 ?_
    refine lv_if_eq (tgt := 551) F.x F.b dL_law_546 (by decide) (fun _ => ?_) (fun c9 => absurd rfl c9)
    refine lv_goto (tgt := 2836) F.x F.b dL_law_551 (by decide) ?_
    refine W.widen (k := cells + 20) (n := slots + 200) (by omega) (by omega) ?_
    exact kk K1 S1 Fc1 C1 D1 B1 cu1 ct1 hs1 sv1 ou1 M1 f1 fD _ _ _ w e4 (lv_sub hl [2, 3, 4, 5, 6, 7] rfl)
  · refine lv_if_ne (tgt := 551) F.x F.b dL_law_536 (by decide) (fun _ => ?_) (fun c9 => absurd c9 hr)
    refine lv_goto (tgt := 2836) F.x F.b dL_law_551 (by decide) ?_
    refine W.widen (k := cells + 20) (n := slots + 200) (by omega) (by omega) ?_
    exact kk K1 S1 Fc1 C1 D1 B1 cu1 ct1 hs1 sv1 ou1 M1 f1 fD _ _ _ w e4 (lv_sub hl [2, 3, 4, 5, 6, 7] rfl)
set_option maxRecDepth 100000 in
set_option maxHeartbeats 4000000 in
theorem cs_4 {G : cG} {p : Program} {l : Launch} {e : Env} {R : Room} {s : State} {m : MethodId} {args : Array Value} {below : List Frame} {meth : Method} {c : Code} {A : Nat → Prop} {Q : State → Prop} {ad : Nat → Nat → Nat} {fo fd : Nat} {mo : Nat → Nat} {b i L N cells slots : Nat} {xs : Nat → Int32} {ks kv : Nat → Nat} {d1 d2 : Nat} {K S Fc C D B : Mem} {cu ct : Nat} {hs : hS} {sv : sV} {ou : oB} {M : Mem} {f0 : Nat → Int64} {fD : Nat → UInt64} {H : Heap} {locs : List Loc} {ls : Array Slot} (F : Fx G p s m c cL_law 9 RL A) (gM : MG G) (hNC : NcG G) (hSG : SG G ks kv) (pv : PV G) (hD : DGs G d1 d2) (hst : l.stackTraces = false) (hX : va_X b L xs s s.heap) (hbA : ¬ A b) (hbl : b < s.heap.size) (hL : L ≤ 2560) (hi : i + 5 ≤ L) (hR1 : 60 ≤ R.frames) (hR2 : 3000 ≤ R.locals) (hc1 : cells + 20 ≤ R.cells) (hs1 : slots + 200 ≤ R.slots) (hN : N < 2 ^ 29) (h : Top N K S C cu ct hs sv ou M) (w : Wd G A s.heap (fl (wAll G.2.1 ad K S Fc C D B cu ct hs sv ou fo f0 fd fD mo M)) H locs) (hl : lv_has ls 9 [(5, .int (nI i)), (4, .ref fd), (3, .ref fo), (2, .ref (mo 0)), (1, .ref ((ad 0) 0)), (0, .ref b)]) (kk : KKc G p l e R s m args below meth c A Q ad fo fd mo b i N cells slots) : W p l e R s m args below meth c H locs cells slots Q (F0 m 554 ls []) := by
  have w : Wd G A s.heap (fl [wXo G.2.1 (ad 0) (xF ad) (svV sv) K, wSh G.2.1 (ad 1) S, wSh G.2.1 (ad 2) Fc, wTe G.2.1 (ad 4) C, wSb G.2.1 (ad 5) ou, wAd G.2.1 (ad 6) D, wAb G.2.1 (ad 7) B, wHo G.2.1 (ad 3) cu ct hs, [(fo, .inl (G.2.1 4, 1, .inr (.inl f0)))], [(fd, .inl (G.2.1 5, 1, .inr (.inr (.inr (.inl fD)))))], wMo G.2.1 mo M, hsL G.2.1 hs, blk G.2.1 sv]) H locs := w
  refine lv_aload_n F.x F.b dL_law_554 rfl (lv_at hl 4 rfl) ?_
  refine lv_aload_n F.x F.b dL_law_555 rfl (lv_at hl 5 rfl) ?_
  refine lv_iload F.x F.b dL_law_556 (lv_at hl 0 rfl) ?_
  refine lv_iconst (v := 1) F.x F.b dL_law_558 (by decide) ?_
  refine lv_iadd F.x F.b dL_law_559 ?_
  refine rX F w hX hbA hbl (k := i + 1) (nI_add i 1) (by omega) hL dL_law_560 ?_
  refine lv_aload_n F.x F.b dL_law_561 rfl (lv_at hl 5 rfl) ?_
  refine lv_iload F.x F.b dL_law_562 (lv_at hl 0 rfl) ?_
  refine lv_iconst (v := 2) F.x F.b dL_law_564 (by decide) ?_
  refine lv_iadd F.x F.b dL_law_565 ?_
  refine rX F w hX hbA hbl (k := i + 2) (nI_add i 2) (by omega) hL dL_law_566 ?_
  refine lv_aload_n F.x F.b dL_law_567 rfl (lv_at hl 2 rfl) ?_
  refine kLi F w hst (LC := [wXo G.2.1 (ad 0) (xF ad) (svV sv) K, wSh G.2.1 (ad 1) S, wSh G.2.1 (ad 2) Fc, wTe G.2.1 (ad 4) C, wSb G.2.1 (ad 5) ou, wAd G.2.1 (ad 6) D, wAb G.2.1 (ad 7) B, wHo G.2.1 (ad 3) cu ct hs, [(fo, .inl (G.2.1 4, 1, .inr (.inl f0)))], hsL G.2.1 hs, blk G.2.1 sv]) (LR := [[(fd, .inl (G.2.1 5, 1, .inr (.inr (.inr (.inl fD)))))], wMo G.2.1 mo M]) (As := [.ref ((ad 0) 0), .int (xs (i + 1)), .int (xs (i + 2)), .ref fo]) (rest := []) (l_move F.1 gM hNC h hN) mh_move vh_move (List.mem_of_getElem? (i := 1019) (by decide +kernel)) 13 [0, 1, 2, 3, 4, 5, 6, 7, 8, 11, 12, 9, 10] rfl rfl rfl ⟨by omega, by omega⟩ rfl hl.1 rfl (Nat.le_of_ble_eq_true rfl) dL_law_568 ⟨by omega, by omega⟩ (fun r8 w1 H locs h9 w => ?_)
  obtain ⟨K1, S1, Fc1, C1, D1, B1, cu1, ct1, hs1, sv1, ou1, M1, b1, f1, h9, e2, e3, e4, hf⟩ := h9
  have w := w.jn (L1 := [wXo G.2.1 (ad 0) (xF ad) (svV sv1) K1, wSh G.2.1 (ad 1) S1, wSh G.2.1 (ad 2) Fc1, wTe G.2.1 (ad 4) C1, wSb G.2.1 (ad 5) ou1, wAd G.2.1 (ad 6) D1, wAb G.2.1 (ad 7) B1, wHo G.2.1 (ad 3) cu1 ct1 hs1, [(fo, .inl (G.2.1 4, 1, .inr (.inl f1)))], hsL G.2.1 hs1, blk G.2.1 sv1]) (L' := [wXo G.2.1 (ad 0) (xF ad) (svV sv1) K1, wSh G.2.1 (ad 1) S1, wSh G.2.1 (ad 2) Fc1, wTe G.2.1 (ad 4) C1, wSb G.2.1 (ad 5) ou1, wAd G.2.1 (ad 6) D1, wAb G.2.1 (ad 7) B1, wHo G.2.1 (ad 3) cu1 ct1 hs1, [(fo, .inl (G.2.1 4, 1, .inr (.inl f1)))], [(fd, .inl (G.2.1 5, 1, .inr (.inr (.inr (.inl fD)))))], wMo G.2.1 mo M, hsL G.2.1 hs1, blk G.2.1 sv1]) h9 13 [0, 1, 2, 3, 4, 5, 6, 7, 8, 11, 12, 9, 10] rfl rfl rfl
  have w : Wd G A s.heap (fl [wXo G.2.1 (ad 0) (xF ad) (svV sv1) K1, wSh G.2.1 (ad 1) S1, wSh G.2.1 (ad 2) Fc1, wTe G.2.1 (ad 4) C1, wSb G.2.1 (ad 5) ou1, wAd G.2.1 (ad 6) D1, wAb G.2.1 (ad 7) B1, wHo G.2.1 (ad 3) cu1 ct1 hs1, [(fo, .inl (G.2.1 4, 1, .inr (.inl f1)))], [(fd, .inl (G.2.1 5, 1, .inr (.inr (.inr (.inl fD)))))], wMo G.2.1 mo M, hsL G.2.1 hs1, blk G.2.1 sv1]) _ _ := w
  refine lv_istore (lv' := [(6, .int r8), (5, .int (nI i)), (4, .ref fd), (3, .ref fo), (2, .ref (mo 0)), (1, .ref ((ad 0) 0)), (0, .ref b)]) F.x F.b dL_law_571 hl (by decide) rfl (fun ls hl => ?_)
  refine lv_aload_n F.x F.b dL_law_573 rfl (lv_at hl 4 rfl) ?_
  refine lv_aload_n F.x F.b dL_law_574 rfl (lv_at hl 6 rfl) ?_
  refine lv_iload F.x F.b dL_law_575 (lv_at hl 1 rfl) ?_
  refine lv_iconst (v := 1) F.x F.b dL_law_577 (by decide) ?_
  refine lv_iadd F.x F.b dL_law_578 ?_
  refine rX F w hX hbA hbl (k := i + 1) (nI_add i 1) (by omega) hL dL_law_579 ?_
  refine lv_aload_n F.x F.b dL_law_580 rfl (lv_at hl 6 rfl) ?_
  refine lv_iload F.x F.b dL_law_581 (lv_at hl 1 rfl) ?_
  refine lv_iconst (v := 2) F.x F.b dL_law_583 (by decide) ?_
  refine lv_iadd F.x F.b dL_law_584 ?_
  refine rX F w hX hbA hbl (k := i + 2) (nI_add i 2) (by omega) hL dL_law_585 ?_
  refine kXi F w hst (LC := [wMo G.2.1 mo M]) (LR := [wXo G.2.1 (ad 0) (xF ad) (svV sv1) K1, wSh G.2.1 (ad 1) S1, wSh G.2.1 (ad 2) Fc1, wTe G.2.1 (ad 4) C1, wSb G.2.1 (ad 5) ou1, wAd G.2.1 (ad 6) D1, wAb G.2.1 (ad 7) B1, wHo G.2.1 (ad 3) cu1 ct1 hs1, [(fo, .inl (G.2.1 4, 1, .inr (.inl f1)))], [(fd, .inl (G.2.1 5, 1, .inr (.inr (.inr (.inl fD)))))], hsL G.2.1 hs1, blk G.2.1 sv1]) (As := [.int (xs (i + 1)), .int (xs (i + 2))]) (rest := []) (t_X7_move F.1 e2).toX m_X7_move v_X7_move q1699 (ci := 11) (q0 := 40) rfl rfl rfl 13 [10, 0, 1, 2, 3, 4, 5, 6, 7, 8, 9, 11, 12] rfl rfl rfl ⟨by omega, by omega⟩ rfl hl.1 rfl (Nat.le_of_ble_eq_true rfl) dL_law_586 ⟨by omega, by omega⟩ (fun _ _ _ _ _ _ hx => False.elim hx) (fun r9 w1 H locs h9 w => ?_)
  obtain ⟨hb9, h9⟩ := h9
  have w := w.jn (L1 := [wMo G.2.1 mo M1]) (L' := [wXo G.2.1 (ad 0) (xF ad) (svV sv1) K1, wSh G.2.1 (ad 1) S1, wSh G.2.1 (ad 2) Fc1, wTe G.2.1 (ad 4) C1, wSb G.2.1 (ad 5) ou1, wAd G.2.1 (ad 6) D1, wAb G.2.1 (ad 7) B1, wHo G.2.1 (ad 3) cu1 ct1 hs1, [(fo, .inl (G.2.1 4, 1, .inr (.inl f1)))], [(fd, .inl (G.2.1 5, 1, .inr (.inr (.inr (.inl fD)))))], wMo G.2.1 mo M1, hsL G.2.1 hs1, blk G.2.1 sv1]) h9 13 [1, 2, 3, 4, 5, 6, 7, 8, 9, 10, 0, 11, 12] rfl rfl rfl
  rw [hb9]
  have w : Wd G A s.heap (fl [wXo G.2.1 (ad 0) (xF ad) (svV sv1) K1, wSh G.2.1 (ad 1) S1, wSh G.2.1 (ad 2) Fc1, wTe G.2.1 (ad 4) C1, wSb G.2.1 (ad 5) ou1, wAd G.2.1 (ad 6) D1, wAb G.2.1 (ad 7) B1, wHo G.2.1 (ad 3) cu1 ct1 hs1, [(fo, .inl (G.2.1 4, 1, .inr (.inl f1)))], [(fd, .inl (G.2.1 5, 1, .inr (.inr (.inr (.inl fD)))))], wMo G.2.1 mo M1, hsL G.2.1 hs1, blk G.2.1 sv1]) _ _ := w
  refine lv_istore (lv' := [(7, .int b1), (6, .int r8), (5, .int (nI i)), (4, .ref fd), (3, .ref fo), (2, .ref (mo 0)), (1, .ref ((ad 0) 0)), (0, .ref b)]) F.x F.b dL_law_589 hl (by decide) rfl (fun ls hl => ?_)
  refine lv_aload_n F.x F.b dL_law_591 rfl (lv_at hl 5 rfl) ?_
  refine kXi F w hst (LC := [wMo G.2.1 mo M1]) (LR := [wXo G.2.1 (ad 0) (xF ad) (svV sv1) K1, wSh G.2.1 (ad 1) S1, wSh G.2.1 (ad 2) Fc1, wTe G.2.1 (ad 4) C1, wSb G.2.1 (ad 5) ou1, wAd G.2.1 (ad 6) D1, wAb G.2.1 (ad 7) B1, wHo G.2.1 (ad 3) cu1 ct1 hs1, [(fo, .inl (G.2.1 4, 1, .inr (.inl f1)))], [(fd, .inl (G.2.1 5, 1, .inr (.inr (.inr (.inl fD)))))], hsL G.2.1 hs1, blk G.2.1 sv1]) (As := []) (rest := []) (t_X7_thrown F.1 (r := r8) (show f_X7_thrown M1 = some r8 from by rw [f_X7_thrown, e3])).toX m_X7_thrown v_X7_thrown q1614 (ci := 11) (q0 := 40) rfl rfl rfl 13 [10, 0, 1, 2, 3, 4, 5, 6, 7, 8, 9, 11, 12] rfl rfl rfl ⟨by omega, by omega⟩ rfl hl.1 rfl (Nat.le_of_ble_eq_true rfl) dL_law_592 ⟨by omega, by omega⟩ (fun _ _ _ _ _ _ hx => False.elim hx) (fun r9 w1 H locs h9 w => ?_)
  obtain ⟨hb8, h9⟩ := h9
  have w := w.jn (L1 := [wMo G.2.1 mo M1]) (L' := [wXo G.2.1 (ad 0) (xF ad) (svV sv1) K1, wSh G.2.1 (ad 1) S1, wSh G.2.1 (ad 2) Fc1, wTe G.2.1 (ad 4) C1, wSb G.2.1 (ad 5) ou1, wAd G.2.1 (ad 6) D1, wAb G.2.1 (ad 7) B1, wHo G.2.1 (ad 3) cu1 ct1 hs1, [(fo, .inl (G.2.1 4, 1, .inr (.inl f1)))], [(fd, .inl (G.2.1 5, 1, .inr (.inr (.inr (.inl fD)))))], wMo G.2.1 mo M1, hsL G.2.1 hs1, blk G.2.1 sv1]) h9 13 [1, 2, 3, 4, 5, 6, 7, 8, 9, 10, 0, 11, 12] rfl rfl rfl
  rw [hb8]
  have w : Wd G A s.heap (fl [wXo G.2.1 (ad 0) (xF ad) (svV sv1) K1, wSh G.2.1 (ad 1) S1, wSh G.2.1 (ad 2) Fc1, wTe G.2.1 (ad 4) C1, wSb G.2.1 (ad 5) ou1, wAd G.2.1 (ad 6) D1, wAb G.2.1 (ad 7) B1, wHo G.2.1 (ad 3) cu1 ct1 hs1, [(fo, .inl (G.2.1 4, 1, .inr (.inl f1)))], [(fd, .inl (G.2.1 5, 1, .inr (.inr (.inr (.inl fD)))))], wMo G.2.1 mo M1, hsL G.2.1 hs1, blk G.2.1 sv1]) _ _ := w
  refine lv_iload F.x F.b dL_law_595 (lv_at hl 1 rfl) ?_
  refine lv_icmp_eq (tgt := 602) F.x F.b dL_law_597 (by decide) (fun _ => ?_) (fun c9 => absurd rfl c9)
  refine lv_iload F.x F.b dL_law_602 (lv_at hl 1 rfl) ?_
  by_cases hr : r8 = 0
  · refine lv_if_ne (tgt := 619) F.x F.b dL_law_604 (by decide) (fun c9 => absurd hr c9) (fun _ => ?_)
    refine lv_aload_n F.x F.b dL_law_607 rfl (lv_at hl 4 rfl) ?_
    refine lv_iconst (v := 0) F.x F.b dL_law_608 (by decide) ?_
    refine rLl F w 38 rfl (by decide) (v := Int32.toInt64 b1) (by rw [sb_cl0]; exact hf hr) dL_law_609 ?_
    refine lv_iload F.x F.b dL_law_610 (lv_at hl 0 rfl) ?_
    refine lv_i2l (v := (Int32.toInt64 b1)) F.x F.b dL_law_612 rfl ?_
    refine rLc F.x F.b rfl dL_law_613 ?_
    refine lv_if_eq (tgt := 619) F.x F.b dL_law_614 (by decide) (fun _ => ?_) (fun c9 => absurd rfl c9)
    refine lv_goto (tgt := 2836) F.x F.b dL_law_619 (by decide) ?_
    refine W.widen (k := cells + 20) (n := slots + 200) (by omega) (by omega) ?_
    exact kk K1 S1 Fc1 C1 D1 B1 cu1 ct1 hs1 sv1 ou1 M1 f1 fD _ _ _ w e4 (lv_sub hl [2, 3, 4, 5, 6, 7] rfl)
  · refine lv_if_ne (tgt := 619) F.x F.b dL_law_604 (by decide) (fun _ => ?_) (fun c9 => absurd c9 hr)
    refine lv_goto (tgt := 2836) F.x F.b dL_law_619 (by decide) ?_
    refine W.widen (k := cells + 20) (n := slots + 200) (by omega) (by omega) ?_
    exact kk K1 S1 Fc1 C1 D1 B1 cu1 ct1 hs1 sv1 ou1 M1 f1 fD _ _ _ w e4 (lv_sub hl [2, 3, 4, 5, 6, 7] rfl)
set_option maxRecDepth 100000 in
set_option maxHeartbeats 4000000 in
theorem cs_5 {G : cG} {p : Program} {l : Launch} {e : Env} {R : Room} {s : State} {m : MethodId} {args : Array Value} {below : List Frame} {meth : Method} {c : Code} {A : Nat → Prop} {Q : State → Prop} {ad : Nat → Nat → Nat} {fo fd : Nat} {mo : Nat → Nat} {b i L N cells slots : Nat} {xs : Nat → Int32} {ks kv : Nat → Nat} {d1 d2 : Nat} {K S Fc C D B : Mem} {cu ct : Nat} {hs : hS} {sv : sV} {ou : oB} {M : Mem} {f0 : Nat → Int64} {fD : Nat → UInt64} {H : Heap} {locs : List Loc} {ls : Array Slot} (F : Fx G p s m c cL_law 9 RL A) (gM : MG G) (hNC : NcG G) (hSG : SG G ks kv) (pv : PV G) (hD : DGs G d1 d2) (hst : l.stackTraces = false) (hX : va_X b L xs s s.heap) (hbA : ¬ A b) (hbl : b < s.heap.size) (hL : L ≤ 2560) (hi : i + 5 ≤ L) (hR1 : 60 ≤ R.frames) (hR2 : 3000 ≤ R.locals) (hc1 : cells + 20 ≤ R.cells) (hs1 : slots + 200 ≤ R.slots) (hN : N < 2 ^ 29) (h : Top N K S C cu ct hs sv ou M) (w : Wd G A s.heap (fl (wAll G.2.1 ad K S Fc C D B cu ct hs sv ou fo f0 fd fD mo M)) H locs) (hl : lv_has ls 9 [(5, .int (nI i)), (4, .ref fd), (3, .ref fo), (2, .ref (mo 0)), (1, .ref ((ad 0) 0)), (0, .ref b)]) (kk : KKc G p l e R s m args below meth c A Q ad fo fd mo b i N cells slots) : W p l e R s m args below meth c H locs cells slots Q (F0 m 622 ls []) := by
  have w : Wd G A s.heap (fl [wXo G.2.1 (ad 0) (xF ad) (svV sv) K, wSh G.2.1 (ad 1) S, wSh G.2.1 (ad 2) Fc, wTe G.2.1 (ad 4) C, wSb G.2.1 (ad 5) ou, wAd G.2.1 (ad 6) D, wAb G.2.1 (ad 7) B, wHo G.2.1 (ad 3) cu ct hs, [(fo, .inl (G.2.1 4, 1, .inr (.inl f0)))], [(fd, .inl (G.2.1 5, 1, .inr (.inr (.inr (.inl fD)))))], wMo G.2.1 mo M, hsL G.2.1 hs, blk G.2.1 sv]) H locs := w
  refine lv_aload_n F.x F.b dL_law_622 rfl (lv_at hl 4 rfl) ?_
  obtain ⟨M1, e2, e3, e4⟩ := (q_nums h.1).1
  refine kXi F w hst (LC := [wXo G.2.1 (ad 0) (xF ad) (svV sv) K, wSh G.2.1 (ad 1) S]) (LR := [wSh G.2.1 (ad 2) Fc, wTe G.2.1 (ad 4) C, wSb G.2.1 (ad 5) ou, wAd G.2.1 (ad 6) D, wAb G.2.1 (ad 7) B, wHo G.2.1 (ad 3) cu ct hs, [(fo, .inl (G.2.1 4, 1, .inr (.inl f0)))], [(fd, .inl (G.2.1 5, 1, .inr (.inr (.inr (.inl fD)))))], wMo G.2.1 mo M, hsL G.2.1 hs, blk G.2.1 sv]) (As := []) (rest := []) ((t_X6_lotCount F.1 (x := ad 0) (a := ad 1) (rf := xF ad) (sv := svV sv) rfl (show f_X6_lotCount K S = some (S.1 0) from rfl)).toX : CX G yX6_lotCount cX6_lotCount 1 .int 0 0 0 0 [.ref ((ad 0) 0)] (fl [wXo G.2.1 (ad 0) (xF ad) (svV sv) K, wSh G.2.1 (ad 1) S]) _ _) m_X6_lotCount v_X6_lotCount q332 (ci := 10) (q0 := 0) rfl rfl rfl 13 [0, 1, 2, 3, 4, 5, 6, 7, 8, 9, 10, 11, 12] rfl rfl rfl ⟨by omega, by omega⟩ rfl hl.1 rfl (Nat.le_of_ble_eq_true rfl) dL_law_623 ⟨by omega, by omega⟩ (fun _ _ _ _ _ _ hx => False.elim hx) (fun r9 w1 H locs h9 w => ?_)
  obtain ⟨hb7, h9⟩ := h9
  have w := w.jn (L1 := [wXo G.2.1 (ad 0) (xF ad) (svV sv) K, wSh G.2.1 (ad 1) S]) (L' := [wXo G.2.1 (ad 0) (xF ad) (svV sv) K, wSh G.2.1 (ad 1) S, wSh G.2.1 (ad 2) Fc, wTe G.2.1 (ad 4) C, wSb G.2.1 (ad 5) ou, wAd G.2.1 (ad 6) D, wAb G.2.1 (ad 7) B, wHo G.2.1 (ad 3) cu ct hs, [(fo, .inl (G.2.1 4, 1, .inr (.inl f0)))], [(fd, .inl (G.2.1 5, 1, .inr (.inr (.inr (.inl fD)))))], wMo G.2.1 mo M, hsL G.2.1 hs, blk G.2.1 sv]) h9 13 [0, 1, 2, 3, 4, 5, 6, 7, 8, 9, 10, 11, 12] rfl rfl rfl
  rw [hb7]
  have w : Wd G A s.heap (fl [wXo G.2.1 (ad 0) (xF ad) (svV sv) K, wSh G.2.1 (ad 1) S, wSh G.2.1 (ad 2) Fc, wTe G.2.1 (ad 4) C, wSb G.2.1 (ad 5) ou, wAd G.2.1 (ad 6) D, wAb G.2.1 (ad 7) B, wHo G.2.1 (ad 3) cu ct hs, [(fo, .inl (G.2.1 4, 1, .inr (.inl f0)))], [(fd, .inl (G.2.1 5, 1, .inr (.inr (.inr (.inl fD)))))], wMo G.2.1 mo M, hsL G.2.1 hs, blk G.2.1 sv]) _ _ := w
  refine lv_aload_n F.x F.b dL_law_626 rfl (lv_at hl 3 rfl) ?_
  refine kXi F w hst (LC := [wMo G.2.1 mo M]) (LR := [wXo G.2.1 (ad 0) (xF ad) (svV sv) K, wSh G.2.1 (ad 1) S, wSh G.2.1 (ad 2) Fc, wTe G.2.1 (ad 4) C, wSb G.2.1 (ad 5) ou, wAd G.2.1 (ad 6) D, wAb G.2.1 (ad 7) B, wHo G.2.1 (ad 3) cu ct hs, [(fo, .inl (G.2.1 4, 1, .inr (.inl f0)))], [(fd, .inl (G.2.1 5, 1, .inr (.inr (.inr (.inl fD)))))], hsL G.2.1 hs, blk G.2.1 sv]) (As := []) (rest := [.int (S.1 0)]) (t_X7_lotCount F.1 e2).toX m_X7_lotCount v_X7_lotCount q1707 (ci := 11) (q0 := 40) rfl rfl rfl 13 [10, 0, 1, 2, 3, 4, 5, 6, 7, 8, 9, 11, 12] rfl rfl rfl ⟨by omega, by omega⟩ rfl hl.1 rfl (Nat.le_of_ble_eq_true rfl) dL_law_627 ⟨by omega, by omega⟩ (fun _ _ _ _ _ _ hx => False.elim hx) (fun r9 w1 H locs h9 w => ?_)
  obtain ⟨hb9, h9⟩ := h9
  have w := w.jn (L1 := [wMo G.2.1 mo M1]) (L' := [wXo G.2.1 (ad 0) (xF ad) (svV sv) K, wSh G.2.1 (ad 1) S, wSh G.2.1 (ad 2) Fc, wTe G.2.1 (ad 4) C, wSb G.2.1 (ad 5) ou, wAd G.2.1 (ad 6) D, wAb G.2.1 (ad 7) B, wHo G.2.1 (ad 3) cu ct hs, [(fo, .inl (G.2.1 4, 1, .inr (.inl f0)))], [(fd, .inl (G.2.1 5, 1, .inr (.inr (.inr (.inl fD)))))], wMo G.2.1 mo M1, hsL G.2.1 hs, blk G.2.1 sv]) h9 13 [1, 2, 3, 4, 5, 6, 7, 8, 9, 10, 0, 11, 12] rfl rfl rfl
  rw [hb9]
  have w : Wd G A s.heap (fl [wXo G.2.1 (ad 0) (xF ad) (svV sv) K, wSh G.2.1 (ad 1) S, wSh G.2.1 (ad 2) Fc, wTe G.2.1 (ad 4) C, wSb G.2.1 (ad 5) ou, wAd G.2.1 (ad 6) D, wAb G.2.1 (ad 7) B, wHo G.2.1 (ad 3) cu ct hs, [(fo, .inl (G.2.1 4, 1, .inr (.inl f0)))], [(fd, .inl (G.2.1 5, 1, .inr (.inr (.inr (.inl fD)))))], wMo G.2.1 mo M1, hsL G.2.1 hs, blk G.2.1 sv]) _ _ := w
  refine lv_icmp_eq (tgt := 2836) F.x F.b dL_law_630 (by decide) (fun _ => ?_) (fun c9 => absurd rfl c9)
  refine W.widen (k := cells + 20) (n := slots + 200) (by omega) (by omega) ?_
  exact kk K S Fc C D B cu ct hs sv ou M1 f0 fD _ _ _ w (h.ask e4) (lv_sub hl [0, 1, 2, 3, 4, 5] rfl)
set_option maxRecDepth 100000 in
set_option maxHeartbeats 4000000 in
theorem cs_6 {G : cG} {p : Program} {l : Launch} {e : Env} {R : Room} {s : State} {m : MethodId} {args : Array Value} {below : List Frame} {meth : Method} {c : Code} {A : Nat → Prop} {Q : State → Prop} {ad : Nat → Nat → Nat} {fo fd : Nat} {mo : Nat → Nat} {b i L N cells slots : Nat} {xs : Nat → Int32} {ks kv : Nat → Nat} {d1 d2 : Nat} {K S Fc C D B : Mem} {cu ct : Nat} {hs : hS} {sv : sV} {ou : oB} {M : Mem} {f0 : Nat → Int64} {fD : Nat → UInt64} {H : Heap} {locs : List Loc} {ls : Array Slot} (F : Fx G p s m c cL_law 9 RL A) (gM : MG G) (hNC : NcG G) (hSG : SG G ks kv) (pv : PV G) (hD : DGs G d1 d2) (hst : l.stackTraces = false) (hX : va_X b L xs s s.heap) (hbA : ¬ A b) (hbl : b < s.heap.size) (hL : L ≤ 2560) (hi : i + 5 ≤ L) (hR1 : 60 ≤ R.frames) (hR2 : 3000 ≤ R.locals) (hc1 : cells + 20 ≤ R.cells) (hs1 : slots + 200 ≤ R.slots) (hN : N < 2 ^ 29) (h : Top N K S C cu ct hs sv ou M) (w : Wd G A s.heap (fl (wAll G.2.1 ad K S Fc C D B cu ct hs sv ou fo f0 fd fD mo M)) H locs) (hl : lv_has ls 9 [(5, .int (nI i)), (4, .ref fd), (3, .ref fo), (2, .ref (mo 0)), (1, .ref ((ad 0) 0)), (0, .ref b)]) (kk : KKc G p l e R s m args below meth c A Q ad fo fd mo b i N cells slots) : W p l e R s m args below meth c H locs cells slots Q (F0 m 635 ls []) := by
  have w : Wd G A s.heap (fl [wXo G.2.1 (ad 0) (xF ad) (svV sv) K, wSh G.2.1 (ad 1) S, wSh G.2.1 (ad 2) Fc, wTe G.2.1 (ad 4) C, wSb G.2.1 (ad 5) ou, wAd G.2.1 (ad 6) D, wAb G.2.1 (ad 7) B, wHo G.2.1 (ad 3) cu ct hs, [(fo, .inl (G.2.1 4, 1, .inr (.inl f0)))], [(fd, .inl (G.2.1 5, 1, .inr (.inr (.inr (.inl fD)))))], wMo G.2.1 mo M, hsL G.2.1 hs, blk G.2.1 sv]) H locs := w
  refine lv_aload_n F.x F.b dL_law_635 rfl (lv_at hl 4 rfl) ?_
  refine lv_aload_n F.x F.b dL_law_636 rfl (lv_at hl 5 rfl) ?_
  refine lv_iload F.x F.b dL_law_637 (lv_at hl 0 rfl) ?_
  refine lv_iconst (v := 1) F.x F.b dL_law_639 (by decide) ?_
  refine lv_iadd F.x F.b dL_law_640 ?_
  refine rX F w hX hbA hbl (k := i + 1) (nI_add i 1) (by omega) hL dL_law_641 ?_
  refine lv_aload_n F.x F.b dL_law_642 rfl (lv_at hl 2 rfl) ?_
  refine kLi F w hst (LC := [wXo G.2.1 (ad 0) (xF ad) (svV sv) K, wSh G.2.1 (ad 1) S, wSh G.2.1 (ad 2) Fc, wTe G.2.1 (ad 4) C, wSb G.2.1 (ad 5) ou, wAd G.2.1 (ad 6) D, wAb G.2.1 (ad 7) B, wHo G.2.1 (ad 3) cu ct hs, [(fo, .inl (G.2.1 4, 1, .inr (.inl f0)))], hsL G.2.1 hs, blk G.2.1 sv]) (LR := [[(fd, .inl (G.2.1 5, 1, .inr (.inr (.inr (.inl fD)))))], wMo G.2.1 mo M]) (As := [.ref ((ad 0) 0), .int (xs (i + 1)), .ref fo]) (rest := []) (l_lot F.1 gM hNC h) mh_lot vh_lot (List.mem_of_getElem? (i := 1030) (by decide +kernel)) 13 [0, 1, 2, 3, 4, 5, 6, 7, 8, 11, 12, 9, 10] rfl rfl rfl ⟨by omega, by omega⟩ rfl hl.1 rfl (Nat.le_of_ble_eq_true rfl) dL_law_643 ⟨by omega, by omega⟩ (fun r8 w1 H locs h9 w => ?_)
  obtain ⟨K1, S1, Fc1, C1, D1, B1, cu1, ct1, hs1, sv1, ou1, M1, b1, f1, h9, e2, e3, e4, hf⟩ := h9
  have w := w.jn (L1 := [wXo G.2.1 (ad 0) (xF ad) (svV sv1) K1, wSh G.2.1 (ad 1) S1, wSh G.2.1 (ad 2) Fc1, wTe G.2.1 (ad 4) C1, wSb G.2.1 (ad 5) ou1, wAd G.2.1 (ad 6) D1, wAb G.2.1 (ad 7) B1, wHo G.2.1 (ad 3) cu1 ct1 hs1, [(fo, .inl (G.2.1 4, 1, .inr (.inl f1)))], hsL G.2.1 hs1, blk G.2.1 sv1]) (L' := [wXo G.2.1 (ad 0) (xF ad) (svV sv1) K1, wSh G.2.1 (ad 1) S1, wSh G.2.1 (ad 2) Fc1, wTe G.2.1 (ad 4) C1, wSb G.2.1 (ad 5) ou1, wAd G.2.1 (ad 6) D1, wAb G.2.1 (ad 7) B1, wHo G.2.1 (ad 3) cu1 ct1 hs1, [(fo, .inl (G.2.1 4, 1, .inr (.inl f1)))], [(fd, .inl (G.2.1 5, 1, .inr (.inr (.inr (.inl fD)))))], wMo G.2.1 mo M, hsL G.2.1 hs1, blk G.2.1 sv1]) h9 13 [0, 1, 2, 3, 4, 5, 6, 7, 8, 11, 12, 9, 10] rfl rfl rfl
  have w : Wd G A s.heap (fl [wXo G.2.1 (ad 0) (xF ad) (svV sv1) K1, wSh G.2.1 (ad 1) S1, wSh G.2.1 (ad 2) Fc1, wTe G.2.1 (ad 4) C1, wSb G.2.1 (ad 5) ou1, wAd G.2.1 (ad 6) D1, wAb G.2.1 (ad 7) B1, wHo G.2.1 (ad 3) cu1 ct1 hs1, [(fo, .inl (G.2.1 4, 1, .inr (.inl f1)))], [(fd, .inl (G.2.1 5, 1, .inr (.inr (.inr (.inl fD)))))], wMo G.2.1 mo M, hsL G.2.1 hs1, blk G.2.1 sv1]) _ _ := w
  refine lv_istore (lv' := [(6, .int r8), (5, .int (nI i)), (4, .ref fd), (3, .ref fo), (2, .ref (mo 0)), (1, .ref ((ad 0) 0)), (0, .ref b)]) F.x F.b dL_law_646 hl (by decide) rfl (fun ls hl => ?_)
  refine lv_aload_n F.x F.b dL_law_648 rfl (lv_at hl 4 rfl) ?_
  refine lv_aload_n F.x F.b dL_law_649 rfl (lv_at hl 6 rfl) ?_
  refine lv_iload F.x F.b dL_law_650 (lv_at hl 1 rfl) ?_
  refine lv_iconst (v := 1) F.x F.b dL_law_652 (by decide) ?_
  refine lv_iadd F.x F.b dL_law_653 ?_
  refine rX F w hX hbA hbl (k := i + 1) (nI_add i 1) (by omega) hL dL_law_654 ?_
  refine kXi F w hst (LC := [wMo G.2.1 mo M]) (LR := [wXo G.2.1 (ad 0) (xF ad) (svV sv1) K1, wSh G.2.1 (ad 1) S1, wSh G.2.1 (ad 2) Fc1, wTe G.2.1 (ad 4) C1, wSb G.2.1 (ad 5) ou1, wAd G.2.1 (ad 6) D1, wAb G.2.1 (ad 7) B1, wHo G.2.1 (ad 3) cu1 ct1 hs1, [(fo, .inl (G.2.1 4, 1, .inr (.inl f1)))], [(fd, .inl (G.2.1 5, 1, .inr (.inr (.inr (.inl fD)))))], hsL G.2.1 hs1, blk G.2.1 sv1]) (As := [.int (xs (i + 1))]) (rest := []) (t_X7_lot F.1 e2).toX m_X7_lot v_X7_lot q1711 (ci := 11) (q0 := 40) rfl rfl rfl 13 [10, 0, 1, 2, 3, 4, 5, 6, 7, 8, 9, 11, 12] rfl rfl rfl ⟨by omega, by omega⟩ rfl hl.1 rfl (Nat.le_of_ble_eq_true rfl) dL_law_655 ⟨by omega, by omega⟩ (fun _ _ _ _ _ _ hx => False.elim hx) (fun r9 w1 H locs h9 w => ?_)
  obtain ⟨hb9, h9⟩ := h9
  have w := w.jn (L1 := [wMo G.2.1 mo M1]) (L' := [wXo G.2.1 (ad 0) (xF ad) (svV sv1) K1, wSh G.2.1 (ad 1) S1, wSh G.2.1 (ad 2) Fc1, wTe G.2.1 (ad 4) C1, wSb G.2.1 (ad 5) ou1, wAd G.2.1 (ad 6) D1, wAb G.2.1 (ad 7) B1, wHo G.2.1 (ad 3) cu1 ct1 hs1, [(fo, .inl (G.2.1 4, 1, .inr (.inl f1)))], [(fd, .inl (G.2.1 5, 1, .inr (.inr (.inr (.inl fD)))))], wMo G.2.1 mo M1, hsL G.2.1 hs1, blk G.2.1 sv1]) h9 13 [1, 2, 3, 4, 5, 6, 7, 8, 9, 10, 0, 11, 12] rfl rfl rfl
  rw [hb9]
  have w : Wd G A s.heap (fl [wXo G.2.1 (ad 0) (xF ad) (svV sv1) K1, wSh G.2.1 (ad 1) S1, wSh G.2.1 (ad 2) Fc1, wTe G.2.1 (ad 4) C1, wSb G.2.1 (ad 5) ou1, wAd G.2.1 (ad 6) D1, wAb G.2.1 (ad 7) B1, wHo G.2.1 (ad 3) cu1 ct1 hs1, [(fo, .inl (G.2.1 4, 1, .inr (.inl f1)))], [(fd, .inl (G.2.1 5, 1, .inr (.inr (.inr (.inl fD)))))], wMo G.2.1 mo M1, hsL G.2.1 hs1, blk G.2.1 sv1]) _ _ := w
  refine lv_istore (lv' := [(7, .int b1), (6, .int r8), (5, .int (nI i)), (4, .ref fd), (3, .ref fo), (2, .ref (mo 0)), (1, .ref ((ad 0) 0)), (0, .ref b)]) F.x F.b dL_law_658 hl (by decide) rfl (fun ls hl => ?_)
  refine lv_aload_n F.x F.b dL_law_660 rfl (lv_at hl 5 rfl) ?_
  refine kXi F w hst (LC := [wMo G.2.1 mo M1]) (LR := [wXo G.2.1 (ad 0) (xF ad) (svV sv1) K1, wSh G.2.1 (ad 1) S1, wSh G.2.1 (ad 2) Fc1, wTe G.2.1 (ad 4) C1, wSb G.2.1 (ad 5) ou1, wAd G.2.1 (ad 6) D1, wAb G.2.1 (ad 7) B1, wHo G.2.1 (ad 3) cu1 ct1 hs1, [(fo, .inl (G.2.1 4, 1, .inr (.inl f1)))], [(fd, .inl (G.2.1 5, 1, .inr (.inr (.inr (.inl fD)))))], hsL G.2.1 hs1, blk G.2.1 sv1]) (As := []) (rest := []) (t_X7_thrown F.1 (r := r8) (show f_X7_thrown M1 = some r8 from by rw [f_X7_thrown, e3])).toX m_X7_thrown v_X7_thrown q1614 (ci := 11) (q0 := 40) rfl rfl rfl 13 [10, 0, 1, 2, 3, 4, 5, 6, 7, 8, 9, 11, 12] rfl rfl rfl ⟨by omega, by omega⟩ rfl hl.1 rfl (Nat.le_of_ble_eq_true rfl) dL_law_661 ⟨by omega, by omega⟩ (fun _ _ _ _ _ _ hx => False.elim hx) (fun r9 w1 H locs h9 w => ?_)
  obtain ⟨hb8, h9⟩ := h9
  have w := w.jn (L1 := [wMo G.2.1 mo M1]) (L' := [wXo G.2.1 (ad 0) (xF ad) (svV sv1) K1, wSh G.2.1 (ad 1) S1, wSh G.2.1 (ad 2) Fc1, wTe G.2.1 (ad 4) C1, wSb G.2.1 (ad 5) ou1, wAd G.2.1 (ad 6) D1, wAb G.2.1 (ad 7) B1, wHo G.2.1 (ad 3) cu1 ct1 hs1, [(fo, .inl (G.2.1 4, 1, .inr (.inl f1)))], [(fd, .inl (G.2.1 5, 1, .inr (.inr (.inr (.inl fD)))))], wMo G.2.1 mo M1, hsL G.2.1 hs1, blk G.2.1 sv1]) h9 13 [1, 2, 3, 4, 5, 6, 7, 8, 9, 10, 0, 11, 12] rfl rfl rfl
  rw [hb8]
  have w : Wd G A s.heap (fl [wXo G.2.1 (ad 0) (xF ad) (svV sv1) K1, wSh G.2.1 (ad 1) S1, wSh G.2.1 (ad 2) Fc1, wTe G.2.1 (ad 4) C1, wSb G.2.1 (ad 5) ou1, wAd G.2.1 (ad 6) D1, wAb G.2.1 (ad 7) B1, wHo G.2.1 (ad 3) cu1 ct1 hs1, [(fo, .inl (G.2.1 4, 1, .inr (.inl f1)))], [(fd, .inl (G.2.1 5, 1, .inr (.inr (.inr (.inl fD)))))], wMo G.2.1 mo M1, hsL G.2.1 hs1, blk G.2.1 sv1]) _ _ := w
  refine lv_iload F.x F.b dL_law_664 (lv_at hl 1 rfl) ?_
  refine lv_icmp_eq (tgt := 671) F.x F.b dL_law_666 (by decide) (fun _ => ?_) (fun c9 => absurd rfl c9)
  refine lv_iload F.x F.b dL_law_671 (lv_at hl 1 rfl) ?_
  by_cases hr : r8 = 0
  · refine lv_if_ne (tgt := 688) F.x F.b dL_law_673 (by decide) (fun c9 => absurd hr c9) (fun _ => ?_)
    refine lv_aload_n F.x F.b dL_law_676 rfl (lv_at hl 4 rfl) ?_
    refine lv_iconst (v := 0) F.x F.b dL_law_677 (by decide) ?_
    refine rLl F w 38 rfl (by decide) (v := Int32.toInt64 b1) (by rw [sb_cl0]; exact hf hr) dL_law_678 ?_
    refine lv_iload F.x F.b dL_law_679 (lv_at hl 0 rfl) ?_
    refine lv_i2l (v := (Int32.toInt64 b1)) F.x F.b dL_law_681 rfl ?_
    refine rLc F.x F.b rfl dL_law_682 ?_
    refine lv_if_eq (tgt := 688) F.x F.b dL_law_683 (by decide) (fun _ => ?_) (fun c9 => absurd rfl c9)
    refine lv_goto (tgt := 2836) F.x F.b dL_law_688 (by decide) ?_
    refine W.widen (k := cells + 20) (n := slots + 200) (by omega) (by omega) ?_
    exact kk K1 S1 Fc1 C1 D1 B1 cu1 ct1 hs1 sv1 ou1 M1 f1 fD _ _ _ w e4 (lv_sub hl [2, 3, 4, 5, 6, 7] rfl)
  · refine lv_if_ne (tgt := 688) F.x F.b dL_law_673 (by decide) (fun _ => ?_) (fun c9 => absurd c9 hr)
    refine lv_goto (tgt := 2836) F.x F.b dL_law_688 (by decide) ?_
    refine W.widen (k := cells + 20) (n := slots + 200) (by omega) (by omega) ?_
    exact kk K1 S1 Fc1 C1 D1 B1 cu1 ct1 hs1 sv1 ou1 M1 f1 fD _ _ _ w e4 (lv_sub hl [2, 3, 4, 5, 6, 7] rfl)
set_option maxRecDepth 100000 in
set_option maxHeartbeats 4000000 in
theorem cs_7 {G : cG} {p : Program} {l : Launch} {e : Env} {R : Room} {s : State} {m : MethodId} {args : Array Value} {below : List Frame} {meth : Method} {c : Code} {A : Nat → Prop} {Q : State → Prop} {ad : Nat → Nat → Nat} {fo fd : Nat} {mo : Nat → Nat} {b i L N cells slots : Nat} {xs : Nat → Int32} {ks kv : Nat → Nat} {d1 d2 : Nat} {K S Fc C D B : Mem} {cu ct : Nat} {hs : hS} {sv : sV} {ou : oB} {M : Mem} {f0 : Nat → Int64} {fD : Nat → UInt64} {H : Heap} {locs : List Loc} {ls : Array Slot} (F : Fx G p s m c cL_law 9 RL A) (gM : MG G) (hNC : NcG G) (hSG : SG G ks kv) (pv : PV G) (hD : DGs G d1 d2) (hst : l.stackTraces = false) (hX : va_X b L xs s s.heap) (hbA : ¬ A b) (hbl : b < s.heap.size) (hL : L ≤ 2560) (hi : i + 5 ≤ L) (hR1 : 60 ≤ R.frames) (hR2 : 3000 ≤ R.locals) (hc1 : cells + 20 ≤ R.cells) (hs1 : slots + 200 ≤ R.slots) (hN : N < 2 ^ 29) (h : Top N K S C cu ct hs sv ou M) (w : Wd G A s.heap (fl (wAll G.2.1 ad K S Fc C D B cu ct hs sv ou fo f0 fd fD mo M)) H locs) (hl : lv_has ls 9 [(5, .int (nI i)), (4, .ref fd), (3, .ref fo), (2, .ref (mo 0)), (1, .ref ((ad 0) 0)), (0, .ref b)]) (kk : KKc G p l e R s m args below meth c A Q ad fo fd mo b i N cells slots) : W p l e R s m args below meth c H locs cells slots Q (F0 m 691 ls []) := by
  have w : Wd G A s.heap (fl [wXo G.2.1 (ad 0) (xF ad) (svV sv) K, wSh G.2.1 (ad 1) S, wSh G.2.1 (ad 2) Fc, wTe G.2.1 (ad 4) C, wSb G.2.1 (ad 5) ou, wAd G.2.1 (ad 6) D, wAb G.2.1 (ad 7) B, wHo G.2.1 (ad 3) cu ct hs, [(fo, .inl (G.2.1 4, 1, .inr (.inl f0)))], [(fd, .inl (G.2.1 5, 1, .inr (.inr (.inr (.inl fD)))))], wMo G.2.1 mo M, hsL G.2.1 hs, blk G.2.1 sv]) H locs := w
  refine lv_aload_n F.x F.b dL_law_691 rfl (lv_at hl 4 rfl) ?_
  refine lv_aload_n F.x F.b dL_law_692 rfl (lv_at hl 5 rfl) ?_
  refine lv_iload F.x F.b dL_law_693 (lv_at hl 0 rfl) ?_
  refine lv_iconst (v := 1) F.x F.b dL_law_695 (by decide) ?_
  refine lv_iadd F.x F.b dL_law_696 ?_
  refine rX F w hX hbA hbl (k := i + 1) (nI_add i 1) (by omega) hL dL_law_697 ?_
  refine lv_aload_n F.x F.b dL_law_698 rfl (lv_at hl 2 rfl) ?_
  refine kLi F w hst (LC := [wXo G.2.1 (ad 0) (xF ad) (svV sv) K, wSh G.2.1 (ad 1) S, wSh G.2.1 (ad 2) Fc, wTe G.2.1 (ad 4) C, wSb G.2.1 (ad 5) ou, wAd G.2.1 (ad 6) D, wAb G.2.1 (ad 7) B, wHo G.2.1 (ad 3) cu ct hs, [(fo, .inl (G.2.1 4, 1, .inr (.inl f0)))], hsL G.2.1 hs, blk G.2.1 sv]) (LR := [[(fd, .inl (G.2.1 5, 1, .inr (.inr (.inr (.inl fD)))))], wMo G.2.1 mo M]) (As := [.ref ((ad 0) 0), .int (xs (i + 1)), .ref fo]) (rest := []) (l_kind F.1 gM hNC h) mh_kind vh_kind (List.mem_of_getElem? (i := 1040) (by decide +kernel)) 13 [0, 1, 2, 3, 4, 5, 6, 7, 8, 11, 12, 9, 10] rfl rfl rfl ⟨by omega, by omega⟩ rfl hl.1 rfl (Nat.le_of_ble_eq_true rfl) dL_law_699 ⟨by omega, by omega⟩ (fun r8 w1 H locs h9 w => ?_)
  obtain ⟨K1, S1, Fc1, C1, D1, B1, cu1, ct1, hs1, sv1, ou1, M1, b1, f1, h9, e2, e3, e4, hf⟩ := h9
  have w := w.jn (L1 := [wXo G.2.1 (ad 0) (xF ad) (svV sv1) K1, wSh G.2.1 (ad 1) S1, wSh G.2.1 (ad 2) Fc1, wTe G.2.1 (ad 4) C1, wSb G.2.1 (ad 5) ou1, wAd G.2.1 (ad 6) D1, wAb G.2.1 (ad 7) B1, wHo G.2.1 (ad 3) cu1 ct1 hs1, [(fo, .inl (G.2.1 4, 1, .inr (.inl f1)))], hsL G.2.1 hs1, blk G.2.1 sv1]) (L' := [wXo G.2.1 (ad 0) (xF ad) (svV sv1) K1, wSh G.2.1 (ad 1) S1, wSh G.2.1 (ad 2) Fc1, wTe G.2.1 (ad 4) C1, wSb G.2.1 (ad 5) ou1, wAd G.2.1 (ad 6) D1, wAb G.2.1 (ad 7) B1, wHo G.2.1 (ad 3) cu1 ct1 hs1, [(fo, .inl (G.2.1 4, 1, .inr (.inl f1)))], [(fd, .inl (G.2.1 5, 1, .inr (.inr (.inr (.inl fD)))))], wMo G.2.1 mo M, hsL G.2.1 hs1, blk G.2.1 sv1]) h9 13 [0, 1, 2, 3, 4, 5, 6, 7, 8, 11, 12, 9, 10] rfl rfl rfl
  have w : Wd G A s.heap (fl [wXo G.2.1 (ad 0) (xF ad) (svV sv1) K1, wSh G.2.1 (ad 1) S1, wSh G.2.1 (ad 2) Fc1, wTe G.2.1 (ad 4) C1, wSb G.2.1 (ad 5) ou1, wAd G.2.1 (ad 6) D1, wAb G.2.1 (ad 7) B1, wHo G.2.1 (ad 3) cu1 ct1 hs1, [(fo, .inl (G.2.1 4, 1, .inr (.inl f1)))], [(fd, .inl (G.2.1 5, 1, .inr (.inr (.inr (.inl fD)))))], wMo G.2.1 mo M, hsL G.2.1 hs1, blk G.2.1 sv1]) _ _ := w
  refine lv_istore (lv' := [(6, .int r8), (5, .int (nI i)), (4, .ref fd), (3, .ref fo), (2, .ref (mo 0)), (1, .ref ((ad 0) 0)), (0, .ref b)]) F.x F.b dL_law_702 hl (by decide) rfl (fun ls hl => ?_)
  refine lv_aload_n F.x F.b dL_law_704 rfl (lv_at hl 4 rfl) ?_
  refine lv_aload_n F.x F.b dL_law_705 rfl (lv_at hl 6 rfl) ?_
  refine lv_iload F.x F.b dL_law_706 (lv_at hl 1 rfl) ?_
  refine lv_iconst (v := 1) F.x F.b dL_law_708 (by decide) ?_
  refine lv_iadd F.x F.b dL_law_709 ?_
  refine rX F w hX hbA hbl (k := i + 1) (nI_add i 1) (by omega) hL dL_law_710 ?_
  refine kXi F w hst (LC := [wMo G.2.1 mo M]) (LR := [wXo G.2.1 (ad 0) (xF ad) (svV sv1) K1, wSh G.2.1 (ad 1) S1, wSh G.2.1 (ad 2) Fc1, wTe G.2.1 (ad 4) C1, wSb G.2.1 (ad 5) ou1, wAd G.2.1 (ad 6) D1, wAb G.2.1 (ad 7) B1, wHo G.2.1 (ad 3) cu1 ct1 hs1, [(fo, .inl (G.2.1 4, 1, .inr (.inl f1)))], [(fd, .inl (G.2.1 5, 1, .inr (.inr (.inr (.inl fD)))))], hsL G.2.1 hs1, blk G.2.1 sv1]) (As := [.int (xs (i + 1))]) (rest := []) (t_X7_kind F.1 e2).toX m_X7_kind v_X7_kind q1715 (ci := 11) (q0 := 40) rfl rfl rfl 13 [10, 0, 1, 2, 3, 4, 5, 6, 7, 8, 9, 11, 12] rfl rfl rfl ⟨by omega, by omega⟩ rfl hl.1 rfl (Nat.le_of_ble_eq_true rfl) dL_law_711 ⟨by omega, by omega⟩ (fun _ _ _ _ _ _ hx => False.elim hx) (fun r9 w1 H locs h9 w => ?_)
  obtain ⟨hb9, h9⟩ := h9
  have w := w.jn (L1 := [wMo G.2.1 mo M1]) (L' := [wXo G.2.1 (ad 0) (xF ad) (svV sv1) K1, wSh G.2.1 (ad 1) S1, wSh G.2.1 (ad 2) Fc1, wTe G.2.1 (ad 4) C1, wSb G.2.1 (ad 5) ou1, wAd G.2.1 (ad 6) D1, wAb G.2.1 (ad 7) B1, wHo G.2.1 (ad 3) cu1 ct1 hs1, [(fo, .inl (G.2.1 4, 1, .inr (.inl f1)))], [(fd, .inl (G.2.1 5, 1, .inr (.inr (.inr (.inl fD)))))], wMo G.2.1 mo M1, hsL G.2.1 hs1, blk G.2.1 sv1]) h9 13 [1, 2, 3, 4, 5, 6, 7, 8, 9, 10, 0, 11, 12] rfl rfl rfl
  rw [hb9]
  have w : Wd G A s.heap (fl [wXo G.2.1 (ad 0) (xF ad) (svV sv1) K1, wSh G.2.1 (ad 1) S1, wSh G.2.1 (ad 2) Fc1, wTe G.2.1 (ad 4) C1, wSb G.2.1 (ad 5) ou1, wAd G.2.1 (ad 6) D1, wAb G.2.1 (ad 7) B1, wHo G.2.1 (ad 3) cu1 ct1 hs1, [(fo, .inl (G.2.1 4, 1, .inr (.inl f1)))], [(fd, .inl (G.2.1 5, 1, .inr (.inr (.inr (.inl fD)))))], wMo G.2.1 mo M1, hsL G.2.1 hs1, blk G.2.1 sv1]) _ _ := w
  refine lv_istore (lv' := [(7, .int b1), (6, .int r8), (5, .int (nI i)), (4, .ref fd), (3, .ref fo), (2, .ref (mo 0)), (1, .ref ((ad 0) 0)), (0, .ref b)]) F.x F.b dL_law_714 hl (by decide) rfl (fun ls hl => ?_)
  refine lv_aload_n F.x F.b dL_law_716 rfl (lv_at hl 5 rfl) ?_
  refine kXi F w hst (LC := [wMo G.2.1 mo M1]) (LR := [wXo G.2.1 (ad 0) (xF ad) (svV sv1) K1, wSh G.2.1 (ad 1) S1, wSh G.2.1 (ad 2) Fc1, wTe G.2.1 (ad 4) C1, wSb G.2.1 (ad 5) ou1, wAd G.2.1 (ad 6) D1, wAb G.2.1 (ad 7) B1, wHo G.2.1 (ad 3) cu1 ct1 hs1, [(fo, .inl (G.2.1 4, 1, .inr (.inl f1)))], [(fd, .inl (G.2.1 5, 1, .inr (.inr (.inr (.inl fD)))))], hsL G.2.1 hs1, blk G.2.1 sv1]) (As := []) (rest := []) (t_X7_thrown F.1 (r := r8) (show f_X7_thrown M1 = some r8 from by rw [f_X7_thrown, e3])).toX m_X7_thrown v_X7_thrown q1614 (ci := 11) (q0 := 40) rfl rfl rfl 13 [10, 0, 1, 2, 3, 4, 5, 6, 7, 8, 9, 11, 12] rfl rfl rfl ⟨by omega, by omega⟩ rfl hl.1 rfl (Nat.le_of_ble_eq_true rfl) dL_law_717 ⟨by omega, by omega⟩ (fun _ _ _ _ _ _ hx => False.elim hx) (fun r9 w1 H locs h9 w => ?_)
  obtain ⟨hb8, h9⟩ := h9
  have w := w.jn (L1 := [wMo G.2.1 mo M1]) (L' := [wXo G.2.1 (ad 0) (xF ad) (svV sv1) K1, wSh G.2.1 (ad 1) S1, wSh G.2.1 (ad 2) Fc1, wTe G.2.1 (ad 4) C1, wSb G.2.1 (ad 5) ou1, wAd G.2.1 (ad 6) D1, wAb G.2.1 (ad 7) B1, wHo G.2.1 (ad 3) cu1 ct1 hs1, [(fo, .inl (G.2.1 4, 1, .inr (.inl f1)))], [(fd, .inl (G.2.1 5, 1, .inr (.inr (.inr (.inl fD)))))], wMo G.2.1 mo M1, hsL G.2.1 hs1, blk G.2.1 sv1]) h9 13 [1, 2, 3, 4, 5, 6, 7, 8, 9, 10, 0, 11, 12] rfl rfl rfl
  rw [hb8]
  have w : Wd G A s.heap (fl [wXo G.2.1 (ad 0) (xF ad) (svV sv1) K1, wSh G.2.1 (ad 1) S1, wSh G.2.1 (ad 2) Fc1, wTe G.2.1 (ad 4) C1, wSb G.2.1 (ad 5) ou1, wAd G.2.1 (ad 6) D1, wAb G.2.1 (ad 7) B1, wHo G.2.1 (ad 3) cu1 ct1 hs1, [(fo, .inl (G.2.1 4, 1, .inr (.inl f1)))], [(fd, .inl (G.2.1 5, 1, .inr (.inr (.inr (.inl fD)))))], wMo G.2.1 mo M1, hsL G.2.1 hs1, blk G.2.1 sv1]) _ _ := w
  refine lv_iload F.x F.b dL_law_720 (lv_at hl 1 rfl) ?_
  refine lv_icmp_eq (tgt := 727) F.x F.b dL_law_722 (by decide) (fun _ => ?_) (fun c9 => absurd rfl c9)
  refine lv_iload F.x F.b dL_law_727 (lv_at hl 1 rfl) ?_
  by_cases hr : r8 = 0
  · refine lv_if_ne (tgt := 744) F.x F.b dL_law_729 (by decide) (fun c9 => absurd hr c9) (fun _ => ?_)
    refine lv_aload_n F.x F.b dL_law_732 rfl (lv_at hl 4 rfl) ?_
    refine lv_iconst (v := 0) F.x F.b dL_law_733 (by decide) ?_
    refine rLl F w 38 rfl (by decide) (v := Int32.toInt64 b1) (by rw [sb_cl0]; exact hf hr) dL_law_734 ?_
    refine lv_iload F.x F.b dL_law_735 (lv_at hl 0 rfl) ?_
    refine lv_i2l (v := (Int32.toInt64 b1)) F.x F.b dL_law_737 rfl ?_
    refine rLc F.x F.b rfl dL_law_738 ?_
    refine lv_if_eq (tgt := 744) F.x F.b dL_law_739 (by decide) (fun _ => ?_) (fun c9 => absurd rfl c9)
    refine lv_goto (tgt := 2836) F.x F.b dL_law_744 (by decide) ?_
    refine W.widen (k := cells + 20) (n := slots + 200) (by omega) (by omega) ?_
    exact kk K1 S1 Fc1 C1 D1 B1 cu1 ct1 hs1 sv1 ou1 M1 f1 fD _ _ _ w e4 (lv_sub hl [2, 3, 4, 5, 6, 7] rfl)
  · refine lv_if_ne (tgt := 744) F.x F.b dL_law_729 (by decide) (fun _ => ?_) (fun c9 => absurd c9 hr)
    refine lv_goto (tgt := 2836) F.x F.b dL_law_744 (by decide) ?_
    refine W.widen (k := cells + 20) (n := slots + 200) (by omega) (by omega) ?_
    exact kk K1 S1 Fc1 C1 D1 B1 cu1 ct1 hs1 sv1 ou1 M1 f1 fD _ _ _ w e4 (lv_sub hl [2, 3, 4, 5, 6, 7] rfl)
set_option maxRecDepth 100000 in
set_option maxHeartbeats 4000000 in
theorem cs_8 {G : cG} {p : Program} {l : Launch} {e : Env} {R : Room} {s : State} {m : MethodId} {args : Array Value} {below : List Frame} {meth : Method} {c : Code} {A : Nat → Prop} {Q : State → Prop} {ad : Nat → Nat → Nat} {fo fd : Nat} {mo : Nat → Nat} {b i L N cells slots : Nat} {xs : Nat → Int32} {ks kv : Nat → Nat} {d1 d2 : Nat} {K S Fc C D B : Mem} {cu ct : Nat} {hs : hS} {sv : sV} {ou : oB} {M : Mem} {f0 : Nat → Int64} {fD : Nat → UInt64} {H : Heap} {locs : List Loc} {ls : Array Slot} (F : Fx G p s m c cL_law 9 RL A) (gM : MG G) (hNC : NcG G) (hSG : SG G ks kv) (pv : PV G) (hD : DGs G d1 d2) (hst : l.stackTraces = false) (hX : va_X b L xs s s.heap) (hbA : ¬ A b) (hbl : b < s.heap.size) (hL : L ≤ 2560) (hi : i + 5 ≤ L) (hR1 : 60 ≤ R.frames) (hR2 : 3000 ≤ R.locals) (hc1 : cells + 20 ≤ R.cells) (hs1 : slots + 200 ≤ R.slots) (hN : N < 2 ^ 29) (h : Top N K S C cu ct hs sv ou M) (w : Wd G A s.heap (fl (wAll G.2.1 ad K S Fc C D B cu ct hs sv ou fo f0 fd fD mo M)) H locs) (hl : lv_has ls 9 [(5, .int (nI i)), (4, .ref fd), (3, .ref fo), (2, .ref (mo 0)), (1, .ref ((ad 0) 0)), (0, .ref b)]) (kk : KKc G p l e R s m args below meth c A Q ad fo fd mo b i N cells slots) : W p l e R s m args below meth c H locs cells slots Q (F0 m 747 ls []) := by
  have w : Wd G A s.heap (fl [wXo G.2.1 (ad 0) (xF ad) (svV sv) K, wSh G.2.1 (ad 1) S, wSh G.2.1 (ad 2) Fc, wTe G.2.1 (ad 4) C, wSb G.2.1 (ad 5) ou, wAd G.2.1 (ad 6) D, wAb G.2.1 (ad 7) B, wHo G.2.1 (ad 3) cu ct hs, [(fo, .inl (G.2.1 4, 1, .inr (.inl f0)))], [(fd, .inl (G.2.1 5, 1, .inr (.inr (.inr (.inl fD)))))], wMo G.2.1 mo M, hsL G.2.1 hs, blk G.2.1 sv]) H locs := w
  refine lv_aload_n F.x F.b dL_law_747 rfl (lv_at hl 4 rfl) ?_
  refine lv_aload_n F.x F.b dL_law_748 rfl (lv_at hl 5 rfl) ?_
  refine lv_iload F.x F.b dL_law_749 (lv_at hl 0 rfl) ?_
  refine lv_iconst (v := 1) F.x F.b dL_law_751 (by decide) ?_
  refine lv_iadd F.x F.b dL_law_752 ?_
  refine rX F w hX hbA hbl (k := i + 1) (nI_add i 1) (by omega) hL dL_law_753 ?_
  refine lv_aload_n F.x F.b dL_law_754 rfl (lv_at hl 2 rfl) ?_
  refine kLi F w hst (LC := [wXo G.2.1 (ad 0) (xF ad) (svV sv) K, wSh G.2.1 (ad 1) S, wSh G.2.1 (ad 2) Fc, wTe G.2.1 (ad 4) C, wSb G.2.1 (ad 5) ou, wAd G.2.1 (ad 6) D, wAb G.2.1 (ad 7) B, wHo G.2.1 (ad 3) cu ct hs, [(fo, .inl (G.2.1 4, 1, .inr (.inl f0)))], hsL G.2.1 hs, blk G.2.1 sv]) (LR := [[(fd, .inl (G.2.1 5, 1, .inr (.inr (.inr (.inl fD)))))], wMo G.2.1 mo M]) (As := [.ref ((ad 0) 0), .int (xs (i + 1)), .ref fo]) (rest := []) (l_quantity F.1 gM hNC h) mh_quantity vh_quantity (List.mem_of_getElem? (i := 1057) (by decide +kernel)) 13 [0, 1, 2, 3, 4, 5, 6, 7, 8, 11, 12, 9, 10] rfl rfl rfl ⟨by omega, by omega⟩ rfl hl.1 rfl (Nat.le_of_ble_eq_true rfl) dL_law_755 ⟨by omega, by omega⟩ (fun r8 w1 H locs h9 w => ?_)
  obtain ⟨K1, S1, Fc1, C1, D1, B1, cu1, ct1, hs1, sv1, ou1, M1, b1, f1, h9, e2, e3, e4, hf⟩ := h9
  have w := w.jn (L1 := [wXo G.2.1 (ad 0) (xF ad) (svV sv1) K1, wSh G.2.1 (ad 1) S1, wSh G.2.1 (ad 2) Fc1, wTe G.2.1 (ad 4) C1, wSb G.2.1 (ad 5) ou1, wAd G.2.1 (ad 6) D1, wAb G.2.1 (ad 7) B1, wHo G.2.1 (ad 3) cu1 ct1 hs1, [(fo, .inl (G.2.1 4, 1, .inr (.inl f1)))], hsL G.2.1 hs1, blk G.2.1 sv1]) (L' := [wXo G.2.1 (ad 0) (xF ad) (svV sv1) K1, wSh G.2.1 (ad 1) S1, wSh G.2.1 (ad 2) Fc1, wTe G.2.1 (ad 4) C1, wSb G.2.1 (ad 5) ou1, wAd G.2.1 (ad 6) D1, wAb G.2.1 (ad 7) B1, wHo G.2.1 (ad 3) cu1 ct1 hs1, [(fo, .inl (G.2.1 4, 1, .inr (.inl f1)))], [(fd, .inl (G.2.1 5, 1, .inr (.inr (.inr (.inl fD)))))], wMo G.2.1 mo M, hsL G.2.1 hs1, blk G.2.1 sv1]) h9 13 [0, 1, 2, 3, 4, 5, 6, 7, 8, 11, 12, 9, 10] rfl rfl rfl
  have w : Wd G A s.heap (fl [wXo G.2.1 (ad 0) (xF ad) (svV sv1) K1, wSh G.2.1 (ad 1) S1, wSh G.2.1 (ad 2) Fc1, wTe G.2.1 (ad 4) C1, wSb G.2.1 (ad 5) ou1, wAd G.2.1 (ad 6) D1, wAb G.2.1 (ad 7) B1, wHo G.2.1 (ad 3) cu1 ct1 hs1, [(fo, .inl (G.2.1 4, 1, .inr (.inl f1)))], [(fd, .inl (G.2.1 5, 1, .inr (.inr (.inr (.inl fD)))))], wMo G.2.1 mo M, hsL G.2.1 hs1, blk G.2.1 sv1]) _ _ := w
  refine lv_istore (lv' := [(6, .int r8), (5, .int (nI i)), (4, .ref fd), (3, .ref fo), (2, .ref (mo 0)), (1, .ref ((ad 0) 0)), (0, .ref b)]) F.x F.b dL_law_758 hl (by decide) rfl (fun ls hl => ?_)
  refine lv_aload_n F.x F.b dL_law_760 rfl (lv_at hl 4 rfl) ?_
  refine lv_aload_n F.x F.b dL_law_761 rfl (lv_at hl 6 rfl) ?_
  refine lv_iload F.x F.b dL_law_762 (lv_at hl 1 rfl) ?_
  refine lv_iconst (v := 1) F.x F.b dL_law_764 (by decide) ?_
  refine lv_iadd F.x F.b dL_law_765 ?_
  refine rX F w hX hbA hbl (k := i + 1) (nI_add i 1) (by omega) hL dL_law_766 ?_
  refine kXi F w hst (LC := [wMo G.2.1 mo M]) (LR := [wXo G.2.1 (ad 0) (xF ad) (svV sv1) K1, wSh G.2.1 (ad 1) S1, wSh G.2.1 (ad 2) Fc1, wTe G.2.1 (ad 4) C1, wSb G.2.1 (ad 5) ou1, wAd G.2.1 (ad 6) D1, wAb G.2.1 (ad 7) B1, wHo G.2.1 (ad 3) cu1 ct1 hs1, [(fo, .inl (G.2.1 4, 1, .inr (.inl f1)))], [(fd, .inl (G.2.1 5, 1, .inr (.inr (.inr (.inl fD)))))], hsL G.2.1 hs1, blk G.2.1 sv1]) (As := [.int (xs (i + 1))]) (rest := []) (t_X7_quantity F.1 e2).toX m_X7_quantity v_X7_quantity q1723 (ci := 11) (q0 := 40) rfl rfl rfl 13 [10, 0, 1, 2, 3, 4, 5, 6, 7, 8, 9, 11, 12] rfl rfl rfl ⟨by omega, by omega⟩ rfl hl.1 rfl (Nat.le_of_ble_eq_true rfl) dL_law_767 ⟨by omega, by omega⟩ (fun _ _ _ _ _ _ hx => False.elim hx) (fun r9 w1 H locs h9 w => ?_)
  obtain ⟨hb9, h9⟩ := h9
  have w := w.jn (L1 := [wMo G.2.1 mo M1]) (L' := [wXo G.2.1 (ad 0) (xF ad) (svV sv1) K1, wSh G.2.1 (ad 1) S1, wSh G.2.1 (ad 2) Fc1, wTe G.2.1 (ad 4) C1, wSb G.2.1 (ad 5) ou1, wAd G.2.1 (ad 6) D1, wAb G.2.1 (ad 7) B1, wHo G.2.1 (ad 3) cu1 ct1 hs1, [(fo, .inl (G.2.1 4, 1, .inr (.inl f1)))], [(fd, .inl (G.2.1 5, 1, .inr (.inr (.inr (.inl fD)))))], wMo G.2.1 mo M1, hsL G.2.1 hs1, blk G.2.1 sv1]) h9 13 [1, 2, 3, 4, 5, 6, 7, 8, 9, 10, 0, 11, 12] rfl rfl rfl
  rw [hb9]
  have w : Wd G A s.heap (fl [wXo G.2.1 (ad 0) (xF ad) (svV sv1) K1, wSh G.2.1 (ad 1) S1, wSh G.2.1 (ad 2) Fc1, wTe G.2.1 (ad 4) C1, wSb G.2.1 (ad 5) ou1, wAd G.2.1 (ad 6) D1, wAb G.2.1 (ad 7) B1, wHo G.2.1 (ad 3) cu1 ct1 hs1, [(fo, .inl (G.2.1 4, 1, .inr (.inl f1)))], [(fd, .inl (G.2.1 5, 1, .inr (.inr (.inr (.inl fD)))))], wMo G.2.1 mo M1, hsL G.2.1 hs1, blk G.2.1 sv1]) _ _ := w
  refine lv_istore (lv' := [(7, .int b1), (6, .int r8), (5, .int (nI i)), (4, .ref fd), (3, .ref fo), (2, .ref (mo 0)), (1, .ref ((ad 0) 0)), (0, .ref b)]) F.x F.b dL_law_770 hl (by decide) rfl (fun ls hl => ?_)
  refine lv_aload_n F.x F.b dL_law_772 rfl (lv_at hl 5 rfl) ?_
  refine kXi F w hst (LC := [wMo G.2.1 mo M1]) (LR := [wXo G.2.1 (ad 0) (xF ad) (svV sv1) K1, wSh G.2.1 (ad 1) S1, wSh G.2.1 (ad 2) Fc1, wTe G.2.1 (ad 4) C1, wSb G.2.1 (ad 5) ou1, wAd G.2.1 (ad 6) D1, wAb G.2.1 (ad 7) B1, wHo G.2.1 (ad 3) cu1 ct1 hs1, [(fo, .inl (G.2.1 4, 1, .inr (.inl f1)))], [(fd, .inl (G.2.1 5, 1, .inr (.inr (.inr (.inl fD)))))], hsL G.2.1 hs1, blk G.2.1 sv1]) (As := []) (rest := []) (t_X7_thrown F.1 (r := r8) (show f_X7_thrown M1 = some r8 from by rw [f_X7_thrown, e3])).toX m_X7_thrown v_X7_thrown q1614 (ci := 11) (q0 := 40) rfl rfl rfl 13 [10, 0, 1, 2, 3, 4, 5, 6, 7, 8, 9, 11, 12] rfl rfl rfl ⟨by omega, by omega⟩ rfl hl.1 rfl (Nat.le_of_ble_eq_true rfl) dL_law_773 ⟨by omega, by omega⟩ (fun _ _ _ _ _ _ hx => False.elim hx) (fun r9 w1 H locs h9 w => ?_)
  obtain ⟨hb8, h9⟩ := h9
  have w := w.jn (L1 := [wMo G.2.1 mo M1]) (L' := [wXo G.2.1 (ad 0) (xF ad) (svV sv1) K1, wSh G.2.1 (ad 1) S1, wSh G.2.1 (ad 2) Fc1, wTe G.2.1 (ad 4) C1, wSb G.2.1 (ad 5) ou1, wAd G.2.1 (ad 6) D1, wAb G.2.1 (ad 7) B1, wHo G.2.1 (ad 3) cu1 ct1 hs1, [(fo, .inl (G.2.1 4, 1, .inr (.inl f1)))], [(fd, .inl (G.2.1 5, 1, .inr (.inr (.inr (.inl fD)))))], wMo G.2.1 mo M1, hsL G.2.1 hs1, blk G.2.1 sv1]) h9 13 [1, 2, 3, 4, 5, 6, 7, 8, 9, 10, 0, 11, 12] rfl rfl rfl
  rw [hb8]
  have w : Wd G A s.heap (fl [wXo G.2.1 (ad 0) (xF ad) (svV sv1) K1, wSh G.2.1 (ad 1) S1, wSh G.2.1 (ad 2) Fc1, wTe G.2.1 (ad 4) C1, wSb G.2.1 (ad 5) ou1, wAd G.2.1 (ad 6) D1, wAb G.2.1 (ad 7) B1, wHo G.2.1 (ad 3) cu1 ct1 hs1, [(fo, .inl (G.2.1 4, 1, .inr (.inl f1)))], [(fd, .inl (G.2.1 5, 1, .inr (.inr (.inr (.inl fD)))))], wMo G.2.1 mo M1, hsL G.2.1 hs1, blk G.2.1 sv1]) _ _ := w
  refine lv_iload F.x F.b dL_law_776 (lv_at hl 1 rfl) ?_
  refine lv_icmp_eq (tgt := 783) F.x F.b dL_law_778 (by decide) (fun _ => ?_) (fun c9 => absurd rfl c9)
  refine lv_iload F.x F.b dL_law_783 (lv_at hl 1 rfl) ?_
  by_cases hr : r8 = 0
  · refine lv_if_ne (tgt := 800) F.x F.b dL_law_785 (by decide) (fun c9 => absurd hr c9) (fun _ => ?_)
    refine lv_aload_n F.x F.b dL_law_788 rfl (lv_at hl 4 rfl) ?_
    refine lv_iconst (v := 0) F.x F.b dL_law_789 (by decide) ?_
    refine rLl F w 38 rfl (by decide) (v := Int32.toInt64 b1) (by rw [sb_cl0]; exact hf hr) dL_law_790 ?_
    refine lv_iload F.x F.b dL_law_791 (lv_at hl 0 rfl) ?_
    refine lv_i2l (v := (Int32.toInt64 b1)) F.x F.b dL_law_793 rfl ?_
    refine rLc F.x F.b rfl dL_law_794 ?_
    refine lv_if_eq (tgt := 800) F.x F.b dL_law_795 (by decide) (fun _ => ?_) (fun c9 => absurd rfl c9)
    refine lv_goto (tgt := 2836) F.x F.b dL_law_800 (by decide) ?_
    refine W.widen (k := cells + 20) (n := slots + 200) (by omega) (by omega) ?_
    exact kk K1 S1 Fc1 C1 D1 B1 cu1 ct1 hs1 sv1 ou1 M1 f1 fD _ _ _ w e4 (lv_sub hl [2, 3, 4, 5, 6, 7] rfl)
  · refine lv_if_ne (tgt := 800) F.x F.b dL_law_785 (by decide) (fun _ => ?_) (fun c9 => absurd c9 hr)
    refine lv_goto (tgt := 2836) F.x F.b dL_law_800 (by decide) ?_
    refine W.widen (k := cells + 20) (n := slots + 200) (by omega) (by omega) ?_
    exact kk K1 S1 Fc1 C1 D1 B1 cu1 ct1 hs1 sv1 ou1 M1 f1 fD _ _ _ w e4 (lv_sub hl [2, 3, 4, 5, 6, 7] rfl)
set_option maxRecDepth 100000 in
set_option maxHeartbeats 4000000 in
theorem cs_9 {G : cG} {p : Program} {l : Launch} {e : Env} {R : Room} {s : State} {m : MethodId} {args : Array Value} {below : List Frame} {meth : Method} {c : Code} {A : Nat → Prop} {Q : State → Prop} {ad : Nat → Nat → Nat} {fo fd : Nat} {mo : Nat → Nat} {b i L N cells slots : Nat} {xs : Nat → Int32} {ks kv : Nat → Nat} {d1 d2 : Nat} {K S Fc C D B : Mem} {cu ct : Nat} {hs : hS} {sv : sV} {ou : oB} {M : Mem} {f0 : Nat → Int64} {fD : Nat → UInt64} {H : Heap} {locs : List Loc} {ls : Array Slot} (F : Fx G p s m c cL_law 9 RL A) (gM : MG G) (hNC : NcG G) (hSG : SG G ks kv) (pv : PV G) (hD : DGs G d1 d2) (hst : l.stackTraces = false) (hX : va_X b L xs s s.heap) (hbA : ¬ A b) (hbl : b < s.heap.size) (hL : L ≤ 2560) (hi : i + 5 ≤ L) (hR1 : 60 ≤ R.frames) (hR2 : 3000 ≤ R.locals) (hc1 : cells + 20 ≤ R.cells) (hs1 : slots + 200 ≤ R.slots) (hN : N < 2 ^ 29) (h : Top N K S C cu ct hs sv ou M) (w : Wd G A s.heap (fl (wAll G.2.1 ad K S Fc C D B cu ct hs sv ou fo f0 fd fD mo M)) H locs) (hl : lv_has ls 9 [(5, .int (nI i)), (4, .ref fd), (3, .ref fo), (2, .ref (mo 0)), (1, .ref ((ad 0) 0)), (0, .ref b)]) (kk : KKc G p l e R s m args below meth c A Q ad fo fd mo b i N cells slots) : W p l e R s m args below meth c H locs cells slots Q (F0 m 803 ls []) := by
  have w : Wd G A s.heap (fl [wXo G.2.1 (ad 0) (xF ad) (svV sv) K, wSh G.2.1 (ad 1) S, wSh G.2.1 (ad 2) Fc, wTe G.2.1 (ad 4) C, wSb G.2.1 (ad 5) ou, wAd G.2.1 (ad 6) D, wAb G.2.1 (ad 7) B, wHo G.2.1 (ad 3) cu ct hs, [(fo, .inl (G.2.1 4, 1, .inr (.inl f0)))], [(fd, .inl (G.2.1 5, 1, .inr (.inr (.inr (.inl fD)))))], wMo G.2.1 mo M, hsL G.2.1 hs, blk G.2.1 sv]) H locs := w
  refine lv_aload_n F.x F.b dL_law_803 rfl (lv_at hl 4 rfl) ?_
  refine lv_aload_n F.x F.b dL_law_804 rfl (lv_at hl 5 rfl) ?_
  refine lv_iload F.x F.b dL_law_805 (lv_at hl 0 rfl) ?_
  refine lv_iconst (v := 1) F.x F.b dL_law_807 (by decide) ?_
  refine lv_iadd F.x F.b dL_law_808 ?_
  refine rX F w hX hbA hbl (k := i + 1) (nI_add i 1) (by omega) hL dL_law_809 ?_
  refine lv_aload_n F.x F.b dL_law_810 rfl (lv_at hl 2 rfl) ?_
  refine kLi F w hst (LC := [wXo G.2.1 (ad 0) (xF ad) (svV sv) K, wSh G.2.1 (ad 1) S, wSh G.2.1 (ad 2) Fc, wTe G.2.1 (ad 4) C, wSb G.2.1 (ad 5) ou, wAd G.2.1 (ad 6) D, wAb G.2.1 (ad 7) B, wHo G.2.1 (ad 3) cu ct hs, [(fo, .inl (G.2.1 4, 1, .inr (.inl f0)))], hsL G.2.1 hs, blk G.2.1 sv]) (LR := [[(fd, .inl (G.2.1 5, 1, .inr (.inr (.inr (.inl fD)))))], wMo G.2.1 mo M]) (As := [.ref ((ad 0) 0), .int (xs (i + 1)), .ref fo]) (rest := []) (l_price F.1 gM hNC h) mh_price vh_price (List.mem_of_getElem? (i := 1064) (by decide +kernel)) 13 [0, 1, 2, 3, 4, 5, 6, 7, 8, 11, 12, 9, 10] rfl rfl rfl ⟨by omega, by omega⟩ rfl hl.1 rfl (Nat.le_of_ble_eq_true rfl) dL_law_811 ⟨by omega, by omega⟩ (fun r8 w1 H locs h9 w => ?_)
  obtain ⟨K1, S1, Fc1, C1, D1, B1, cu1, ct1, hs1, sv1, ou1, M1, b1, f1, h9, e2, e3, e4, hf⟩ := h9
  have w := w.jn (L1 := [wXo G.2.1 (ad 0) (xF ad) (svV sv1) K1, wSh G.2.1 (ad 1) S1, wSh G.2.1 (ad 2) Fc1, wTe G.2.1 (ad 4) C1, wSb G.2.1 (ad 5) ou1, wAd G.2.1 (ad 6) D1, wAb G.2.1 (ad 7) B1, wHo G.2.1 (ad 3) cu1 ct1 hs1, [(fo, .inl (G.2.1 4, 1, .inr (.inl f1)))], hsL G.2.1 hs1, blk G.2.1 sv1]) (L' := [wXo G.2.1 (ad 0) (xF ad) (svV sv1) K1, wSh G.2.1 (ad 1) S1, wSh G.2.1 (ad 2) Fc1, wTe G.2.1 (ad 4) C1, wSb G.2.1 (ad 5) ou1, wAd G.2.1 (ad 6) D1, wAb G.2.1 (ad 7) B1, wHo G.2.1 (ad 3) cu1 ct1 hs1, [(fo, .inl (G.2.1 4, 1, .inr (.inl f1)))], [(fd, .inl (G.2.1 5, 1, .inr (.inr (.inr (.inl fD)))))], wMo G.2.1 mo M, hsL G.2.1 hs1, blk G.2.1 sv1]) h9 13 [0, 1, 2, 3, 4, 5, 6, 7, 8, 11, 12, 9, 10] rfl rfl rfl
  have w : Wd G A s.heap (fl [wXo G.2.1 (ad 0) (xF ad) (svV sv1) K1, wSh G.2.1 (ad 1) S1, wSh G.2.1 (ad 2) Fc1, wTe G.2.1 (ad 4) C1, wSb G.2.1 (ad 5) ou1, wAd G.2.1 (ad 6) D1, wAb G.2.1 (ad 7) B1, wHo G.2.1 (ad 3) cu1 ct1 hs1, [(fo, .inl (G.2.1 4, 1, .inr (.inl f1)))], [(fd, .inl (G.2.1 5, 1, .inr (.inr (.inr (.inl fD)))))], wMo G.2.1 mo M, hsL G.2.1 hs1, blk G.2.1 sv1]) _ _ := w
  refine lv_istore (lv' := [(6, .int r8), (5, .int (nI i)), (4, .ref fd), (3, .ref fo), (2, .ref (mo 0)), (1, .ref ((ad 0) 0)), (0, .ref b)]) F.x F.b dL_law_814 hl (by decide) rfl (fun ls hl => ?_)
  refine lv_aload_n F.x F.b dL_law_816 rfl (lv_at hl 4 rfl) ?_
  refine lv_aload_n F.x F.b dL_law_817 rfl (lv_at hl 6 rfl) ?_
  refine lv_iload F.x F.b dL_law_818 (lv_at hl 1 rfl) ?_
  refine lv_iconst (v := 1) F.x F.b dL_law_820 (by decide) ?_
  refine lv_iadd F.x F.b dL_law_821 ?_
  refine rX F w hX hbA hbl (k := i + 1) (nI_add i 1) (by omega) hL dL_law_822 ?_
  refine kXi F w hst (LC := [wMo G.2.1 mo M]) (LR := [wXo G.2.1 (ad 0) (xF ad) (svV sv1) K1, wSh G.2.1 (ad 1) S1, wSh G.2.1 (ad 2) Fc1, wTe G.2.1 (ad 4) C1, wSb G.2.1 (ad 5) ou1, wAd G.2.1 (ad 6) D1, wAb G.2.1 (ad 7) B1, wHo G.2.1 (ad 3) cu1 ct1 hs1, [(fo, .inl (G.2.1 4, 1, .inr (.inl f1)))], [(fd, .inl (G.2.1 5, 1, .inr (.inr (.inr (.inl fD)))))], hsL G.2.1 hs1, blk G.2.1 sv1]) (As := [.int (xs (i + 1))]) (rest := []) (t_X7_price F.1 e2).toX m_X7_price v_X7_price q1727 (ci := 11) (q0 := 40) rfl rfl rfl 13 [10, 0, 1, 2, 3, 4, 5, 6, 7, 8, 9, 11, 12] rfl rfl rfl ⟨by omega, by omega⟩ rfl hl.1 rfl (Nat.le_of_ble_eq_true rfl) dL_law_823 ⟨by omega, by omega⟩ (fun _ _ _ _ _ _ hx => False.elim hx) (fun r9 w1 H locs h9 w => ?_)
  obtain ⟨hb9, h9⟩ := h9
  have w := w.jn (L1 := [wMo G.2.1 mo M1]) (L' := [wXo G.2.1 (ad 0) (xF ad) (svV sv1) K1, wSh G.2.1 (ad 1) S1, wSh G.2.1 (ad 2) Fc1, wTe G.2.1 (ad 4) C1, wSb G.2.1 (ad 5) ou1, wAd G.2.1 (ad 6) D1, wAb G.2.1 (ad 7) B1, wHo G.2.1 (ad 3) cu1 ct1 hs1, [(fo, .inl (G.2.1 4, 1, .inr (.inl f1)))], [(fd, .inl (G.2.1 5, 1, .inr (.inr (.inr (.inl fD)))))], wMo G.2.1 mo M1, hsL G.2.1 hs1, blk G.2.1 sv1]) h9 13 [1, 2, 3, 4, 5, 6, 7, 8, 9, 10, 0, 11, 12] rfl rfl rfl
  rw [hb9]
  have w : Wd G A s.heap (fl [wXo G.2.1 (ad 0) (xF ad) (svV sv1) K1, wSh G.2.1 (ad 1) S1, wSh G.2.1 (ad 2) Fc1, wTe G.2.1 (ad 4) C1, wSb G.2.1 (ad 5) ou1, wAd G.2.1 (ad 6) D1, wAb G.2.1 (ad 7) B1, wHo G.2.1 (ad 3) cu1 ct1 hs1, [(fo, .inl (G.2.1 4, 1, .inr (.inl f1)))], [(fd, .inl (G.2.1 5, 1, .inr (.inr (.inr (.inl fD)))))], wMo G.2.1 mo M1, hsL G.2.1 hs1, blk G.2.1 sv1]) _ _ := w
  refine lv_istore (lv' := [(7, .int b1), (6, .int r8), (5, .int (nI i)), (4, .ref fd), (3, .ref fo), (2, .ref (mo 0)), (1, .ref ((ad 0) 0)), (0, .ref b)]) F.x F.b dL_law_826 hl (by decide) rfl (fun ls hl => ?_)
  refine lv_aload_n F.x F.b dL_law_828 rfl (lv_at hl 5 rfl) ?_
  refine kXi F w hst (LC := [wMo G.2.1 mo M1]) (LR := [wXo G.2.1 (ad 0) (xF ad) (svV sv1) K1, wSh G.2.1 (ad 1) S1, wSh G.2.1 (ad 2) Fc1, wTe G.2.1 (ad 4) C1, wSb G.2.1 (ad 5) ou1, wAd G.2.1 (ad 6) D1, wAb G.2.1 (ad 7) B1, wHo G.2.1 (ad 3) cu1 ct1 hs1, [(fo, .inl (G.2.1 4, 1, .inr (.inl f1)))], [(fd, .inl (G.2.1 5, 1, .inr (.inr (.inr (.inl fD)))))], hsL G.2.1 hs1, blk G.2.1 sv1]) (As := []) (rest := []) (t_X7_thrown F.1 (r := r8) (show f_X7_thrown M1 = some r8 from by rw [f_X7_thrown, e3])).toX m_X7_thrown v_X7_thrown q1614 (ci := 11) (q0 := 40) rfl rfl rfl 13 [10, 0, 1, 2, 3, 4, 5, 6, 7, 8, 9, 11, 12] rfl rfl rfl ⟨by omega, by omega⟩ rfl hl.1 rfl (Nat.le_of_ble_eq_true rfl) dL_law_829 ⟨by omega, by omega⟩ (fun _ _ _ _ _ _ hx => False.elim hx) (fun r9 w1 H locs h9 w => ?_)
  obtain ⟨hb8, h9⟩ := h9
  have w := w.jn (L1 := [wMo G.2.1 mo M1]) (L' := [wXo G.2.1 (ad 0) (xF ad) (svV sv1) K1, wSh G.2.1 (ad 1) S1, wSh G.2.1 (ad 2) Fc1, wTe G.2.1 (ad 4) C1, wSb G.2.1 (ad 5) ou1, wAd G.2.1 (ad 6) D1, wAb G.2.1 (ad 7) B1, wHo G.2.1 (ad 3) cu1 ct1 hs1, [(fo, .inl (G.2.1 4, 1, .inr (.inl f1)))], [(fd, .inl (G.2.1 5, 1, .inr (.inr (.inr (.inl fD)))))], wMo G.2.1 mo M1, hsL G.2.1 hs1, blk G.2.1 sv1]) h9 13 [1, 2, 3, 4, 5, 6, 7, 8, 9, 10, 0, 11, 12] rfl rfl rfl
  rw [hb8]
  have w : Wd G A s.heap (fl [wXo G.2.1 (ad 0) (xF ad) (svV sv1) K1, wSh G.2.1 (ad 1) S1, wSh G.2.1 (ad 2) Fc1, wTe G.2.1 (ad 4) C1, wSb G.2.1 (ad 5) ou1, wAd G.2.1 (ad 6) D1, wAb G.2.1 (ad 7) B1, wHo G.2.1 (ad 3) cu1 ct1 hs1, [(fo, .inl (G.2.1 4, 1, .inr (.inl f1)))], [(fd, .inl (G.2.1 5, 1, .inr (.inr (.inr (.inl fD)))))], wMo G.2.1 mo M1, hsL G.2.1 hs1, blk G.2.1 sv1]) _ _ := w
  refine lv_iload F.x F.b dL_law_832 (lv_at hl 1 rfl) ?_
  refine lv_icmp_eq (tgt := 839) F.x F.b dL_law_834 (by decide) (fun _ => ?_) (fun c9 => absurd rfl c9)
  refine lv_iload F.x F.b dL_law_839 (lv_at hl 1 rfl) ?_
  by_cases hr : r8 = 0
  · refine lv_if_ne (tgt := 856) F.x F.b dL_law_841 (by decide) (fun c9 => absurd hr c9) (fun _ => ?_)
    refine lv_aload_n F.x F.b dL_law_844 rfl (lv_at hl 4 rfl) ?_
    refine lv_iconst (v := 0) F.x F.b dL_law_845 (by decide) ?_
    refine rLl F w 38 rfl (by decide) (v := Int32.toInt64 b1) (by rw [sb_cl0]; exact hf hr) dL_law_846 ?_
    refine lv_iload F.x F.b dL_law_847 (lv_at hl 0 rfl) ?_
    refine lv_i2l (v := (Int32.toInt64 b1)) F.x F.b dL_law_849 rfl ?_
    refine rLc F.x F.b rfl dL_law_850 ?_
    refine lv_if_eq (tgt := 856) F.x F.b dL_law_851 (by decide) (fun _ => ?_) (fun c9 => absurd rfl c9)
    refine lv_goto (tgt := 2836) F.x F.b dL_law_856 (by decide) ?_
    refine W.widen (k := cells + 20) (n := slots + 200) (by omega) (by omega) ?_
    exact kk K1 S1 Fc1 C1 D1 B1 cu1 ct1 hs1 sv1 ou1 M1 f1 fD _ _ _ w e4 (lv_sub hl [2, 3, 4, 5, 6, 7] rfl)
  · refine lv_if_ne (tgt := 856) F.x F.b dL_law_841 (by decide) (fun _ => ?_) (fun c9 => absurd c9 hr)
    refine lv_goto (tgt := 2836) F.x F.b dL_law_856 (by decide) ?_
    refine W.widen (k := cells + 20) (n := slots + 200) (by omega) (by omega) ?_
    exact kk K1 S1 Fc1 C1 D1 B1 cu1 ct1 hs1 sv1 ou1 M1 f1 fD _ _ _ w e4 (lv_sub hl [2, 3, 4, 5, 6, 7] rfl)
set_option maxRecDepth 100000 in
set_option maxHeartbeats 4000000 in
theorem cs_10 {G : cG} {p : Program} {l : Launch} {e : Env} {R : Room} {s : State} {m : MethodId} {args : Array Value} {below : List Frame} {meth : Method} {c : Code} {A : Nat → Prop} {Q : State → Prop} {ad : Nat → Nat → Nat} {fo fd : Nat} {mo : Nat → Nat} {b i L N cells slots : Nat} {xs : Nat → Int32} {ks kv : Nat → Nat} {d1 d2 : Nat} {K S Fc C D B : Mem} {cu ct : Nat} {hs : hS} {sv : sV} {ou : oB} {M : Mem} {f0 : Nat → Int64} {fD : Nat → UInt64} {H : Heap} {locs : List Loc} {ls : Array Slot} (F : Fx G p s m c cL_law 9 RL A) (gM : MG G) (hNC : NcG G) (hSG : SG G ks kv) (pv : PV G) (hD : DGs G d1 d2) (hst : l.stackTraces = false) (hX : va_X b L xs s s.heap) (hbA : ¬ A b) (hbl : b < s.heap.size) (hL : L ≤ 2560) (hi : i + 5 ≤ L) (hR1 : 60 ≤ R.frames) (hR2 : 3000 ≤ R.locals) (hc1 : cells + 20 ≤ R.cells) (hs1 : slots + 200 ≤ R.slots) (hN : N < 2 ^ 29) (h : Top N K S C cu ct hs sv ou M) (w : Wd G A s.heap (fl (wAll G.2.1 ad K S Fc C D B cu ct hs sv ou fo f0 fd fD mo M)) H locs) (hl : lv_has ls 9 [(5, .int (nI i)), (4, .ref fd), (3, .ref fo), (2, .ref (mo 0)), (1, .ref ((ad 0) 0)), (0, .ref b)]) (kk : KKc G p l e R s m args below meth c A Q ad fo fd mo b i N cells slots) : W p l e R s m args below meth c H locs cells slots Q (F0 m 859 ls []) := by
  have w : Wd G A s.heap (fl [wXo G.2.1 (ad 0) (xF ad) (svV sv) K, wSh G.2.1 (ad 1) S, wSh G.2.1 (ad 2) Fc, wTe G.2.1 (ad 4) C, wSb G.2.1 (ad 5) ou, wAd G.2.1 (ad 6) D, wAb G.2.1 (ad 7) B, wHo G.2.1 (ad 3) cu ct hs, [(fo, .inl (G.2.1 4, 1, .inr (.inl f0)))], [(fd, .inl (G.2.1 5, 1, .inr (.inr (.inr (.inl fD)))))], wMo G.2.1 mo M, hsL G.2.1 hs, blk G.2.1 sv]) H locs := w
  refine lv_aload_n F.x F.b dL_law_859 rfl (lv_at hl 4 rfl) ?_
  refine lv_aload_n F.x F.b dL_law_860 rfl (lv_at hl 5 rfl) ?_
  refine lv_iload F.x F.b dL_law_861 (lv_at hl 0 rfl) ?_
  refine lv_iconst (v := 1) F.x F.b dL_law_863 (by decide) ?_
  refine lv_iadd F.x F.b dL_law_864 ?_
  refine rX F w hX hbA hbl (k := i + 1) (nI_add i 1) (by omega) hL dL_law_865 ?_
  refine lv_aload_n F.x F.b dL_law_866 rfl (lv_at hl 2 rfl) ?_
  refine kLi F w hst (LC := [wXo G.2.1 (ad 0) (xF ad) (svV sv) K, wSh G.2.1 (ad 1) S, wSh G.2.1 (ad 2) Fc, wTe G.2.1 (ad 4) C, wSb G.2.1 (ad 5) ou, wAd G.2.1 (ad 6) D, wAb G.2.1 (ad 7) B, wHo G.2.1 (ad 3) cu ct hs, [(fo, .inl (G.2.1 4, 1, .inr (.inl f0)))], hsL G.2.1 hs, blk G.2.1 sv]) (LR := [[(fd, .inl (G.2.1 5, 1, .inr (.inr (.inr (.inl fD)))))], wMo G.2.1 mo M]) (As := [.ref ((ad 0) 0), .int (xs (i + 1)), .ref fo]) (rest := []) (l_value F.1 gM hNC h) mh_value vh_value (List.mem_of_getElem? (i := 1071) (by decide +kernel)) 13 [0, 1, 2, 3, 4, 5, 6, 7, 8, 11, 12, 9, 10] rfl rfl rfl ⟨by omega, by omega⟩ rfl hl.1 rfl (Nat.le_of_ble_eq_true rfl) dL_law_867 ⟨by omega, by omega⟩ (fun r8 w1 H locs h9 w => ?_)
  obtain ⟨K1, S1, Fc1, C1, D1, B1, cu1, ct1, hs1, sv1, ou1, M1, b1, f1, h9, e2, e3, e4, hf⟩ := h9
  have w := w.jn (L1 := [wXo G.2.1 (ad 0) (xF ad) (svV sv1) K1, wSh G.2.1 (ad 1) S1, wSh G.2.1 (ad 2) Fc1, wTe G.2.1 (ad 4) C1, wSb G.2.1 (ad 5) ou1, wAd G.2.1 (ad 6) D1, wAb G.2.1 (ad 7) B1, wHo G.2.1 (ad 3) cu1 ct1 hs1, [(fo, .inl (G.2.1 4, 1, .inr (.inl f1)))], hsL G.2.1 hs1, blk G.2.1 sv1]) (L' := [wXo G.2.1 (ad 0) (xF ad) (svV sv1) K1, wSh G.2.1 (ad 1) S1, wSh G.2.1 (ad 2) Fc1, wTe G.2.1 (ad 4) C1, wSb G.2.1 (ad 5) ou1, wAd G.2.1 (ad 6) D1, wAb G.2.1 (ad 7) B1, wHo G.2.1 (ad 3) cu1 ct1 hs1, [(fo, .inl (G.2.1 4, 1, .inr (.inl f1)))], [(fd, .inl (G.2.1 5, 1, .inr (.inr (.inr (.inl fD)))))], wMo G.2.1 mo M, hsL G.2.1 hs1, blk G.2.1 sv1]) h9 13 [0, 1, 2, 3, 4, 5, 6, 7, 8, 11, 12, 9, 10] rfl rfl rfl
  have w : Wd G A s.heap (fl [wXo G.2.1 (ad 0) (xF ad) (svV sv1) K1, wSh G.2.1 (ad 1) S1, wSh G.2.1 (ad 2) Fc1, wTe G.2.1 (ad 4) C1, wSb G.2.1 (ad 5) ou1, wAd G.2.1 (ad 6) D1, wAb G.2.1 (ad 7) B1, wHo G.2.1 (ad 3) cu1 ct1 hs1, [(fo, .inl (G.2.1 4, 1, .inr (.inl f1)))], [(fd, .inl (G.2.1 5, 1, .inr (.inr (.inr (.inl fD)))))], wMo G.2.1 mo M, hsL G.2.1 hs1, blk G.2.1 sv1]) _ _ := w
  refine lv_istore (lv' := [(6, .int r8), (5, .int (nI i)), (4, .ref fd), (3, .ref fo), (2, .ref (mo 0)), (1, .ref ((ad 0) 0)), (0, .ref b)]) F.x F.b dL_law_870 hl (by decide) rfl (fun ls hl => ?_)
  refine lv_aload_n F.x F.b dL_law_872 rfl (lv_at hl 4 rfl) ?_
  refine lv_aload_n F.x F.b dL_law_873 rfl (lv_at hl 6 rfl) ?_
  refine lv_iload F.x F.b dL_law_874 (lv_at hl 1 rfl) ?_
  refine lv_iconst (v := 1) F.x F.b dL_law_876 (by decide) ?_
  refine lv_iadd F.x F.b dL_law_877 ?_
  refine rX F w hX hbA hbl (k := i + 1) (nI_add i 1) (by omega) hL dL_law_878 ?_
  refine kXi F w hst (LC := [wMo G.2.1 mo M]) (LR := [wXo G.2.1 (ad 0) (xF ad) (svV sv1) K1, wSh G.2.1 (ad 1) S1, wSh G.2.1 (ad 2) Fc1, wTe G.2.1 (ad 4) C1, wSb G.2.1 (ad 5) ou1, wAd G.2.1 (ad 6) D1, wAb G.2.1 (ad 7) B1, wHo G.2.1 (ad 3) cu1 ct1 hs1, [(fo, .inl (G.2.1 4, 1, .inr (.inl f1)))], [(fd, .inl (G.2.1 5, 1, .inr (.inr (.inr (.inl fD)))))], hsL G.2.1 hs1, blk G.2.1 sv1]) (As := [.int (xs (i + 1))]) (rest := []) (t_X7_value F.1 e2).toX m_X7_value v_X7_value q1731 (ci := 11) (q0 := 40) rfl rfl rfl 13 [10, 0, 1, 2, 3, 4, 5, 6, 7, 8, 9, 11, 12] rfl rfl rfl ⟨by omega, by omega⟩ rfl hl.1 rfl (Nat.le_of_ble_eq_true rfl) dL_law_879 ⟨by omega, by omega⟩ (fun _ _ _ _ _ _ hx => False.elim hx) (fun r9 w1 H locs h9 w => ?_)
  obtain ⟨hb9, h9⟩ := h9
  have w := w.jn (L1 := [wMo G.2.1 mo M1]) (L' := [wXo G.2.1 (ad 0) (xF ad) (svV sv1) K1, wSh G.2.1 (ad 1) S1, wSh G.2.1 (ad 2) Fc1, wTe G.2.1 (ad 4) C1, wSb G.2.1 (ad 5) ou1, wAd G.2.1 (ad 6) D1, wAb G.2.1 (ad 7) B1, wHo G.2.1 (ad 3) cu1 ct1 hs1, [(fo, .inl (G.2.1 4, 1, .inr (.inl f1)))], [(fd, .inl (G.2.1 5, 1, .inr (.inr (.inr (.inl fD)))))], wMo G.2.1 mo M1, hsL G.2.1 hs1, blk G.2.1 sv1]) h9 13 [1, 2, 3, 4, 5, 6, 7, 8, 9, 10, 0, 11, 12] rfl rfl rfl
  rw [hb9]
  have w : Wd G A s.heap (fl [wXo G.2.1 (ad 0) (xF ad) (svV sv1) K1, wSh G.2.1 (ad 1) S1, wSh G.2.1 (ad 2) Fc1, wTe G.2.1 (ad 4) C1, wSb G.2.1 (ad 5) ou1, wAd G.2.1 (ad 6) D1, wAb G.2.1 (ad 7) B1, wHo G.2.1 (ad 3) cu1 ct1 hs1, [(fo, .inl (G.2.1 4, 1, .inr (.inl f1)))], [(fd, .inl (G.2.1 5, 1, .inr (.inr (.inr (.inl fD)))))], wMo G.2.1 mo M1, hsL G.2.1 hs1, blk G.2.1 sv1]) _ _ := w
  refine lv_istore (lv' := [(7, .int b1), (6, .int r8), (5, .int (nI i)), (4, .ref fd), (3, .ref fo), (2, .ref (mo 0)), (1, .ref ((ad 0) 0)), (0, .ref b)]) F.x F.b dL_law_882 hl (by decide) rfl (fun ls hl => ?_)
  refine lv_aload_n F.x F.b dL_law_884 rfl (lv_at hl 5 rfl) ?_
  refine kXi F w hst (LC := [wMo G.2.1 mo M1]) (LR := [wXo G.2.1 (ad 0) (xF ad) (svV sv1) K1, wSh G.2.1 (ad 1) S1, wSh G.2.1 (ad 2) Fc1, wTe G.2.1 (ad 4) C1, wSb G.2.1 (ad 5) ou1, wAd G.2.1 (ad 6) D1, wAb G.2.1 (ad 7) B1, wHo G.2.1 (ad 3) cu1 ct1 hs1, [(fo, .inl (G.2.1 4, 1, .inr (.inl f1)))], [(fd, .inl (G.2.1 5, 1, .inr (.inr (.inr (.inl fD)))))], hsL G.2.1 hs1, blk G.2.1 sv1]) (As := []) (rest := []) (t_X7_thrown F.1 (r := r8) (show f_X7_thrown M1 = some r8 from by rw [f_X7_thrown, e3])).toX m_X7_thrown v_X7_thrown q1614 (ci := 11) (q0 := 40) rfl rfl rfl 13 [10, 0, 1, 2, 3, 4, 5, 6, 7, 8, 9, 11, 12] rfl rfl rfl ⟨by omega, by omega⟩ rfl hl.1 rfl (Nat.le_of_ble_eq_true rfl) dL_law_885 ⟨by omega, by omega⟩ (fun _ _ _ _ _ _ hx => False.elim hx) (fun r9 w1 H locs h9 w => ?_)
  obtain ⟨hb8, h9⟩ := h9
  have w := w.jn (L1 := [wMo G.2.1 mo M1]) (L' := [wXo G.2.1 (ad 0) (xF ad) (svV sv1) K1, wSh G.2.1 (ad 1) S1, wSh G.2.1 (ad 2) Fc1, wTe G.2.1 (ad 4) C1, wSb G.2.1 (ad 5) ou1, wAd G.2.1 (ad 6) D1, wAb G.2.1 (ad 7) B1, wHo G.2.1 (ad 3) cu1 ct1 hs1, [(fo, .inl (G.2.1 4, 1, .inr (.inl f1)))], [(fd, .inl (G.2.1 5, 1, .inr (.inr (.inr (.inl fD)))))], wMo G.2.1 mo M1, hsL G.2.1 hs1, blk G.2.1 sv1]) h9 13 [1, 2, 3, 4, 5, 6, 7, 8, 9, 10, 0, 11, 12] rfl rfl rfl
  rw [hb8]
  have w : Wd G A s.heap (fl [wXo G.2.1 (ad 0) (xF ad) (svV sv1) K1, wSh G.2.1 (ad 1) S1, wSh G.2.1 (ad 2) Fc1, wTe G.2.1 (ad 4) C1, wSb G.2.1 (ad 5) ou1, wAd G.2.1 (ad 6) D1, wAb G.2.1 (ad 7) B1, wHo G.2.1 (ad 3) cu1 ct1 hs1, [(fo, .inl (G.2.1 4, 1, .inr (.inl f1)))], [(fd, .inl (G.2.1 5, 1, .inr (.inr (.inr (.inl fD)))))], wMo G.2.1 mo M1, hsL G.2.1 hs1, blk G.2.1 sv1]) _ _ := w
  refine lv_iload F.x F.b dL_law_888 (lv_at hl 1 rfl) ?_
  refine lv_icmp_eq (tgt := 895) F.x F.b dL_law_890 (by decide) (fun _ => ?_) (fun c9 => absurd rfl c9)
  refine lv_iload F.x F.b dL_law_895 (lv_at hl 1 rfl) ?_
  by_cases hr : r8 = 0
  · refine lv_if_ne (tgt := 912) F.x F.b dL_law_897 (by decide) (fun c9 => absurd hr c9) (fun _ => ?_)
    refine lv_aload_n F.x F.b dL_law_900 rfl (lv_at hl 4 rfl) ?_
    refine lv_iconst (v := 0) F.x F.b dL_law_901 (by decide) ?_
    refine rLl F w 38 rfl (by decide) (v := Int32.toInt64 b1) (by rw [sb_cl0]; exact hf hr) dL_law_902 ?_
    refine lv_iload F.x F.b dL_law_903 (lv_at hl 0 rfl) ?_
    refine lv_i2l (v := (Int32.toInt64 b1)) F.x F.b dL_law_905 rfl ?_
    refine rLc F.x F.b rfl dL_law_906 ?_
    refine lv_if_eq (tgt := 912) F.x F.b dL_law_907 (by decide) (fun _ => ?_) (fun c9 => absurd rfl c9)
    refine lv_goto (tgt := 2836) F.x F.b dL_law_912 (by decide) ?_
    refine W.widen (k := cells + 20) (n := slots + 200) (by omega) (by omega) ?_
    exact kk K1 S1 Fc1 C1 D1 B1 cu1 ct1 hs1 sv1 ou1 M1 f1 fD _ _ _ w e4 (lv_sub hl [2, 3, 4, 5, 6, 7] rfl)
  · refine lv_if_ne (tgt := 912) F.x F.b dL_law_897 (by decide) (fun _ => ?_) (fun c9 => absurd c9 hr)
    refine lv_goto (tgt := 2836) F.x F.b dL_law_912 (by decide) ?_
    refine W.widen (k := cells + 20) (n := slots + 200) (by omega) (by omega) ?_
    exact kk K1 S1 Fc1 C1 D1 B1 cu1 ct1 hs1 sv1 ou1 M1 f1 fD _ _ _ w e4 (lv_sub hl [2, 3, 4, 5, 6, 7] rfl)
set_option maxRecDepth 100000 in
set_option maxHeartbeats 4000000 in
theorem cs_11 {G : cG} {p : Program} {l : Launch} {e : Env} {R : Room} {s : State} {m : MethodId} {args : Array Value} {below : List Frame} {meth : Method} {c : Code} {A : Nat → Prop} {Q : State → Prop} {ad : Nat → Nat → Nat} {fo fd : Nat} {mo : Nat → Nat} {b i L N cells slots : Nat} {xs : Nat → Int32} {ks kv : Nat → Nat} {d1 d2 : Nat} {K S Fc C D B : Mem} {cu ct : Nat} {hs : hS} {sv : sV} {ou : oB} {M : Mem} {f0 : Nat → Int64} {fD : Nat → UInt64} {H : Heap} {locs : List Loc} {ls : Array Slot} (F : Fx G p s m c cL_law 9 RL A) (gM : MG G) (hNC : NcG G) (hSG : SG G ks kv) (pv : PV G) (hD : DGs G d1 d2) (hst : l.stackTraces = false) (hX : va_X b L xs s s.heap) (hbA : ¬ A b) (hbl : b < s.heap.size) (hL : L ≤ 2560) (hi : i + 5 ≤ L) (hR1 : 60 ≤ R.frames) (hR2 : 3000 ≤ R.locals) (hc1 : cells + 20 ≤ R.cells) (hs1 : slots + 200 ≤ R.slots) (hN : N < 2 ^ 29) (h : Top N K S C cu ct hs sv ou M) (w : Wd G A s.heap (fl (wAll G.2.1 ad K S Fc C D B cu ct hs sv ou fo f0 fd fD mo M)) H locs) (hl : lv_has ls 9 [(5, .int (nI i)), (4, .ref fd), (3, .ref fo), (2, .ref (mo 0)), (1, .ref ((ad 0) 0)), (0, .ref b)]) (kk : KKc G p l e R s m args below meth c A Q ad fo fd mo b i N cells slots) : W p l e R s m args below meth c H locs cells slots Q (F0 m 915 ls []) := by
  have w : Wd G A s.heap (fl [wXo G.2.1 (ad 0) (xF ad) (svV sv) K, wSh G.2.1 (ad 1) S, wSh G.2.1 (ad 2) Fc, wTe G.2.1 (ad 4) C, wSb G.2.1 (ad 5) ou, wAd G.2.1 (ad 6) D, wAb G.2.1 (ad 7) B, wHo G.2.1 (ad 3) cu ct hs, [(fo, .inl (G.2.1 4, 1, .inr (.inl f0)))], [(fd, .inl (G.2.1 5, 1, .inr (.inr (.inr (.inl fD)))))], wMo G.2.1 mo M, hsL G.2.1 hs, blk G.2.1 sv]) H locs := w
  refine lv_aload_n F.x F.b dL_law_915 rfl (lv_at hl 4 rfl) ?_
  refine lv_aload_n F.x F.b dL_law_916 rfl (lv_at hl 5 rfl) ?_
  refine lv_iload F.x F.b dL_law_917 (lv_at hl 0 rfl) ?_
  refine lv_iconst (v := 1) F.x F.b dL_law_919 (by decide) ?_
  refine lv_iadd F.x F.b dL_law_920 ?_
  refine rX F w hX hbA hbl (k := i + 1) (nI_add i 1) (by omega) hL dL_law_921 ?_
  refine lv_aload_n F.x F.b dL_law_922 rfl (lv_at hl 2 rfl) ?_
  refine kLi F w hst (LC := [wXo G.2.1 (ad 0) (xF ad) (svV sv) K, wSh G.2.1 (ad 1) S, wSh G.2.1 (ad 2) Fc, wTe G.2.1 (ad 4) C, wSb G.2.1 (ad 5) ou, wAd G.2.1 (ad 6) D, wAb G.2.1 (ad 7) B, wHo G.2.1 (ad 3) cu ct hs, [(fo, .inl (G.2.1 4, 1, .inr (.inl f0)))], hsL G.2.1 hs, blk G.2.1 sv]) (LR := [[(fd, .inl (G.2.1 5, 1, .inr (.inr (.inr (.inl fD)))))], wMo G.2.1 mo M]) (As := [.ref ((ad 0) 0), .int (xs (i + 1)), .ref fo]) (rest := []) (l_bay F.1 gM hNC h) mh_bay vh_bay (List.mem_of_getElem? (i := 1079) (by decide +kernel)) 13 [0, 1, 2, 3, 4, 5, 6, 7, 8, 11, 12, 9, 10] rfl rfl rfl ⟨by omega, by omega⟩ rfl hl.1 rfl (Nat.le_of_ble_eq_true rfl) dL_law_923 ⟨by omega, by omega⟩ (fun r8 w1 H locs h9 w => ?_)
  obtain ⟨K1, S1, Fc1, C1, D1, B1, cu1, ct1, hs1, sv1, ou1, M1, b1, f1, h9, e2, e3, e4, hf⟩ := h9
  have w := w.jn (L1 := [wXo G.2.1 (ad 0) (xF ad) (svV sv1) K1, wSh G.2.1 (ad 1) S1, wSh G.2.1 (ad 2) Fc1, wTe G.2.1 (ad 4) C1, wSb G.2.1 (ad 5) ou1, wAd G.2.1 (ad 6) D1, wAb G.2.1 (ad 7) B1, wHo G.2.1 (ad 3) cu1 ct1 hs1, [(fo, .inl (G.2.1 4, 1, .inr (.inl f1)))], hsL G.2.1 hs1, blk G.2.1 sv1]) (L' := [wXo G.2.1 (ad 0) (xF ad) (svV sv1) K1, wSh G.2.1 (ad 1) S1, wSh G.2.1 (ad 2) Fc1, wTe G.2.1 (ad 4) C1, wSb G.2.1 (ad 5) ou1, wAd G.2.1 (ad 6) D1, wAb G.2.1 (ad 7) B1, wHo G.2.1 (ad 3) cu1 ct1 hs1, [(fo, .inl (G.2.1 4, 1, .inr (.inl f1)))], [(fd, .inl (G.2.1 5, 1, .inr (.inr (.inr (.inl fD)))))], wMo G.2.1 mo M, hsL G.2.1 hs1, blk G.2.1 sv1]) h9 13 [0, 1, 2, 3, 4, 5, 6, 7, 8, 11, 12, 9, 10] rfl rfl rfl
  have w : Wd G A s.heap (fl [wXo G.2.1 (ad 0) (xF ad) (svV sv1) K1, wSh G.2.1 (ad 1) S1, wSh G.2.1 (ad 2) Fc1, wTe G.2.1 (ad 4) C1, wSb G.2.1 (ad 5) ou1, wAd G.2.1 (ad 6) D1, wAb G.2.1 (ad 7) B1, wHo G.2.1 (ad 3) cu1 ct1 hs1, [(fo, .inl (G.2.1 4, 1, .inr (.inl f1)))], [(fd, .inl (G.2.1 5, 1, .inr (.inr (.inr (.inl fD)))))], wMo G.2.1 mo M, hsL G.2.1 hs1, blk G.2.1 sv1]) _ _ := w
  refine lv_istore (lv' := [(6, .int r8), (5, .int (nI i)), (4, .ref fd), (3, .ref fo), (2, .ref (mo 0)), (1, .ref ((ad 0) 0)), (0, .ref b)]) F.x F.b dL_law_926 hl (by decide) rfl (fun ls hl => ?_)
  refine lv_aload_n F.x F.b dL_law_928 rfl (lv_at hl 4 rfl) ?_
  refine lv_aload_n F.x F.b dL_law_929 rfl (lv_at hl 6 rfl) ?_
  refine lv_iload F.x F.b dL_law_930 (lv_at hl 1 rfl) ?_
  refine lv_iconst (v := 1) F.x F.b dL_law_932 (by decide) ?_
  refine lv_iadd F.x F.b dL_law_933 ?_
  refine rX F w hX hbA hbl (k := i + 1) (nI_add i 1) (by omega) hL dL_law_934 ?_
  refine kXi F w hst (LC := [wMo G.2.1 mo M]) (LR := [wXo G.2.1 (ad 0) (xF ad) (svV sv1) K1, wSh G.2.1 (ad 1) S1, wSh G.2.1 (ad 2) Fc1, wTe G.2.1 (ad 4) C1, wSb G.2.1 (ad 5) ou1, wAd G.2.1 (ad 6) D1, wAb G.2.1 (ad 7) B1, wHo G.2.1 (ad 3) cu1 ct1 hs1, [(fo, .inl (G.2.1 4, 1, .inr (.inl f1)))], [(fd, .inl (G.2.1 5, 1, .inr (.inr (.inr (.inl fD)))))], hsL G.2.1 hs1, blk G.2.1 sv1]) (As := [.int (xs (i + 1))]) (rest := []) (t_X7_bay F.1 e2).toX m_X7_bay v_X7_bay q1735 (ci := 11) (q0 := 40) rfl rfl rfl 13 [10, 0, 1, 2, 3, 4, 5, 6, 7, 8, 9, 11, 12] rfl rfl rfl ⟨by omega, by omega⟩ rfl hl.1 rfl (Nat.le_of_ble_eq_true rfl) dL_law_935 ⟨by omega, by omega⟩ (fun _ _ _ _ _ _ hx => False.elim hx) (fun r9 w1 H locs h9 w => ?_)
  obtain ⟨hb9, h9⟩ := h9
  have w := w.jn (L1 := [wMo G.2.1 mo M1]) (L' := [wXo G.2.1 (ad 0) (xF ad) (svV sv1) K1, wSh G.2.1 (ad 1) S1, wSh G.2.1 (ad 2) Fc1, wTe G.2.1 (ad 4) C1, wSb G.2.1 (ad 5) ou1, wAd G.2.1 (ad 6) D1, wAb G.2.1 (ad 7) B1, wHo G.2.1 (ad 3) cu1 ct1 hs1, [(fo, .inl (G.2.1 4, 1, .inr (.inl f1)))], [(fd, .inl (G.2.1 5, 1, .inr (.inr (.inr (.inl fD)))))], wMo G.2.1 mo M1, hsL G.2.1 hs1, blk G.2.1 sv1]) h9 13 [1, 2, 3, 4, 5, 6, 7, 8, 9, 10, 0, 11, 12] rfl rfl rfl
  rw [hb9]
  have w : Wd G A s.heap (fl [wXo G.2.1 (ad 0) (xF ad) (svV sv1) K1, wSh G.2.1 (ad 1) S1, wSh G.2.1 (ad 2) Fc1, wTe G.2.1 (ad 4) C1, wSb G.2.1 (ad 5) ou1, wAd G.2.1 (ad 6) D1, wAb G.2.1 (ad 7) B1, wHo G.2.1 (ad 3) cu1 ct1 hs1, [(fo, .inl (G.2.1 4, 1, .inr (.inl f1)))], [(fd, .inl (G.2.1 5, 1, .inr (.inr (.inr (.inl fD)))))], wMo G.2.1 mo M1, hsL G.2.1 hs1, blk G.2.1 sv1]) _ _ := w
  refine lv_istore (lv' := [(7, .int b1), (6, .int r8), (5, .int (nI i)), (4, .ref fd), (3, .ref fo), (2, .ref (mo 0)), (1, .ref ((ad 0) 0)), (0, .ref b)]) F.x F.b dL_law_938 hl (by decide) rfl (fun ls hl => ?_)
  refine lv_aload_n F.x F.b dL_law_940 rfl (lv_at hl 5 rfl) ?_
  refine kXi F w hst (LC := [wMo G.2.1 mo M1]) (LR := [wXo G.2.1 (ad 0) (xF ad) (svV sv1) K1, wSh G.2.1 (ad 1) S1, wSh G.2.1 (ad 2) Fc1, wTe G.2.1 (ad 4) C1, wSb G.2.1 (ad 5) ou1, wAd G.2.1 (ad 6) D1, wAb G.2.1 (ad 7) B1, wHo G.2.1 (ad 3) cu1 ct1 hs1, [(fo, .inl (G.2.1 4, 1, .inr (.inl f1)))], [(fd, .inl (G.2.1 5, 1, .inr (.inr (.inr (.inl fD)))))], hsL G.2.1 hs1, blk G.2.1 sv1]) (As := []) (rest := []) (t_X7_thrown F.1 (r := r8) (show f_X7_thrown M1 = some r8 from by rw [f_X7_thrown, e3])).toX m_X7_thrown v_X7_thrown q1614 (ci := 11) (q0 := 40) rfl rfl rfl 13 [10, 0, 1, 2, 3, 4, 5, 6, 7, 8, 9, 11, 12] rfl rfl rfl ⟨by omega, by omega⟩ rfl hl.1 rfl (Nat.le_of_ble_eq_true rfl) dL_law_941 ⟨by omega, by omega⟩ (fun _ _ _ _ _ _ hx => False.elim hx) (fun r9 w1 H locs h9 w => ?_)
  obtain ⟨hb8, h9⟩ := h9
  have w := w.jn (L1 := [wMo G.2.1 mo M1]) (L' := [wXo G.2.1 (ad 0) (xF ad) (svV sv1) K1, wSh G.2.1 (ad 1) S1, wSh G.2.1 (ad 2) Fc1, wTe G.2.1 (ad 4) C1, wSb G.2.1 (ad 5) ou1, wAd G.2.1 (ad 6) D1, wAb G.2.1 (ad 7) B1, wHo G.2.1 (ad 3) cu1 ct1 hs1, [(fo, .inl (G.2.1 4, 1, .inr (.inl f1)))], [(fd, .inl (G.2.1 5, 1, .inr (.inr (.inr (.inl fD)))))], wMo G.2.1 mo M1, hsL G.2.1 hs1, blk G.2.1 sv1]) h9 13 [1, 2, 3, 4, 5, 6, 7, 8, 9, 10, 0, 11, 12] rfl rfl rfl
  rw [hb8]
  have w : Wd G A s.heap (fl [wXo G.2.1 (ad 0) (xF ad) (svV sv1) K1, wSh G.2.1 (ad 1) S1, wSh G.2.1 (ad 2) Fc1, wTe G.2.1 (ad 4) C1, wSb G.2.1 (ad 5) ou1, wAd G.2.1 (ad 6) D1, wAb G.2.1 (ad 7) B1, wHo G.2.1 (ad 3) cu1 ct1 hs1, [(fo, .inl (G.2.1 4, 1, .inr (.inl f1)))], [(fd, .inl (G.2.1 5, 1, .inr (.inr (.inr (.inl fD)))))], wMo G.2.1 mo M1, hsL G.2.1 hs1, blk G.2.1 sv1]) _ _ := w
  refine lv_iload F.x F.b dL_law_944 (lv_at hl 1 rfl) ?_
  refine lv_icmp_eq (tgt := 951) F.x F.b dL_law_946 (by decide) (fun _ => ?_) (fun c9 => absurd rfl c9)
  refine lv_iload F.x F.b dL_law_951 (lv_at hl 1 rfl) ?_
  by_cases hr : r8 = 0
  · refine lv_if_ne (tgt := 968) F.x F.b dL_law_953 (by decide) (fun c9 => absurd hr c9) (fun _ => ?_)
    refine lv_aload_n F.x F.b dL_law_956 rfl (lv_at hl 4 rfl) ?_
    refine lv_iconst (v := 0) F.x F.b dL_law_957 (by decide) ?_
    refine rLl F w 38 rfl (by decide) (v := Int32.toInt64 b1) (by rw [sb_cl0]; exact hf hr) dL_law_958 ?_
    refine lv_iload F.x F.b dL_law_959 (lv_at hl 0 rfl) ?_
    refine lv_i2l (v := (Int32.toInt64 b1)) F.x F.b dL_law_961 rfl ?_
    refine rLc F.x F.b rfl dL_law_962 ?_
    refine lv_if_eq (tgt := 968) F.x F.b dL_law_963 (by decide) (fun _ => ?_) (fun c9 => absurd rfl c9)
    refine lv_goto (tgt := 2836) F.x F.b dL_law_968 (by decide) ?_
    refine W.widen (k := cells + 20) (n := slots + 200) (by omega) (by omega) ?_
    exact kk K1 S1 Fc1 C1 D1 B1 cu1 ct1 hs1 sv1 ou1 M1 f1 fD _ _ _ w e4 (lv_sub hl [2, 3, 4, 5, 6, 7] rfl)
  · refine lv_if_ne (tgt := 968) F.x F.b dL_law_953 (by decide) (fun _ => ?_) (fun c9 => absurd c9 hr)
    refine lv_goto (tgt := 2836) F.x F.b dL_law_968 (by decide) ?_
    refine W.widen (k := cells + 20) (n := slots + 200) (by omega) (by omega) ?_
    exact kk K1 S1 Fc1 C1 D1 B1 cu1 ct1 hs1 sv1 ou1 M1 f1 fD _ _ _ w e4 (lv_sub hl [2, 3, 4, 5, 6, 7] rfl)
set_option maxRecDepth 100000 in
set_option maxHeartbeats 4000000 in
theorem cs_12 {G : cG} {p : Program} {l : Launch} {e : Env} {R : Room} {s : State} {m : MethodId} {args : Array Value} {below : List Frame} {meth : Method} {c : Code} {A : Nat → Prop} {Q : State → Prop} {ad : Nat → Nat → Nat} {fo fd : Nat} {mo : Nat → Nat} {b i L N cells slots : Nat} {xs : Nat → Int32} {ks kv : Nat → Nat} {d1 d2 : Nat} {K S Fc C D B : Mem} {cu ct : Nat} {hs : hS} {sv : sV} {ou : oB} {M : Mem} {f0 : Nat → Int64} {fD : Nat → UInt64} {H : Heap} {locs : List Loc} {ls : Array Slot} (F : Fx G p s m c cL_law 9 RL A) (gM : MG G) (hNC : NcG G) (hSG : SG G ks kv) (pv : PV G) (hD : DGs G d1 d2) (hst : l.stackTraces = false) (hX : va_X b L xs s s.heap) (hbA : ¬ A b) (hbl : b < s.heap.size) (hL : L ≤ 2560) (hi : i + 5 ≤ L) (hR1 : 60 ≤ R.frames) (hR2 : 3000 ≤ R.locals) (hc1 : cells + 20 ≤ R.cells) (hs1 : slots + 200 ≤ R.slots) (hN : N < 2 ^ 29) (h : Top N K S C cu ct hs sv ou M) (w : Wd G A s.heap (fl (wAll G.2.1 ad K S Fc C D B cu ct hs sv ou fo f0 fd fD mo M)) H locs) (hl : lv_has ls 9 [(5, .int (nI i)), (4, .ref fd), (3, .ref fo), (2, .ref (mo 0)), (1, .ref ((ad 0) 0)), (0, .ref b)]) (kk : KKc G p l e R s m args below meth c A Q ad fo fd mo b i N cells slots) : W p l e R s m args below meth c H locs cells slots Q (F0 m 971 ls []) := by
  have w : Wd G A s.heap (fl [wXo G.2.1 (ad 0) (xF ad) (svV sv) K, wSh G.2.1 (ad 1) S, wSh G.2.1 (ad 2) Fc, wTe G.2.1 (ad 4) C, wSb G.2.1 (ad 5) ou, wAd G.2.1 (ad 6) D, wAb G.2.1 (ad 7) B, wHo G.2.1 (ad 3) cu ct hs, [(fo, .inl (G.2.1 4, 1, .inr (.inl f0)))], [(fd, .inl (G.2.1 5, 1, .inr (.inr (.inr (.inl fD)))))], wMo G.2.1 mo M, hsL G.2.1 hs, blk G.2.1 sv]) H locs := w
  refine lv_aload_n F.x F.b dL_law_971 rfl (lv_at hl 4 rfl) ?_
  refine lv_aload_n F.x F.b dL_law_972 rfl (lv_at hl 5 rfl) ?_
  refine lv_iload F.x F.b dL_law_973 (lv_at hl 0 rfl) ?_
  refine lv_iconst (v := 1) F.x F.b dL_law_975 (by decide) ?_
  refine lv_iadd F.x F.b dL_law_976 ?_
  refine rX F w hX hbA hbl (k := i + 1) (nI_add i 1) (by omega) hL dL_law_977 ?_
  refine lv_aload_n F.x F.b dL_law_978 rfl (lv_at hl 2 rfl) ?_
  refine kLi F w hst (LC := [wXo G.2.1 (ad 0) (xF ad) (svV sv) K, wSh G.2.1 (ad 1) S, wSh G.2.1 (ad 2) Fc, wTe G.2.1 (ad 4) C, wSb G.2.1 (ad 5) ou, wAd G.2.1 (ad 6) D, wAb G.2.1 (ad 7) B, wHo G.2.1 (ad 3) cu ct hs, [(fo, .inl (G.2.1 4, 1, .inr (.inl f0)))], hsL G.2.1 hs, blk G.2.1 sv]) (LR := [[(fd, .inl (G.2.1 5, 1, .inr (.inr (.inr (.inl fD)))))], wMo G.2.1 mo M]) (As := [.ref ((ad 0) 0), .int (xs (i + 1)), .ref fo]) (rest := []) (l_isSealed F.1 gM hNC h) mh_isSealed vh_isSealed (List.mem_of_getElem? (i := 1086) (by decide +kernel)) 13 [0, 1, 2, 3, 4, 5, 6, 7, 8, 11, 12, 9, 10] rfl rfl rfl ⟨by omega, by omega⟩ rfl hl.1 rfl (Nat.le_of_ble_eq_true rfl) dL_law_979 ⟨by omega, by omega⟩ (fun r8 w1 H locs h9 w => ?_)
  obtain ⟨K1, S1, Fc1, C1, D1, B1, cu1, ct1, hs1, sv1, ou1, M1, b1, f1, h9, e2, e3, e4, hf⟩ := h9
  have w := w.jn (L1 := [wXo G.2.1 (ad 0) (xF ad) (svV sv1) K1, wSh G.2.1 (ad 1) S1, wSh G.2.1 (ad 2) Fc1, wTe G.2.1 (ad 4) C1, wSb G.2.1 (ad 5) ou1, wAd G.2.1 (ad 6) D1, wAb G.2.1 (ad 7) B1, wHo G.2.1 (ad 3) cu1 ct1 hs1, [(fo, .inl (G.2.1 4, 1, .inr (.inl f1)))], hsL G.2.1 hs1, blk G.2.1 sv1]) (L' := [wXo G.2.1 (ad 0) (xF ad) (svV sv1) K1, wSh G.2.1 (ad 1) S1, wSh G.2.1 (ad 2) Fc1, wTe G.2.1 (ad 4) C1, wSb G.2.1 (ad 5) ou1, wAd G.2.1 (ad 6) D1, wAb G.2.1 (ad 7) B1, wHo G.2.1 (ad 3) cu1 ct1 hs1, [(fo, .inl (G.2.1 4, 1, .inr (.inl f1)))], [(fd, .inl (G.2.1 5, 1, .inr (.inr (.inr (.inl fD)))))], wMo G.2.1 mo M, hsL G.2.1 hs1, blk G.2.1 sv1]) h9 13 [0, 1, 2, 3, 4, 5, 6, 7, 8, 11, 12, 9, 10] rfl rfl rfl
  have w : Wd G A s.heap (fl [wXo G.2.1 (ad 0) (xF ad) (svV sv1) K1, wSh G.2.1 (ad 1) S1, wSh G.2.1 (ad 2) Fc1, wTe G.2.1 (ad 4) C1, wSb G.2.1 (ad 5) ou1, wAd G.2.1 (ad 6) D1, wAb G.2.1 (ad 7) B1, wHo G.2.1 (ad 3) cu1 ct1 hs1, [(fo, .inl (G.2.1 4, 1, .inr (.inl f1)))], [(fd, .inl (G.2.1 5, 1, .inr (.inr (.inr (.inl fD)))))], wMo G.2.1 mo M, hsL G.2.1 hs1, blk G.2.1 sv1]) _ _ := w
  refine lv_istore (lv' := [(6, .int r8), (5, .int (nI i)), (4, .ref fd), (3, .ref fo), (2, .ref (mo 0)), (1, .ref ((ad 0) 0)), (0, .ref b)]) F.x F.b dL_law_982 hl (by decide) rfl (fun ls hl => ?_)
  refine lv_aload_n F.x F.b dL_law_984 rfl (lv_at hl 4 rfl) ?_
  refine lv_aload_n F.x F.b dL_law_985 rfl (lv_at hl 6 rfl) ?_
  refine lv_iload F.x F.b dL_law_986 (lv_at hl 1 rfl) ?_
  refine lv_iconst (v := 1) F.x F.b dL_law_988 (by decide) ?_
  refine lv_iadd F.x F.b dL_law_989 ?_
  refine rX F w hX hbA hbl (k := i + 1) (nI_add i 1) (by omega) hL dL_law_990 ?_
  refine kXi F w hst (LC := [wMo G.2.1 mo M]) (LR := [wXo G.2.1 (ad 0) (xF ad) (svV sv1) K1, wSh G.2.1 (ad 1) S1, wSh G.2.1 (ad 2) Fc1, wTe G.2.1 (ad 4) C1, wSb G.2.1 (ad 5) ou1, wAd G.2.1 (ad 6) D1, wAb G.2.1 (ad 7) B1, wHo G.2.1 (ad 3) cu1 ct1 hs1, [(fo, .inl (G.2.1 4, 1, .inr (.inl f1)))], [(fd, .inl (G.2.1 5, 1, .inr (.inr (.inr (.inl fD)))))], hsL G.2.1 hs1, blk G.2.1 sv1]) (As := [.int (xs (i + 1))]) (rest := []) (t_X7_isSealed F.1 e2).toX m_X7_isSealed v_X7_isSealed q1739 (ci := 11) (q0 := 40) rfl rfl rfl 13 [10, 0, 1, 2, 3, 4, 5, 6, 7, 8, 9, 11, 12] rfl rfl rfl ⟨by omega, by omega⟩ rfl hl.1 rfl (Nat.le_of_ble_eq_true rfl) dL_law_991 ⟨by omega, by omega⟩ (fun _ _ _ _ _ _ hx => False.elim hx) (fun r9 w1 H locs h9 w => ?_)
  obtain ⟨hb9, h9⟩ := h9
  have w := w.jn (L1 := [wMo G.2.1 mo M1]) (L' := [wXo G.2.1 (ad 0) (xF ad) (svV sv1) K1, wSh G.2.1 (ad 1) S1, wSh G.2.1 (ad 2) Fc1, wTe G.2.1 (ad 4) C1, wSb G.2.1 (ad 5) ou1, wAd G.2.1 (ad 6) D1, wAb G.2.1 (ad 7) B1, wHo G.2.1 (ad 3) cu1 ct1 hs1, [(fo, .inl (G.2.1 4, 1, .inr (.inl f1)))], [(fd, .inl (G.2.1 5, 1, .inr (.inr (.inr (.inl fD)))))], wMo G.2.1 mo M1, hsL G.2.1 hs1, blk G.2.1 sv1]) h9 13 [1, 2, 3, 4, 5, 6, 7, 8, 9, 10, 0, 11, 12] rfl rfl rfl
  rw [hb9]
  have w : Wd G A s.heap (fl [wXo G.2.1 (ad 0) (xF ad) (svV sv1) K1, wSh G.2.1 (ad 1) S1, wSh G.2.1 (ad 2) Fc1, wTe G.2.1 (ad 4) C1, wSb G.2.1 (ad 5) ou1, wAd G.2.1 (ad 6) D1, wAb G.2.1 (ad 7) B1, wHo G.2.1 (ad 3) cu1 ct1 hs1, [(fo, .inl (G.2.1 4, 1, .inr (.inl f1)))], [(fd, .inl (G.2.1 5, 1, .inr (.inr (.inr (.inl fD)))))], wMo G.2.1 mo M1, hsL G.2.1 hs1, blk G.2.1 sv1]) _ _ := w
  refine lv_istore (lv' := [(7, .int b1), (6, .int r8), (5, .int (nI i)), (4, .ref fd), (3, .ref fo), (2, .ref (mo 0)), (1, .ref ((ad 0) 0)), (0, .ref b)]) F.x F.b dL_law_994 hl (by decide) rfl (fun ls hl => ?_)
  refine lv_aload_n F.x F.b dL_law_996 rfl (lv_at hl 5 rfl) ?_
  refine kXi F w hst (LC := [wMo G.2.1 mo M1]) (LR := [wXo G.2.1 (ad 0) (xF ad) (svV sv1) K1, wSh G.2.1 (ad 1) S1, wSh G.2.1 (ad 2) Fc1, wTe G.2.1 (ad 4) C1, wSb G.2.1 (ad 5) ou1, wAd G.2.1 (ad 6) D1, wAb G.2.1 (ad 7) B1, wHo G.2.1 (ad 3) cu1 ct1 hs1, [(fo, .inl (G.2.1 4, 1, .inr (.inl f1)))], [(fd, .inl (G.2.1 5, 1, .inr (.inr (.inr (.inl fD)))))], hsL G.2.1 hs1, blk G.2.1 sv1]) (As := []) (rest := []) (t_X7_thrown F.1 (r := r8) (show f_X7_thrown M1 = some r8 from by rw [f_X7_thrown, e3])).toX m_X7_thrown v_X7_thrown q1614 (ci := 11) (q0 := 40) rfl rfl rfl 13 [10, 0, 1, 2, 3, 4, 5, 6, 7, 8, 9, 11, 12] rfl rfl rfl ⟨by omega, by omega⟩ rfl hl.1 rfl (Nat.le_of_ble_eq_true rfl) dL_law_997 ⟨by omega, by omega⟩ (fun _ _ _ _ _ _ hx => False.elim hx) (fun r9 w1 H locs h9 w => ?_)
  obtain ⟨hb8, h9⟩ := h9
  have w := w.jn (L1 := [wMo G.2.1 mo M1]) (L' := [wXo G.2.1 (ad 0) (xF ad) (svV sv1) K1, wSh G.2.1 (ad 1) S1, wSh G.2.1 (ad 2) Fc1, wTe G.2.1 (ad 4) C1, wSb G.2.1 (ad 5) ou1, wAd G.2.1 (ad 6) D1, wAb G.2.1 (ad 7) B1, wHo G.2.1 (ad 3) cu1 ct1 hs1, [(fo, .inl (G.2.1 4, 1, .inr (.inl f1)))], [(fd, .inl (G.2.1 5, 1, .inr (.inr (.inr (.inl fD)))))], wMo G.2.1 mo M1, hsL G.2.1 hs1, blk G.2.1 sv1]) h9 13 [1, 2, 3, 4, 5, 6, 7, 8, 9, 10, 0, 11, 12] rfl rfl rfl
  rw [hb8]
  have w : Wd G A s.heap (fl [wXo G.2.1 (ad 0) (xF ad) (svV sv1) K1, wSh G.2.1 (ad 1) S1, wSh G.2.1 (ad 2) Fc1, wTe G.2.1 (ad 4) C1, wSb G.2.1 (ad 5) ou1, wAd G.2.1 (ad 6) D1, wAb G.2.1 (ad 7) B1, wHo G.2.1 (ad 3) cu1 ct1 hs1, [(fo, .inl (G.2.1 4, 1, .inr (.inl f1)))], [(fd, .inl (G.2.1 5, 1, .inr (.inr (.inr (.inl fD)))))], wMo G.2.1 mo M1, hsL G.2.1 hs1, blk G.2.1 sv1]) _ _ := w
  refine lv_iload F.x F.b dL_law_1000 (lv_at hl 1 rfl) ?_
  refine lv_icmp_eq (tgt := 1007) F.x F.b dL_law_1002 (by decide) (fun _ => ?_) (fun c9 => absurd rfl c9)
  refine lv_iload F.x F.b dL_law_1007 (lv_at hl 1 rfl) ?_
  by_cases hr : r8 = 0
  · refine lv_if_ne (tgt := 1031) F.x F.b dL_law_1009 (by decide) (fun c9 => absurd hr c9) (fun _ => ?_)
    refine lv_aload_n F.x F.b dL_law_1012 rfl (lv_at hl 4 rfl) ?_
    refine lv_iconst (v := 0) F.x F.b dL_law_1013 (by decide) ?_
    refine rLl F w 38 rfl (by decide) (v := Int32.toInt64 b1) (by rw [sb_cl0]; exact hf hr) dL_law_1014 ?_
    refine lv_iload F.x F.b dL_law_1015 (lv_at hl 0 rfl) ?_
    rcases flag_isSealed e2 with rfl | rfl
    · refine lv_if_eq (tgt := 1024) F.x F.b dL_law_1017 (by decide) (fun _ => ?_) (fun c9 => absurd rfl c9)
      refine lv_lconst (v := 0) F.x F.b dL_law_1024 (by decide) ?_
      refine rLc F.x F.b (by decide) dL_law_1025 ?_
      refine lv_if_eq (tgt := 1031) F.x F.b dL_law_1026 (by decide) (fun _ => ?_) (fun c9 => absurd rfl c9)
      refine lv_goto (tgt := 2836) F.x F.b dL_law_1031 (by decide) ?_
      refine W.widen (k := cells + 20) (n := slots + 200) (by omega) (by omega) ?_
      exact kk K1 S1 Fc1 C1 D1 B1 cu1 ct1 hs1 sv1 ou1 M1 f1 fD _ _ _ w e4 (lv_sub hl [2, 3, 4, 5, 6, 7] rfl)
    · refine lv_if_eq (tgt := 1024) F.x F.b dL_law_1017 (by decide) (fun c9 => absurd c9 (by decide)) (fun _ => ?_)
      refine lv_lconst (v := 1) F.x F.b dL_law_1020 (by decide) ?_
      refine lv_goto (tgt := 1025) F.x F.b dL_law_1021 (by decide) ?_
      refine rLc F.x F.b (by decide) dL_law_1025 ?_
      refine lv_if_eq (tgt := 1031) F.x F.b dL_law_1026 (by decide) (fun _ => ?_) (fun c9 => absurd rfl c9)
      refine lv_goto (tgt := 2836) F.x F.b dL_law_1031 (by decide) ?_
      refine W.widen (k := cells + 20) (n := slots + 200) (by omega) (by omega) ?_
      exact kk K1 S1 Fc1 C1 D1 B1 cu1 ct1 hs1 sv1 ou1 M1 f1 fD _ _ _ w e4 (lv_sub hl [2, 3, 4, 5, 6, 7] rfl)
  · refine lv_if_ne (tgt := 1031) F.x F.b dL_law_1009 (by decide) (fun _ => ?_) (fun c9 => absurd c9 hr)
    refine lv_goto (tgt := 2836) F.x F.b dL_law_1031 (by decide) ?_
    refine W.widen (k := cells + 20) (n := slots + 200) (by omega) (by omega) ?_
    exact kk K1 S1 Fc1 C1 D1 B1 cu1 ct1 hs1 sv1 ou1 M1 f1 fD _ _ _ w e4 (lv_sub hl [2, 3, 4, 5, 6, 7] rfl)
set_option maxRecDepth 100000 in
set_option maxHeartbeats 4000000 in
theorem cs_13 {G : cG} {p : Program} {l : Launch} {e : Env} {R : Room} {s : State} {m : MethodId} {args : Array Value} {below : List Frame} {meth : Method} {c : Code} {A : Nat → Prop} {Q : State → Prop} {ad : Nat → Nat → Nat} {fo fd : Nat} {mo : Nat → Nat} {b i L N cells slots : Nat} {xs : Nat → Int32} {ks kv : Nat → Nat} {d1 d2 : Nat} {K S Fc C D B : Mem} {cu ct : Nat} {hs : hS} {sv : sV} {ou : oB} {M : Mem} {f0 : Nat → Int64} {fD : Nat → UInt64} {H : Heap} {locs : List Loc} {ls : Array Slot} (F : Fx G p s m c cL_law 9 RL A) (gM : MG G) (hNC : NcG G) (hSG : SG G ks kv) (pv : PV G) (hD : DGs G d1 d2) (hst : l.stackTraces = false) (hX : va_X b L xs s s.heap) (hbA : ¬ A b) (hbl : b < s.heap.size) (hL : L ≤ 2560) (hi : i + 5 ≤ L) (hR1 : 60 ≤ R.frames) (hR2 : 3000 ≤ R.locals) (hc1 : cells + 20 ≤ R.cells) (hs1 : slots + 200 ≤ R.slots) (hN : N < 2 ^ 29) (h : Top N K S C cu ct hs sv ou M) (w : Wd G A s.heap (fl (wAll G.2.1 ad K S Fc C D B cu ct hs sv ou fo f0 fd fD mo M)) H locs) (hl : lv_has ls 9 [(5, .int (nI i)), (4, .ref fd), (3, .ref fo), (2, .ref (mo 0)), (1, .ref ((ad 0) 0)), (0, .ref b)]) (kk : KKc G p l e R s m args below meth c A Q ad fo fd mo b i N cells slots) : W p l e R s m args below meth c H locs cells slots Q (F0 m 1034 ls []) := by
  have w : Wd G A s.heap (fl [wXo G.2.1 (ad 0) (xF ad) (svV sv) K, wSh G.2.1 (ad 1) S, wSh G.2.1 (ad 2) Fc, wTe G.2.1 (ad 4) C, wSb G.2.1 (ad 5) ou, wAd G.2.1 (ad 6) D, wAb G.2.1 (ad 7) B, wHo G.2.1 (ad 3) cu ct hs, [(fo, .inl (G.2.1 4, 1, .inr (.inl f0)))], [(fd, .inl (G.2.1 5, 1, .inr (.inr (.inr (.inl fD)))))], wMo G.2.1 mo M, hsL G.2.1 hs, blk G.2.1 sv]) H locs := w
  refine lv_aload_n F.x F.b dL_law_1034 rfl (lv_at hl 4 rfl) ?_
  refine lv_aload_n F.x F.b dL_law_1035 rfl (lv_at hl 5 rfl) ?_
  refine lv_iload F.x F.b dL_law_1036 (lv_at hl 0 rfl) ?_
  refine lv_iconst (v := 1) F.x F.b dL_law_1038 (by decide) ?_
  refine lv_iadd F.x F.b dL_law_1039 ?_
  refine rX F w hX hbA hbl (k := i + 1) (nI_add i 1) (by omega) hL dL_law_1040 ?_
  refine lv_aload_n F.x F.b dL_law_1041 rfl (lv_at hl 2 rfl) ?_
  refine kLi F w hst (LC := [wXo G.2.1 (ad 0) (xF ad) (svV sv) K, wSh G.2.1 (ad 1) S, wSh G.2.1 (ad 2) Fc, wTe G.2.1 (ad 4) C, wSb G.2.1 (ad 5) ou, wAd G.2.1 (ad 6) D, wAb G.2.1 (ad 7) B, wHo G.2.1 (ad 3) cu ct hs, [(fo, .inl (G.2.1 4, 1, .inr (.inl f0)))], hsL G.2.1 hs, blk G.2.1 sv]) (LR := [[(fd, .inl (G.2.1 5, 1, .inr (.inr (.inr (.inl fD)))))], wMo G.2.1 mo M]) (As := [.ref ((ad 0) 0), .int (xs (i + 1)), .ref fo]) (rest := []) (l_isDamp F.1 gM hNC h) mh_isDamp vh_isDamp (List.mem_of_getElem? (i := 1093) (by decide +kernel)) 13 [0, 1, 2, 3, 4, 5, 6, 7, 8, 11, 12, 9, 10] rfl rfl rfl ⟨by omega, by omega⟩ rfl hl.1 rfl (Nat.le_of_ble_eq_true rfl) dL_law_1042 ⟨by omega, by omega⟩ (fun r8 w1 H locs h9 w => ?_)
  obtain ⟨K1, S1, Fc1, C1, D1, B1, cu1, ct1, hs1, sv1, ou1, M1, b1, f1, h9, e2, e3, e4, hf⟩ := h9
  have w := w.jn (L1 := [wXo G.2.1 (ad 0) (xF ad) (svV sv1) K1, wSh G.2.1 (ad 1) S1, wSh G.2.1 (ad 2) Fc1, wTe G.2.1 (ad 4) C1, wSb G.2.1 (ad 5) ou1, wAd G.2.1 (ad 6) D1, wAb G.2.1 (ad 7) B1, wHo G.2.1 (ad 3) cu1 ct1 hs1, [(fo, .inl (G.2.1 4, 1, .inr (.inl f1)))], hsL G.2.1 hs1, blk G.2.1 sv1]) (L' := [wXo G.2.1 (ad 0) (xF ad) (svV sv1) K1, wSh G.2.1 (ad 1) S1, wSh G.2.1 (ad 2) Fc1, wTe G.2.1 (ad 4) C1, wSb G.2.1 (ad 5) ou1, wAd G.2.1 (ad 6) D1, wAb G.2.1 (ad 7) B1, wHo G.2.1 (ad 3) cu1 ct1 hs1, [(fo, .inl (G.2.1 4, 1, .inr (.inl f1)))], [(fd, .inl (G.2.1 5, 1, .inr (.inr (.inr (.inl fD)))))], wMo G.2.1 mo M, hsL G.2.1 hs1, blk G.2.1 sv1]) h9 13 [0, 1, 2, 3, 4, 5, 6, 7, 8, 11, 12, 9, 10] rfl rfl rfl
  have w : Wd G A s.heap (fl [wXo G.2.1 (ad 0) (xF ad) (svV sv1) K1, wSh G.2.1 (ad 1) S1, wSh G.2.1 (ad 2) Fc1, wTe G.2.1 (ad 4) C1, wSb G.2.1 (ad 5) ou1, wAd G.2.1 (ad 6) D1, wAb G.2.1 (ad 7) B1, wHo G.2.1 (ad 3) cu1 ct1 hs1, [(fo, .inl (G.2.1 4, 1, .inr (.inl f1)))], [(fd, .inl (G.2.1 5, 1, .inr (.inr (.inr (.inl fD)))))], wMo G.2.1 mo M, hsL G.2.1 hs1, blk G.2.1 sv1]) _ _ := w
  refine lv_istore (lv' := [(6, .int r8), (5, .int (nI i)), (4, .ref fd), (3, .ref fo), (2, .ref (mo 0)), (1, .ref ((ad 0) 0)), (0, .ref b)]) F.x F.b dL_law_1045 hl (by decide) rfl (fun ls hl => ?_)
  refine lv_aload_n F.x F.b dL_law_1047 rfl (lv_at hl 4 rfl) ?_
  refine lv_aload_n F.x F.b dL_law_1048 rfl (lv_at hl 6 rfl) ?_
  refine lv_iload F.x F.b dL_law_1049 (lv_at hl 1 rfl) ?_
  refine lv_iconst (v := 1) F.x F.b dL_law_1051 (by decide) ?_
  refine lv_iadd F.x F.b dL_law_1052 ?_
  refine rX F w hX hbA hbl (k := i + 1) (nI_add i 1) (by omega) hL dL_law_1053 ?_
  refine kXi F w hst (LC := [wMo G.2.1 mo M]) (LR := [wXo G.2.1 (ad 0) (xF ad) (svV sv1) K1, wSh G.2.1 (ad 1) S1, wSh G.2.1 (ad 2) Fc1, wTe G.2.1 (ad 4) C1, wSb G.2.1 (ad 5) ou1, wAd G.2.1 (ad 6) D1, wAb G.2.1 (ad 7) B1, wHo G.2.1 (ad 3) cu1 ct1 hs1, [(fo, .inl (G.2.1 4, 1, .inr (.inl f1)))], [(fd, .inl (G.2.1 5, 1, .inr (.inr (.inr (.inl fD)))))], hsL G.2.1 hs1, blk G.2.1 sv1]) (As := [.int (xs (i + 1))]) (rest := []) (t_X7_isDamp F.1 e2).toX m_X7_isDamp v_X7_isDamp q1743 (ci := 11) (q0 := 40) rfl rfl rfl 13 [10, 0, 1, 2, 3, 4, 5, 6, 7, 8, 9, 11, 12] rfl rfl rfl ⟨by omega, by omega⟩ rfl hl.1 rfl (Nat.le_of_ble_eq_true rfl) dL_law_1054 ⟨by omega, by omega⟩ (fun _ _ _ _ _ _ hx => False.elim hx) (fun r9 w1 H locs h9 w => ?_)
  obtain ⟨hb9, h9⟩ := h9
  have w := w.jn (L1 := [wMo G.2.1 mo M1]) (L' := [wXo G.2.1 (ad 0) (xF ad) (svV sv1) K1, wSh G.2.1 (ad 1) S1, wSh G.2.1 (ad 2) Fc1, wTe G.2.1 (ad 4) C1, wSb G.2.1 (ad 5) ou1, wAd G.2.1 (ad 6) D1, wAb G.2.1 (ad 7) B1, wHo G.2.1 (ad 3) cu1 ct1 hs1, [(fo, .inl (G.2.1 4, 1, .inr (.inl f1)))], [(fd, .inl (G.2.1 5, 1, .inr (.inr (.inr (.inl fD)))))], wMo G.2.1 mo M1, hsL G.2.1 hs1, blk G.2.1 sv1]) h9 13 [1, 2, 3, 4, 5, 6, 7, 8, 9, 10, 0, 11, 12] rfl rfl rfl
  rw [hb9]
  have w : Wd G A s.heap (fl [wXo G.2.1 (ad 0) (xF ad) (svV sv1) K1, wSh G.2.1 (ad 1) S1, wSh G.2.1 (ad 2) Fc1, wTe G.2.1 (ad 4) C1, wSb G.2.1 (ad 5) ou1, wAd G.2.1 (ad 6) D1, wAb G.2.1 (ad 7) B1, wHo G.2.1 (ad 3) cu1 ct1 hs1, [(fo, .inl (G.2.1 4, 1, .inr (.inl f1)))], [(fd, .inl (G.2.1 5, 1, .inr (.inr (.inr (.inl fD)))))], wMo G.2.1 mo M1, hsL G.2.1 hs1, blk G.2.1 sv1]) _ _ := w
  refine lv_istore (lv' := [(7, .int b1), (6, .int r8), (5, .int (nI i)), (4, .ref fd), (3, .ref fo), (2, .ref (mo 0)), (1, .ref ((ad 0) 0)), (0, .ref b)]) F.x F.b dL_law_1057 hl (by decide) rfl (fun ls hl => ?_)
  refine lv_aload_n F.x F.b dL_law_1059 rfl (lv_at hl 5 rfl) ?_
  refine kXi F w hst (LC := [wMo G.2.1 mo M1]) (LR := [wXo G.2.1 (ad 0) (xF ad) (svV sv1) K1, wSh G.2.1 (ad 1) S1, wSh G.2.1 (ad 2) Fc1, wTe G.2.1 (ad 4) C1, wSb G.2.1 (ad 5) ou1, wAd G.2.1 (ad 6) D1, wAb G.2.1 (ad 7) B1, wHo G.2.1 (ad 3) cu1 ct1 hs1, [(fo, .inl (G.2.1 4, 1, .inr (.inl f1)))], [(fd, .inl (G.2.1 5, 1, .inr (.inr (.inr (.inl fD)))))], hsL G.2.1 hs1, blk G.2.1 sv1]) (As := []) (rest := []) (t_X7_thrown F.1 (r := r8) (show f_X7_thrown M1 = some r8 from by rw [f_X7_thrown, e3])).toX m_X7_thrown v_X7_thrown q1614 (ci := 11) (q0 := 40) rfl rfl rfl 13 [10, 0, 1, 2, 3, 4, 5, 6, 7, 8, 9, 11, 12] rfl rfl rfl ⟨by omega, by omega⟩ rfl hl.1 rfl (Nat.le_of_ble_eq_true rfl) dL_law_1060 ⟨by omega, by omega⟩ (fun _ _ _ _ _ _ hx => False.elim hx) (fun r9 w1 H locs h9 w => ?_)
  obtain ⟨hb8, h9⟩ := h9
  have w := w.jn (L1 := [wMo G.2.1 mo M1]) (L' := [wXo G.2.1 (ad 0) (xF ad) (svV sv1) K1, wSh G.2.1 (ad 1) S1, wSh G.2.1 (ad 2) Fc1, wTe G.2.1 (ad 4) C1, wSb G.2.1 (ad 5) ou1, wAd G.2.1 (ad 6) D1, wAb G.2.1 (ad 7) B1, wHo G.2.1 (ad 3) cu1 ct1 hs1, [(fo, .inl (G.2.1 4, 1, .inr (.inl f1)))], [(fd, .inl (G.2.1 5, 1, .inr (.inr (.inr (.inl fD)))))], wMo G.2.1 mo M1, hsL G.2.1 hs1, blk G.2.1 sv1]) h9 13 [1, 2, 3, 4, 5, 6, 7, 8, 9, 10, 0, 11, 12] rfl rfl rfl
  rw [hb8]
  have w : Wd G A s.heap (fl [wXo G.2.1 (ad 0) (xF ad) (svV sv1) K1, wSh G.2.1 (ad 1) S1, wSh G.2.1 (ad 2) Fc1, wTe G.2.1 (ad 4) C1, wSb G.2.1 (ad 5) ou1, wAd G.2.1 (ad 6) D1, wAb G.2.1 (ad 7) B1, wHo G.2.1 (ad 3) cu1 ct1 hs1, [(fo, .inl (G.2.1 4, 1, .inr (.inl f1)))], [(fd, .inl (G.2.1 5, 1, .inr (.inr (.inr (.inl fD)))))], wMo G.2.1 mo M1, hsL G.2.1 hs1, blk G.2.1 sv1]) _ _ := w
  refine lv_iload F.x F.b dL_law_1063 (lv_at hl 1 rfl) ?_
  refine lv_icmp_eq (tgt := 1070) F.x F.b dL_law_1065 (by decide) (fun _ => ?_) (fun c9 => absurd rfl c9)
  refine lv_iload F.x F.b dL_law_1070 (lv_at hl 1 rfl) ?_
  by_cases hr : r8 = 0
  · refine lv_if_ne (tgt := 1094) F.x F.b dL_law_1072 (by decide) (fun c9 => absurd hr c9) (fun _ => ?_)
    refine lv_aload_n F.x F.b dL_law_1075 rfl (lv_at hl 4 rfl) ?_
    refine lv_iconst (v := 0) F.x F.b dL_law_1076 (by decide) ?_
    refine rLl F w 38 rfl (by decide) (v := Int32.toInt64 b1) (by rw [sb_cl0]; exact hf hr) dL_law_1077 ?_
    refine lv_iload F.x F.b dL_law_1078 (lv_at hl 0 rfl) ?_
    rcases flag_isDamp e2 with rfl | rfl
    · refine lv_if_eq (tgt := 1087) F.x F.b dL_law_1080 (by decide) (fun _ => ?_) (fun c9 => absurd rfl c9)
      refine lv_lconst (v := 0) F.x F.b dL_law_1087 (by decide) ?_
      refine rLc F.x F.b (by decide) dL_law_1088 ?_
      refine lv_if_eq (tgt := 1094) F.x F.b dL_law_1089 (by decide) (fun _ => ?_) (fun c9 => absurd rfl c9)
      refine lv_goto (tgt := 2836) F.x F.b dL_law_1094 (by decide) ?_
      refine W.widen (k := cells + 20) (n := slots + 200) (by omega) (by omega) ?_
      exact kk K1 S1 Fc1 C1 D1 B1 cu1 ct1 hs1 sv1 ou1 M1 f1 fD _ _ _ w e4 (lv_sub hl [2, 3, 4, 5, 6, 7] rfl)
    · refine lv_if_eq (tgt := 1087) F.x F.b dL_law_1080 (by decide) (fun c9 => absurd c9 (by decide)) (fun _ => ?_)
      refine lv_lconst (v := 1) F.x F.b dL_law_1083 (by decide) ?_
      refine lv_goto (tgt := 1088) F.x F.b dL_law_1084 (by decide) ?_
      refine rLc F.x F.b (by decide) dL_law_1088 ?_
      refine lv_if_eq (tgt := 1094) F.x F.b dL_law_1089 (by decide) (fun _ => ?_) (fun c9 => absurd rfl c9)
      refine lv_goto (tgt := 2836) F.x F.b dL_law_1094 (by decide) ?_
      refine W.widen (k := cells + 20) (n := slots + 200) (by omega) (by omega) ?_
      exact kk K1 S1 Fc1 C1 D1 B1 cu1 ct1 hs1 sv1 ou1 M1 f1 fD _ _ _ w e4 (lv_sub hl [2, 3, 4, 5, 6, 7] rfl)
  · refine lv_if_ne (tgt := 1094) F.x F.b dL_law_1072 (by decide) (fun _ => ?_) (fun c9 => absurd c9 hr)
    refine lv_goto (tgt := 2836) F.x F.b dL_law_1094 (by decide) ?_
    refine W.widen (k := cells + 20) (n := slots + 200) (by omega) (by omega) ?_
    exact kk K1 S1 Fc1 C1 D1 B1 cu1 ct1 hs1 sv1 ou1 M1 f1 fD _ _ _ w e4 (lv_sub hl [2, 3, 4, 5, 6, 7] rfl)
set_option maxRecDepth 100000 in
set_option maxHeartbeats 4000000 in
theorem cs_14 {G : cG} {p : Program} {l : Launch} {e : Env} {R : Room} {s : State} {m : MethodId} {args : Array Value} {below : List Frame} {meth : Method} {c : Code} {A : Nat → Prop} {Q : State → Prop} {ad : Nat → Nat → Nat} {fo fd : Nat} {mo : Nat → Nat} {b i L N cells slots : Nat} {xs : Nat → Int32} {ks kv : Nat → Nat} {d1 d2 : Nat} {K S Fc C D B : Mem} {cu ct : Nat} {hs : hS} {sv : sV} {ou : oB} {M : Mem} {f0 : Nat → Int64} {fD : Nat → UInt64} {H : Heap} {locs : List Loc} {ls : Array Slot} (F : Fx G p s m c cL_law 9 RL A) (gM : MG G) (hNC : NcG G) (hSG : SG G ks kv) (pv : PV G) (hD : DGs G d1 d2) (hst : l.stackTraces = false) (hX : va_X b L xs s s.heap) (hbA : ¬ A b) (hbl : b < s.heap.size) (hL : L ≤ 2560) (hi : i + 5 ≤ L) (hR1 : 60 ≤ R.frames) (hR2 : 3000 ≤ R.locals) (hc1 : cells + 20 ≤ R.cells) (hs1 : slots + 200 ≤ R.slots) (hN : N < 2 ^ 29) (h : Top N K S C cu ct hs sv ou M) (w : Wd G A s.heap (fl (wAll G.2.1 ad K S Fc C D B cu ct hs sv ou fo f0 fd fD mo M)) H locs) (hl : lv_has ls 9 [(5, .int (nI i)), (4, .ref fd), (3, .ref fo), (2, .ref (mo 0)), (1, .ref ((ad 0) 0)), (0, .ref b)]) (kk : KKc G p l e R s m args below meth c A Q ad fo fd mo b i N cells slots) : W p l e R s m args below meth c H locs cells slots Q (F0 m 1097 ls []) := by
  have w : Wd G A s.heap (fl [wXo G.2.1 (ad 0) (xF ad) (svV sv) K, wSh G.2.1 (ad 1) S, wSh G.2.1 (ad 2) Fc, wTe G.2.1 (ad 4) C, wSb G.2.1 (ad 5) ou, wAd G.2.1 (ad 6) D, wAb G.2.1 (ad 7) B, wHo G.2.1 (ad 3) cu ct hs, [(fo, .inl (G.2.1 4, 1, .inr (.inl f0)))], [(fd, .inl (G.2.1 5, 1, .inr (.inr (.inr (.inl fD)))))], wMo G.2.1 mo M, hsL G.2.1 hs, blk G.2.1 sv]) H locs := w
  refine lv_aload_n F.x F.b dL_law_1097 rfl (lv_at hl 4 rfl) ?_
  refine lv_aload_n F.x F.b dL_law_1098 rfl (lv_at hl 5 rfl) ?_
  refine lv_iload F.x F.b dL_law_1099 (lv_at hl 0 rfl) ?_
  refine lv_iconst (v := 1) F.x F.b dL_law_1101 (by decide) ?_
  refine lv_iadd F.x F.b dL_law_1102 ?_
  refine rX F w hX hbA hbl (k := i + 1) (nI_add i 1) (by omega) hL dL_law_1103 ?_
  refine lv_aload_n F.x F.b dL_law_1104 rfl (lv_at hl 2 rfl) ?_
  refine kLi F w hst (LC := [wXo G.2.1 (ad 0) (xF ad) (svV sv) K, wSh G.2.1 (ad 1) S, wSh G.2.1 (ad 2) Fc, wTe G.2.1 (ad 4) C, wSb G.2.1 (ad 5) ou, wAd G.2.1 (ad 6) D, wAb G.2.1 (ad 7) B, wHo G.2.1 (ad 3) cu ct hs, [(fo, .inl (G.2.1 4, 1, .inr (.inl f0)))], hsL G.2.1 hs, blk G.2.1 sv]) (LR := [[(fd, .inl (G.2.1 5, 1, .inr (.inr (.inr (.inl fD)))))], wMo G.2.1 mo M]) (As := [.ref ((ad 0) 0), .int (xs (i + 1)), .ref fo]) (rest := []) (l_lotAt F.1 gM hNC h) mh_lotAt vh_lotAt (List.mem_of_getElem? (i := 1100) (by decide +kernel)) 13 [0, 1, 2, 3, 4, 5, 6, 7, 8, 11, 12, 9, 10] rfl rfl rfl ⟨by omega, by omega⟩ rfl hl.1 rfl (Nat.le_of_ble_eq_true rfl) dL_law_1105 ⟨by omega, by omega⟩ (fun r8 w1 H locs h9 w => ?_)
  obtain ⟨K1, S1, Fc1, C1, D1, B1, cu1, ct1, hs1, sv1, ou1, M1, b1, f1, h9, e2, e3, e4, hf⟩ := h9
  have w := w.jn (L1 := [wXo G.2.1 (ad 0) (xF ad) (svV sv1) K1, wSh G.2.1 (ad 1) S1, wSh G.2.1 (ad 2) Fc1, wTe G.2.1 (ad 4) C1, wSb G.2.1 (ad 5) ou1, wAd G.2.1 (ad 6) D1, wAb G.2.1 (ad 7) B1, wHo G.2.1 (ad 3) cu1 ct1 hs1, [(fo, .inl (G.2.1 4, 1, .inr (.inl f1)))], hsL G.2.1 hs1, blk G.2.1 sv1]) (L' := [wXo G.2.1 (ad 0) (xF ad) (svV sv1) K1, wSh G.2.1 (ad 1) S1, wSh G.2.1 (ad 2) Fc1, wTe G.2.1 (ad 4) C1, wSb G.2.1 (ad 5) ou1, wAd G.2.1 (ad 6) D1, wAb G.2.1 (ad 7) B1, wHo G.2.1 (ad 3) cu1 ct1 hs1, [(fo, .inl (G.2.1 4, 1, .inr (.inl f1)))], [(fd, .inl (G.2.1 5, 1, .inr (.inr (.inr (.inl fD)))))], wMo G.2.1 mo M, hsL G.2.1 hs1, blk G.2.1 sv1]) h9 13 [0, 1, 2, 3, 4, 5, 6, 7, 8, 11, 12, 9, 10] rfl rfl rfl
  have w : Wd G A s.heap (fl [wXo G.2.1 (ad 0) (xF ad) (svV sv1) K1, wSh G.2.1 (ad 1) S1, wSh G.2.1 (ad 2) Fc1, wTe G.2.1 (ad 4) C1, wSb G.2.1 (ad 5) ou1, wAd G.2.1 (ad 6) D1, wAb G.2.1 (ad 7) B1, wHo G.2.1 (ad 3) cu1 ct1 hs1, [(fo, .inl (G.2.1 4, 1, .inr (.inl f1)))], [(fd, .inl (G.2.1 5, 1, .inr (.inr (.inr (.inl fD)))))], wMo G.2.1 mo M, hsL G.2.1 hs1, blk G.2.1 sv1]) _ _ := w
  refine lv_istore (lv' := [(6, .int r8), (5, .int (nI i)), (4, .ref fd), (3, .ref fo), (2, .ref (mo 0)), (1, .ref ((ad 0) 0)), (0, .ref b)]) F.x F.b dL_law_1108 hl (by decide) rfl (fun ls hl => ?_)
  refine lv_aload_n F.x F.b dL_law_1110 rfl (lv_at hl 4 rfl) ?_
  refine lv_aload_n F.x F.b dL_law_1111 rfl (lv_at hl 6 rfl) ?_
  refine lv_iload F.x F.b dL_law_1112 (lv_at hl 1 rfl) ?_
  refine lv_iconst (v := 1) F.x F.b dL_law_1114 (by decide) ?_
  refine lv_iadd F.x F.b dL_law_1115 ?_
  refine rX F w hX hbA hbl (k := i + 1) (nI_add i 1) (by omega) hL dL_law_1116 ?_
  refine kXi F w hst (LC := [wMo G.2.1 mo M]) (LR := [wXo G.2.1 (ad 0) (xF ad) (svV sv1) K1, wSh G.2.1 (ad 1) S1, wSh G.2.1 (ad 2) Fc1, wTe G.2.1 (ad 4) C1, wSb G.2.1 (ad 5) ou1, wAd G.2.1 (ad 6) D1, wAb G.2.1 (ad 7) B1, wHo G.2.1 (ad 3) cu1 ct1 hs1, [(fo, .inl (G.2.1 4, 1, .inr (.inl f1)))], [(fd, .inl (G.2.1 5, 1, .inr (.inr (.inr (.inl fD)))))], hsL G.2.1 hs1, blk G.2.1 sv1]) (As := [.int (xs (i + 1))]) (rest := []) (t_X7_lotAt F.1 e2).toX m_X7_lotAt v_X7_lotAt q1747 (ci := 11) (q0 := 40) rfl rfl rfl 13 [10, 0, 1, 2, 3, 4, 5, 6, 7, 8, 9, 11, 12] rfl rfl rfl ⟨by omega, by omega⟩ rfl hl.1 rfl (Nat.le_of_ble_eq_true rfl) dL_law_1117 ⟨by omega, by omega⟩ (fun _ _ _ _ _ _ hx => False.elim hx) (fun r9 w1 H locs h9 w => ?_)
  obtain ⟨hb9, h9⟩ := h9
  have w := w.jn (L1 := [wMo G.2.1 mo M1]) (L' := [wXo G.2.1 (ad 0) (xF ad) (svV sv1) K1, wSh G.2.1 (ad 1) S1, wSh G.2.1 (ad 2) Fc1, wTe G.2.1 (ad 4) C1, wSb G.2.1 (ad 5) ou1, wAd G.2.1 (ad 6) D1, wAb G.2.1 (ad 7) B1, wHo G.2.1 (ad 3) cu1 ct1 hs1, [(fo, .inl (G.2.1 4, 1, .inr (.inl f1)))], [(fd, .inl (G.2.1 5, 1, .inr (.inr (.inr (.inl fD)))))], wMo G.2.1 mo M1, hsL G.2.1 hs1, blk G.2.1 sv1]) h9 13 [1, 2, 3, 4, 5, 6, 7, 8, 9, 10, 0, 11, 12] rfl rfl rfl
  rw [hb9]
  have w : Wd G A s.heap (fl [wXo G.2.1 (ad 0) (xF ad) (svV sv1) K1, wSh G.2.1 (ad 1) S1, wSh G.2.1 (ad 2) Fc1, wTe G.2.1 (ad 4) C1, wSb G.2.1 (ad 5) ou1, wAd G.2.1 (ad 6) D1, wAb G.2.1 (ad 7) B1, wHo G.2.1 (ad 3) cu1 ct1 hs1, [(fo, .inl (G.2.1 4, 1, .inr (.inl f1)))], [(fd, .inl (G.2.1 5, 1, .inr (.inr (.inr (.inl fD)))))], wMo G.2.1 mo M1, hsL G.2.1 hs1, blk G.2.1 sv1]) _ _ := w
  refine lv_istore (lv' := [(7, .int b1), (6, .int r8), (5, .int (nI i)), (4, .ref fd), (3, .ref fo), (2, .ref (mo 0)), (1, .ref ((ad 0) 0)), (0, .ref b)]) F.x F.b dL_law_1120 hl (by decide) rfl (fun ls hl => ?_)
  refine lv_aload_n F.x F.b dL_law_1122 rfl (lv_at hl 5 rfl) ?_
  refine kXi F w hst (LC := [wMo G.2.1 mo M1]) (LR := [wXo G.2.1 (ad 0) (xF ad) (svV sv1) K1, wSh G.2.1 (ad 1) S1, wSh G.2.1 (ad 2) Fc1, wTe G.2.1 (ad 4) C1, wSb G.2.1 (ad 5) ou1, wAd G.2.1 (ad 6) D1, wAb G.2.1 (ad 7) B1, wHo G.2.1 (ad 3) cu1 ct1 hs1, [(fo, .inl (G.2.1 4, 1, .inr (.inl f1)))], [(fd, .inl (G.2.1 5, 1, .inr (.inr (.inr (.inl fD)))))], hsL G.2.1 hs1, blk G.2.1 sv1]) (As := []) (rest := []) (t_X7_thrown F.1 (r := r8) (show f_X7_thrown M1 = some r8 from by rw [f_X7_thrown, e3])).toX m_X7_thrown v_X7_thrown q1614 (ci := 11) (q0 := 40) rfl rfl rfl 13 [10, 0, 1, 2, 3, 4, 5, 6, 7, 8, 9, 11, 12] rfl rfl rfl ⟨by omega, by omega⟩ rfl hl.1 rfl (Nat.le_of_ble_eq_true rfl) dL_law_1123 ⟨by omega, by omega⟩ (fun _ _ _ _ _ _ hx => False.elim hx) (fun r9 w1 H locs h9 w => ?_)
  obtain ⟨hb8, h9⟩ := h9
  have w := w.jn (L1 := [wMo G.2.1 mo M1]) (L' := [wXo G.2.1 (ad 0) (xF ad) (svV sv1) K1, wSh G.2.1 (ad 1) S1, wSh G.2.1 (ad 2) Fc1, wTe G.2.1 (ad 4) C1, wSb G.2.1 (ad 5) ou1, wAd G.2.1 (ad 6) D1, wAb G.2.1 (ad 7) B1, wHo G.2.1 (ad 3) cu1 ct1 hs1, [(fo, .inl (G.2.1 4, 1, .inr (.inl f1)))], [(fd, .inl (G.2.1 5, 1, .inr (.inr (.inr (.inl fD)))))], wMo G.2.1 mo M1, hsL G.2.1 hs1, blk G.2.1 sv1]) h9 13 [1, 2, 3, 4, 5, 6, 7, 8, 9, 10, 0, 11, 12] rfl rfl rfl
  rw [hb8]
  have w : Wd G A s.heap (fl [wXo G.2.1 (ad 0) (xF ad) (svV sv1) K1, wSh G.2.1 (ad 1) S1, wSh G.2.1 (ad 2) Fc1, wTe G.2.1 (ad 4) C1, wSb G.2.1 (ad 5) ou1, wAd G.2.1 (ad 6) D1, wAb G.2.1 (ad 7) B1, wHo G.2.1 (ad 3) cu1 ct1 hs1, [(fo, .inl (G.2.1 4, 1, .inr (.inl f1)))], [(fd, .inl (G.2.1 5, 1, .inr (.inr (.inr (.inl fD)))))], wMo G.2.1 mo M1, hsL G.2.1 hs1, blk G.2.1 sv1]) _ _ := w
  refine lv_iload F.x F.b dL_law_1126 (lv_at hl 1 rfl) ?_
  refine lv_icmp_eq (tgt := 1133) F.x F.b dL_law_1128 (by decide) (fun _ => ?_) (fun c9 => absurd rfl c9)
  refine lv_iload F.x F.b dL_law_1133 (lv_at hl 1 rfl) ?_
  by_cases hr : r8 = 0
  · refine lv_if_ne (tgt := 1150) F.x F.b dL_law_1135 (by decide) (fun c9 => absurd hr c9) (fun _ => ?_)
    refine lv_aload_n F.x F.b dL_law_1138 rfl (lv_at hl 4 rfl) ?_
    refine lv_iconst (v := 0) F.x F.b dL_law_1139 (by decide) ?_
    refine rLl F w 38 rfl (by decide) (v := Int32.toInt64 b1) (by rw [sb_cl0]; exact hf hr) dL_law_1140 ?_
    refine lv_iload F.x F.b dL_law_1141 (lv_at hl 0 rfl) ?_
    refine lv_i2l (v := (Int32.toInt64 b1)) F.x F.b dL_law_1143 rfl ?_
    refine rLc F.x F.b rfl dL_law_1144 ?_
    refine lv_if_eq (tgt := 1150) F.x F.b dL_law_1145 (by decide) (fun _ => ?_) (fun c9 => absurd rfl c9)
    refine lv_goto (tgt := 2836) F.x F.b dL_law_1150 (by decide) ?_
    refine W.widen (k := cells + 20) (n := slots + 200) (by omega) (by omega) ?_
    exact kk K1 S1 Fc1 C1 D1 B1 cu1 ct1 hs1 sv1 ou1 M1 f1 fD _ _ _ w e4 (lv_sub hl [2, 3, 4, 5, 6, 7] rfl)
  · refine lv_if_ne (tgt := 1150) F.x F.b dL_law_1135 (by decide) (fun _ => ?_) (fun c9 => absurd c9 hr)
    refine lv_goto (tgt := 2836) F.x F.b dL_law_1150 (by decide) ?_
    refine W.widen (k := cells + 20) (n := slots + 200) (by omega) (by omega) ?_
    exact kk K1 S1 Fc1 C1 D1 B1 cu1 ct1 hs1 sv1 ou1 M1 f1 fD _ _ _ w e4 (lv_sub hl [2, 3, 4, 5, 6, 7] rfl)
set_option maxRecDepth 100000 in
set_option maxHeartbeats 4000000 in
theorem cs_15 {G : cG} {p : Program} {l : Launch} {e : Env} {R : Room} {s : State} {m : MethodId} {args : Array Value} {below : List Frame} {meth : Method} {c : Code} {A : Nat → Prop} {Q : State → Prop} {ad : Nat → Nat → Nat} {fo fd : Nat} {mo : Nat → Nat} {b i L N cells slots : Nat} {xs : Nat → Int32} {ks kv : Nat → Nat} {d1 d2 : Nat} {K S Fc C D B : Mem} {cu ct : Nat} {hs : hS} {sv : sV} {ou : oB} {M : Mem} {f0 : Nat → Int64} {fD : Nat → UInt64} {H : Heap} {locs : List Loc} {ls : Array Slot} (F : Fx G p s m c cL_law 9 RL A) (gM : MG G) (hNC : NcG G) (hSG : SG G ks kv) (pv : PV G) (hD : DGs G d1 d2) (hst : l.stackTraces = false) (hX : va_X b L xs s s.heap) (hbA : ¬ A b) (hbl : b < s.heap.size) (hL : L ≤ 2560) (hi : i + 5 ≤ L) (hR1 : 60 ≤ R.frames) (hR2 : 3000 ≤ R.locals) (hc1 : cells + 20 ≤ R.cells) (hs1 : slots + 200 ≤ R.slots) (hN : N < 2 ^ 29) (h : Top N K S C cu ct hs sv ou M) (w : Wd G A s.heap (fl (wAll G.2.1 ad K S Fc C D B cu ct hs sv ou fo f0 fd fD mo M)) H locs) (hl : lv_has ls 9 [(5, .int (nI i)), (4, .ref fd), (3, .ref fo), (2, .ref (mo 0)), (1, .ref ((ad 0) 0)), (0, .ref b)]) (kk : KKc G p l e R s m args below meth c A Q ad fo fd mo b i N cells slots) : W p l e R s m args below meth c H locs cells slots Q (F0 m 1153 ls []) := by
  have w : Wd G A s.heap (fl [wXo G.2.1 (ad 0) (xF ad) (svV sv) K, wSh G.2.1 (ad 1) S, wSh G.2.1 (ad 2) Fc, wTe G.2.1 (ad 4) C, wSb G.2.1 (ad 5) ou, wAd G.2.1 (ad 6) D, wAb G.2.1 (ad 7) B, wHo G.2.1 (ad 3) cu ct hs, [(fo, .inl (G.2.1 4, 1, .inr (.inl f0)))], [(fd, .inl (G.2.1 5, 1, .inr (.inr (.inr (.inl fD)))))], wMo G.2.1 mo M, hsL G.2.1 hs, blk G.2.1 sv]) H locs := w
  refine lv_aload_n F.x F.b dL_law_1153 rfl (lv_at hl 4 rfl) ?_
  refine lv_aload_n F.x F.b dL_law_1154 rfl (lv_at hl 5 rfl) ?_
  refine lv_iload F.x F.b dL_law_1155 (lv_at hl 0 rfl) ?_
  refine lv_iconst (v := 1) F.x F.b dL_law_1157 (by decide) ?_
  refine lv_iadd F.x F.b dL_law_1158 ?_
  refine rX F w hX hbA hbl (k := i + 1) (nI_add i 1) (by omega) hL dL_law_1159 ?_
  refine lv_aload_n F.x F.b dL_law_1160 rfl (lv_at hl 2 rfl) ?_
  refine kLi F w hst (LC := [wXo G.2.1 (ad 0) (xF ad) (svV sv) K, wSh G.2.1 (ad 1) S, wSh G.2.1 (ad 2) Fc, wTe G.2.1 (ad 4) C, wSb G.2.1 (ad 5) ou, wAd G.2.1 (ad 6) D, wAb G.2.1 (ad 7) B, wHo G.2.1 (ad 3) cu ct hs, [(fo, .inl (G.2.1 4, 1, .inr (.inl f0)))], hsL G.2.1 hs, blk G.2.1 sv]) (LR := [[(fd, .inl (G.2.1 5, 1, .inr (.inr (.inr (.inl fD)))))], wMo G.2.1 mo M]) (As := [.ref ((ad 0) 0), .int (xs (i + 1)), .ref fo]) (rest := []) (l_nextEmptyBay F.1 gM hNC h) mh_nextEmptyBay vh_nextEmptyBay (List.mem_of_getElem? (i := 1109) (by decide +kernel)) 13 [0, 1, 2, 3, 4, 5, 6, 7, 8, 11, 12, 9, 10] rfl rfl rfl ⟨by omega, by omega⟩ rfl hl.1 rfl (Nat.le_of_ble_eq_true rfl) dL_law_1161 ⟨by omega, by omega⟩ (fun r8 w1 H locs h9 w => ?_)
  obtain ⟨K1, S1, Fc1, C1, D1, B1, cu1, ct1, hs1, sv1, ou1, M1, b1, f1, h9, e2, e3, e4, hf⟩ := h9
  have w := w.jn (L1 := [wXo G.2.1 (ad 0) (xF ad) (svV sv1) K1, wSh G.2.1 (ad 1) S1, wSh G.2.1 (ad 2) Fc1, wTe G.2.1 (ad 4) C1, wSb G.2.1 (ad 5) ou1, wAd G.2.1 (ad 6) D1, wAb G.2.1 (ad 7) B1, wHo G.2.1 (ad 3) cu1 ct1 hs1, [(fo, .inl (G.2.1 4, 1, .inr (.inl f1)))], hsL G.2.1 hs1, blk G.2.1 sv1]) (L' := [wXo G.2.1 (ad 0) (xF ad) (svV sv1) K1, wSh G.2.1 (ad 1) S1, wSh G.2.1 (ad 2) Fc1, wTe G.2.1 (ad 4) C1, wSb G.2.1 (ad 5) ou1, wAd G.2.1 (ad 6) D1, wAb G.2.1 (ad 7) B1, wHo G.2.1 (ad 3) cu1 ct1 hs1, [(fo, .inl (G.2.1 4, 1, .inr (.inl f1)))], [(fd, .inl (G.2.1 5, 1, .inr (.inr (.inr (.inl fD)))))], wMo G.2.1 mo M, hsL G.2.1 hs1, blk G.2.1 sv1]) h9 13 [0, 1, 2, 3, 4, 5, 6, 7, 8, 11, 12, 9, 10] rfl rfl rfl
  have w : Wd G A s.heap (fl [wXo G.2.1 (ad 0) (xF ad) (svV sv1) K1, wSh G.2.1 (ad 1) S1, wSh G.2.1 (ad 2) Fc1, wTe G.2.1 (ad 4) C1, wSb G.2.1 (ad 5) ou1, wAd G.2.1 (ad 6) D1, wAb G.2.1 (ad 7) B1, wHo G.2.1 (ad 3) cu1 ct1 hs1, [(fo, .inl (G.2.1 4, 1, .inr (.inl f1)))], [(fd, .inl (G.2.1 5, 1, .inr (.inr (.inr (.inl fD)))))], wMo G.2.1 mo M, hsL G.2.1 hs1, blk G.2.1 sv1]) _ _ := w
  refine lv_istore (lv' := [(6, .int r8), (5, .int (nI i)), (4, .ref fd), (3, .ref fo), (2, .ref (mo 0)), (1, .ref ((ad 0) 0)), (0, .ref b)]) F.x F.b dL_law_1164 hl (by decide) rfl (fun ls hl => ?_)
  refine lv_aload_n F.x F.b dL_law_1166 rfl (lv_at hl 4 rfl) ?_
  refine lv_aload_n F.x F.b dL_law_1167 rfl (lv_at hl 6 rfl) ?_
  refine lv_iload F.x F.b dL_law_1168 (lv_at hl 1 rfl) ?_
  refine lv_iconst (v := 1) F.x F.b dL_law_1170 (by decide) ?_
  refine lv_iadd F.x F.b dL_law_1171 ?_
  refine rX F w hX hbA hbl (k := i + 1) (nI_add i 1) (by omega) hL dL_law_1172 ?_
  refine kXi F w hst (LC := [wMo G.2.1 mo M]) (LR := [wXo G.2.1 (ad 0) (xF ad) (svV sv1) K1, wSh G.2.1 (ad 1) S1, wSh G.2.1 (ad 2) Fc1, wTe G.2.1 (ad 4) C1, wSb G.2.1 (ad 5) ou1, wAd G.2.1 (ad 6) D1, wAb G.2.1 (ad 7) B1, wHo G.2.1 (ad 3) cu1 ct1 hs1, [(fo, .inl (G.2.1 4, 1, .inr (.inl f1)))], [(fd, .inl (G.2.1 5, 1, .inr (.inr (.inr (.inl fD)))))], hsL G.2.1 hs1, blk G.2.1 sv1]) (As := [.int (xs (i + 1))]) (rest := []) (t_X7_nextEmptyBay F.1 e2).toX m_X7_nextEmptyBay v_X7_nextEmptyBay q1751 (ci := 11) (q0 := 40) rfl rfl rfl 13 [10, 0, 1, 2, 3, 4, 5, 6, 7, 8, 9, 11, 12] rfl rfl rfl ⟨by omega, by omega⟩ rfl hl.1 rfl (Nat.le_of_ble_eq_true rfl) dL_law_1173 ⟨by omega, by omega⟩ (fun _ _ _ _ _ _ hx => False.elim hx) (fun r9 w1 H locs h9 w => ?_)
  obtain ⟨hb9, h9⟩ := h9
  have w := w.jn (L1 := [wMo G.2.1 mo M1]) (L' := [wXo G.2.1 (ad 0) (xF ad) (svV sv1) K1, wSh G.2.1 (ad 1) S1, wSh G.2.1 (ad 2) Fc1, wTe G.2.1 (ad 4) C1, wSb G.2.1 (ad 5) ou1, wAd G.2.1 (ad 6) D1, wAb G.2.1 (ad 7) B1, wHo G.2.1 (ad 3) cu1 ct1 hs1, [(fo, .inl (G.2.1 4, 1, .inr (.inl f1)))], [(fd, .inl (G.2.1 5, 1, .inr (.inr (.inr (.inl fD)))))], wMo G.2.1 mo M1, hsL G.2.1 hs1, blk G.2.1 sv1]) h9 13 [1, 2, 3, 4, 5, 6, 7, 8, 9, 10, 0, 11, 12] rfl rfl rfl
  rw [hb9]
  have w : Wd G A s.heap (fl [wXo G.2.1 (ad 0) (xF ad) (svV sv1) K1, wSh G.2.1 (ad 1) S1, wSh G.2.1 (ad 2) Fc1, wTe G.2.1 (ad 4) C1, wSb G.2.1 (ad 5) ou1, wAd G.2.1 (ad 6) D1, wAb G.2.1 (ad 7) B1, wHo G.2.1 (ad 3) cu1 ct1 hs1, [(fo, .inl (G.2.1 4, 1, .inr (.inl f1)))], [(fd, .inl (G.2.1 5, 1, .inr (.inr (.inr (.inl fD)))))], wMo G.2.1 mo M1, hsL G.2.1 hs1, blk G.2.1 sv1]) _ _ := w
  refine lv_istore (lv' := [(7, .int b1), (6, .int r8), (5, .int (nI i)), (4, .ref fd), (3, .ref fo), (2, .ref (mo 0)), (1, .ref ((ad 0) 0)), (0, .ref b)]) F.x F.b dL_law_1176 hl (by decide) rfl (fun ls hl => ?_)
  refine lv_aload_n F.x F.b dL_law_1178 rfl (lv_at hl 5 rfl) ?_
  refine kXi F w hst (LC := [wMo G.2.1 mo M1]) (LR := [wXo G.2.1 (ad 0) (xF ad) (svV sv1) K1, wSh G.2.1 (ad 1) S1, wSh G.2.1 (ad 2) Fc1, wTe G.2.1 (ad 4) C1, wSb G.2.1 (ad 5) ou1, wAd G.2.1 (ad 6) D1, wAb G.2.1 (ad 7) B1, wHo G.2.1 (ad 3) cu1 ct1 hs1, [(fo, .inl (G.2.1 4, 1, .inr (.inl f1)))], [(fd, .inl (G.2.1 5, 1, .inr (.inr (.inr (.inl fD)))))], hsL G.2.1 hs1, blk G.2.1 sv1]) (As := []) (rest := []) (t_X7_thrown F.1 (r := r8) (show f_X7_thrown M1 = some r8 from by rw [f_X7_thrown, e3])).toX m_X7_thrown v_X7_thrown q1614 (ci := 11) (q0 := 40) rfl rfl rfl 13 [10, 0, 1, 2, 3, 4, 5, 6, 7, 8, 9, 11, 12] rfl rfl rfl ⟨by omega, by omega⟩ rfl hl.1 rfl (Nat.le_of_ble_eq_true rfl) dL_law_1179 ⟨by omega, by omega⟩ (fun _ _ _ _ _ _ hx => False.elim hx) (fun r9 w1 H locs h9 w => ?_)
  obtain ⟨hb8, h9⟩ := h9
  have w := w.jn (L1 := [wMo G.2.1 mo M1]) (L' := [wXo G.2.1 (ad 0) (xF ad) (svV sv1) K1, wSh G.2.1 (ad 1) S1, wSh G.2.1 (ad 2) Fc1, wTe G.2.1 (ad 4) C1, wSb G.2.1 (ad 5) ou1, wAd G.2.1 (ad 6) D1, wAb G.2.1 (ad 7) B1, wHo G.2.1 (ad 3) cu1 ct1 hs1, [(fo, .inl (G.2.1 4, 1, .inr (.inl f1)))], [(fd, .inl (G.2.1 5, 1, .inr (.inr (.inr (.inl fD)))))], wMo G.2.1 mo M1, hsL G.2.1 hs1, blk G.2.1 sv1]) h9 13 [1, 2, 3, 4, 5, 6, 7, 8, 9, 10, 0, 11, 12] rfl rfl rfl
  rw [hb8]
  have w : Wd G A s.heap (fl [wXo G.2.1 (ad 0) (xF ad) (svV sv1) K1, wSh G.2.1 (ad 1) S1, wSh G.2.1 (ad 2) Fc1, wTe G.2.1 (ad 4) C1, wSb G.2.1 (ad 5) ou1, wAd G.2.1 (ad 6) D1, wAb G.2.1 (ad 7) B1, wHo G.2.1 (ad 3) cu1 ct1 hs1, [(fo, .inl (G.2.1 4, 1, .inr (.inl f1)))], [(fd, .inl (G.2.1 5, 1, .inr (.inr (.inr (.inl fD)))))], wMo G.2.1 mo M1, hsL G.2.1 hs1, blk G.2.1 sv1]) _ _ := w
  refine lv_iload F.x F.b dL_law_1182 (lv_at hl 1 rfl) ?_
  refine lv_icmp_eq (tgt := 1189) F.x F.b dL_law_1184 (by decide) (fun _ => ?_) (fun c9 => absurd rfl c9)
  refine lv_iload F.x F.b dL_law_1189 (lv_at hl 1 rfl) ?_
  by_cases hr : r8 = 0
  · refine lv_if_ne (tgt := 1206) F.x F.b dL_law_1191 (by decide) (fun c9 => absurd hr c9) (fun _ => ?_)
    refine lv_aload_n F.x F.b dL_law_1194 rfl (lv_at hl 4 rfl) ?_
    refine lv_iconst (v := 0) F.x F.b dL_law_1195 (by decide) ?_
    refine rLl F w 38 rfl (by decide) (v := Int32.toInt64 b1) (by rw [sb_cl0]; exact hf hr) dL_law_1196 ?_
    refine lv_iload F.x F.b dL_law_1197 (lv_at hl 0 rfl) ?_
    refine lv_i2l (v := (Int32.toInt64 b1)) F.x F.b dL_law_1199 rfl ?_
    refine rLc F.x F.b rfl dL_law_1200 ?_
    refine lv_if_eq (tgt := 1206) F.x F.b dL_law_1201 (by decide) (fun _ => ?_) (fun c9 => absurd rfl c9)
    refine lv_goto (tgt := 2836) F.x F.b dL_law_1206 (by decide) ?_
    refine W.widen (k := cells + 20) (n := slots + 200) (by omega) (by omega) ?_
    exact kk K1 S1 Fc1 C1 D1 B1 cu1 ct1 hs1 sv1 ou1 M1 f1 fD _ _ _ w e4 (lv_sub hl [2, 3, 4, 5, 6, 7] rfl)
  · refine lv_if_ne (tgt := 1206) F.x F.b dL_law_1191 (by decide) (fun _ => ?_) (fun c9 => absurd c9 hr)
    refine lv_goto (tgt := 2836) F.x F.b dL_law_1206 (by decide) ?_
    refine W.widen (k := cells + 20) (n := slots + 200) (by omega) (by omega) ?_
    exact kk K1 S1 Fc1 C1 D1 B1 cu1 ct1 hs1 sv1 ou1 M1 f1 fD _ _ _ w e4 (lv_sub hl [2, 3, 4, 5, 6, 7] rfl)
set_option maxRecDepth 100000 in
set_option maxHeartbeats 4000000 in
theorem cs_16 {G : cG} {p : Program} {l : Launch} {e : Env} {R : Room} {s : State} {m : MethodId} {args : Array Value} {below : List Frame} {meth : Method} {c : Code} {A : Nat → Prop} {Q : State → Prop} {ad : Nat → Nat → Nat} {fo fd : Nat} {mo : Nat → Nat} {b i L N cells slots : Nat} {xs : Nat → Int32} {ks kv : Nat → Nat} {d1 d2 : Nat} {K S Fc C D B : Mem} {cu ct : Nat} {hs : hS} {sv : sV} {ou : oB} {M : Mem} {f0 : Nat → Int64} {fD : Nat → UInt64} {H : Heap} {locs : List Loc} {ls : Array Slot} (F : Fx G p s m c cL_law 9 RL A) (gM : MG G) (hNC : NcG G) (hSG : SG G ks kv) (pv : PV G) (hD : DGs G d1 d2) (hst : l.stackTraces = false) (hX : va_X b L xs s s.heap) (hbA : ¬ A b) (hbl : b < s.heap.size) (hL : L ≤ 2560) (hi : i + 5 ≤ L) (hR1 : 60 ≤ R.frames) (hR2 : 3000 ≤ R.locals) (hc1 : cells + 20 ≤ R.cells) (hs1 : slots + 200 ≤ R.slots) (hN : N < 2 ^ 29) (h : Top N K S C cu ct hs sv ou M) (w : Wd G A s.heap (fl (wAll G.2.1 ad K S Fc C D B cu ct hs sv ou fo f0 fd fD mo M)) H locs) (hl : lv_has ls 9 [(5, .int (nI i)), (4, .ref fd), (3, .ref fo), (2, .ref (mo 0)), (1, .ref ((ad 0) 0)), (0, .ref b)]) (kk : KKc G p l e R s m args below meth c A Q ad fo fd mo b i N cells slots) : W p l e R s m args below meth c H locs cells slots Q (F0 m 1209 ls []) := by
  have w : Wd G A s.heap (fl [wXo G.2.1 (ad 0) (xF ad) (svV sv) K, wSh G.2.1 (ad 1) S, wSh G.2.1 (ad 2) Fc, wTe G.2.1 (ad 4) C, wSb G.2.1 (ad 5) ou, wAd G.2.1 (ad 6) D, wAb G.2.1 (ad 7) B, wHo G.2.1 (ad 3) cu ct hs, [(fo, .inl (G.2.1 4, 1, .inr (.inl f0)))], [(fd, .inl (G.2.1 5, 1, .inr (.inr (.inr (.inl fD)))))], wMo G.2.1 mo M, hsL G.2.1 hs, blk G.2.1 sv]) H locs := w
  refine lv_aload_n F.x F.b dL_law_1209 rfl (lv_at hl 4 rfl) ?_
  refine lv_aload_n F.x F.b dL_law_1210 rfl (lv_at hl 5 rfl) ?_
  refine lv_iload F.x F.b dL_law_1211 (lv_at hl 0 rfl) ?_
  refine lv_iconst (v := 1) F.x F.b dL_law_1213 (by decide) ?_
  refine lv_iadd F.x F.b dL_law_1214 ?_
  refine rX F w hX hbA hbl (k := i + 1) (nI_add i 1) (by omega) hL dL_law_1215 ?_
  refine lv_i2c (v := ((xs (i + 1)).toUInt32 % 65536).toInt32) F.x F.b dL_law_1216 rfl ?_
  refine lv_aload_n F.x F.b dL_law_1217 rfl (lv_at hl 2 rfl) ?_
  refine kLi F w hst (LC := [wXo G.2.1 (ad 0) (xF ad) (svV sv) K, wSh G.2.1 (ad 1) S, wSh G.2.1 (ad 2) Fc, wTe G.2.1 (ad 4) C, wSb G.2.1 (ad 5) ou, wAd G.2.1 (ad 6) D, wAb G.2.1 (ad 7) B, wHo G.2.1 (ad 3) cu ct hs, [(fo, .inl (G.2.1 4, 1, .inr (.inl f0)))], hsL G.2.1 hs, blk G.2.1 sv]) (LR := [[(fd, .inl (G.2.1 5, 1, .inr (.inr (.inr (.inl fD)))))], wMo G.2.1 mo M]) (As := [.ref ((ad 0) 0), .int (((xs (i + 1)).toUInt32 % 65536).toInt32), .ref fo]) (rest := []) (l_quantityOfKind F.1 gM hNC h) mh_quantityOfKind vh_quantityOfKind (List.mem_of_getElem? (i := 1117) (by decide +kernel)) 13 [0, 1, 2, 3, 4, 5, 6, 7, 8, 11, 12, 9, 10] rfl rfl rfl ⟨by omega, by omega⟩ rfl hl.1 rfl (Nat.le_of_ble_eq_true rfl) dL_law_1218 ⟨by omega, by omega⟩ (fun r8 w1 H locs h9 w => ?_)
  obtain ⟨K1, S1, Fc1, C1, D1, B1, cu1, ct1, hs1, sv1, ou1, M1, b1, f1, h9, e2, e3, e4, hf⟩ := h9
  have w := w.jn (L1 := [wXo G.2.1 (ad 0) (xF ad) (svV sv1) K1, wSh G.2.1 (ad 1) S1, wSh G.2.1 (ad 2) Fc1, wTe G.2.1 (ad 4) C1, wSb G.2.1 (ad 5) ou1, wAd G.2.1 (ad 6) D1, wAb G.2.1 (ad 7) B1, wHo G.2.1 (ad 3) cu1 ct1 hs1, [(fo, .inl (G.2.1 4, 1, .inr (.inl f1)))], hsL G.2.1 hs1, blk G.2.1 sv1]) (L' := [wXo G.2.1 (ad 0) (xF ad) (svV sv1) K1, wSh G.2.1 (ad 1) S1, wSh G.2.1 (ad 2) Fc1, wTe G.2.1 (ad 4) C1, wSb G.2.1 (ad 5) ou1, wAd G.2.1 (ad 6) D1, wAb G.2.1 (ad 7) B1, wHo G.2.1 (ad 3) cu1 ct1 hs1, [(fo, .inl (G.2.1 4, 1, .inr (.inl f1)))], [(fd, .inl (G.2.1 5, 1, .inr (.inr (.inr (.inl fD)))))], wMo G.2.1 mo M, hsL G.2.1 hs1, blk G.2.1 sv1]) h9 13 [0, 1, 2, 3, 4, 5, 6, 7, 8, 11, 12, 9, 10] rfl rfl rfl
  have w : Wd G A s.heap (fl [wXo G.2.1 (ad 0) (xF ad) (svV sv1) K1, wSh G.2.1 (ad 1) S1, wSh G.2.1 (ad 2) Fc1, wTe G.2.1 (ad 4) C1, wSb G.2.1 (ad 5) ou1, wAd G.2.1 (ad 6) D1, wAb G.2.1 (ad 7) B1, wHo G.2.1 (ad 3) cu1 ct1 hs1, [(fo, .inl (G.2.1 4, 1, .inr (.inl f1)))], [(fd, .inl (G.2.1 5, 1, .inr (.inr (.inr (.inl fD)))))], wMo G.2.1 mo M, hsL G.2.1 hs1, blk G.2.1 sv1]) _ _ := w
  refine lv_istore (lv' := [(6, .int r8), (5, .int (nI i)), (4, .ref fd), (3, .ref fo), (2, .ref (mo 0)), (1, .ref ((ad 0) 0)), (0, .ref b)]) F.x F.b dL_law_1221 hl (by decide) rfl (fun ls hl => ?_)
  refine lv_aload_n F.x F.b dL_law_1223 rfl (lv_at hl 4 rfl) ?_
  refine lv_aload_n F.x F.b dL_law_1224 rfl (lv_at hl 6 rfl) ?_
  refine lv_iload F.x F.b dL_law_1225 (lv_at hl 1 rfl) ?_
  refine lv_iconst (v := 1) F.x F.b dL_law_1227 (by decide) ?_
  refine lv_iadd F.x F.b dL_law_1228 ?_
  refine rX F w hX hbA hbl (k := i + 1) (nI_add i 1) (by omega) hL dL_law_1229 ?_
  refine lv_i2c (v := ((xs (i + 1)).toUInt32 % 65536).toInt32) F.x F.b dL_law_1230 rfl ?_
  refine kXi F w hst (LC := [wMo G.2.1 mo M]) (LR := [wXo G.2.1 (ad 0) (xF ad) (svV sv1) K1, wSh G.2.1 (ad 1) S1, wSh G.2.1 (ad 2) Fc1, wTe G.2.1 (ad 4) C1, wSb G.2.1 (ad 5) ou1, wAd G.2.1 (ad 6) D1, wAb G.2.1 (ad 7) B1, wHo G.2.1 (ad 3) cu1 ct1 hs1, [(fo, .inl (G.2.1 4, 1, .inr (.inl f1)))], [(fd, .inl (G.2.1 5, 1, .inr (.inr (.inr (.inl fD)))))], hsL G.2.1 hs1, blk G.2.1 sv1]) (As := [.int (((xs (i + 1)).toUInt32 % 65536).toInt32)]) (rest := []) (t_X7_quantityOfKind F.1 e2).toX m_X7_quantityOfKind v_X7_quantityOfKind q1755 (ci := 11) (q0 := 40) rfl rfl rfl 13 [10, 0, 1, 2, 3, 4, 5, 6, 7, 8, 9, 11, 12] rfl rfl rfl ⟨by omega, by omega⟩ rfl hl.1 rfl (Nat.le_of_ble_eq_true rfl) dL_law_1231 ⟨by omega, by omega⟩ (fun _ _ _ _ _ _ hx => False.elim hx) (fun r9 w1 H locs h9 w => ?_)
  obtain ⟨hb9, h9⟩ := h9
  have w := w.jn (L1 := [wMo G.2.1 mo M1]) (L' := [wXo G.2.1 (ad 0) (xF ad) (svV sv1) K1, wSh G.2.1 (ad 1) S1, wSh G.2.1 (ad 2) Fc1, wTe G.2.1 (ad 4) C1, wSb G.2.1 (ad 5) ou1, wAd G.2.1 (ad 6) D1, wAb G.2.1 (ad 7) B1, wHo G.2.1 (ad 3) cu1 ct1 hs1, [(fo, .inl (G.2.1 4, 1, .inr (.inl f1)))], [(fd, .inl (G.2.1 5, 1, .inr (.inr (.inr (.inl fD)))))], wMo G.2.1 mo M1, hsL G.2.1 hs1, blk G.2.1 sv1]) h9 13 [1, 2, 3, 4, 5, 6, 7, 8, 9, 10, 0, 11, 12] rfl rfl rfl
  rw [hb9]
  have w : Wd G A s.heap (fl [wXo G.2.1 (ad 0) (xF ad) (svV sv1) K1, wSh G.2.1 (ad 1) S1, wSh G.2.1 (ad 2) Fc1, wTe G.2.1 (ad 4) C1, wSb G.2.1 (ad 5) ou1, wAd G.2.1 (ad 6) D1, wAb G.2.1 (ad 7) B1, wHo G.2.1 (ad 3) cu1 ct1 hs1, [(fo, .inl (G.2.1 4, 1, .inr (.inl f1)))], [(fd, .inl (G.2.1 5, 1, .inr (.inr (.inr (.inl fD)))))], wMo G.2.1 mo M1, hsL G.2.1 hs1, blk G.2.1 sv1]) _ _ := w
  refine lv_istore (lv' := [(7, .int b1), (6, .int r8), (5, .int (nI i)), (4, .ref fd), (3, .ref fo), (2, .ref (mo 0)), (1, .ref ((ad 0) 0)), (0, .ref b)]) F.x F.b dL_law_1234 hl (by decide) rfl (fun ls hl => ?_)
  refine lv_aload_n F.x F.b dL_law_1236 rfl (lv_at hl 5 rfl) ?_
  refine kXi F w hst (LC := [wMo G.2.1 mo M1]) (LR := [wXo G.2.1 (ad 0) (xF ad) (svV sv1) K1, wSh G.2.1 (ad 1) S1, wSh G.2.1 (ad 2) Fc1, wTe G.2.1 (ad 4) C1, wSb G.2.1 (ad 5) ou1, wAd G.2.1 (ad 6) D1, wAb G.2.1 (ad 7) B1, wHo G.2.1 (ad 3) cu1 ct1 hs1, [(fo, .inl (G.2.1 4, 1, .inr (.inl f1)))], [(fd, .inl (G.2.1 5, 1, .inr (.inr (.inr (.inl fD)))))], hsL G.2.1 hs1, blk G.2.1 sv1]) (As := []) (rest := []) (t_X7_thrown F.1 (r := r8) (show f_X7_thrown M1 = some r8 from by rw [f_X7_thrown, e3])).toX m_X7_thrown v_X7_thrown q1614 (ci := 11) (q0 := 40) rfl rfl rfl 13 [10, 0, 1, 2, 3, 4, 5, 6, 7, 8, 9, 11, 12] rfl rfl rfl ⟨by omega, by omega⟩ rfl hl.1 rfl (Nat.le_of_ble_eq_true rfl) dL_law_1237 ⟨by omega, by omega⟩ (fun _ _ _ _ _ _ hx => False.elim hx) (fun r9 w1 H locs h9 w => ?_)
  obtain ⟨hb8, h9⟩ := h9
  have w := w.jn (L1 := [wMo G.2.1 mo M1]) (L' := [wXo G.2.1 (ad 0) (xF ad) (svV sv1) K1, wSh G.2.1 (ad 1) S1, wSh G.2.1 (ad 2) Fc1, wTe G.2.1 (ad 4) C1, wSb G.2.1 (ad 5) ou1, wAd G.2.1 (ad 6) D1, wAb G.2.1 (ad 7) B1, wHo G.2.1 (ad 3) cu1 ct1 hs1, [(fo, .inl (G.2.1 4, 1, .inr (.inl f1)))], [(fd, .inl (G.2.1 5, 1, .inr (.inr (.inr (.inl fD)))))], wMo G.2.1 mo M1, hsL G.2.1 hs1, blk G.2.1 sv1]) h9 13 [1, 2, 3, 4, 5, 6, 7, 8, 9, 10, 0, 11, 12] rfl rfl rfl
  rw [hb8]
  have w : Wd G A s.heap (fl [wXo G.2.1 (ad 0) (xF ad) (svV sv1) K1, wSh G.2.1 (ad 1) S1, wSh G.2.1 (ad 2) Fc1, wTe G.2.1 (ad 4) C1, wSb G.2.1 (ad 5) ou1, wAd G.2.1 (ad 6) D1, wAb G.2.1 (ad 7) B1, wHo G.2.1 (ad 3) cu1 ct1 hs1, [(fo, .inl (G.2.1 4, 1, .inr (.inl f1)))], [(fd, .inl (G.2.1 5, 1, .inr (.inr (.inr (.inl fD)))))], wMo G.2.1 mo M1, hsL G.2.1 hs1, blk G.2.1 sv1]) _ _ := w
  refine lv_iload F.x F.b dL_law_1240 (lv_at hl 1 rfl) ?_
  refine lv_icmp_eq (tgt := 1247) F.x F.b dL_law_1242 (by decide) (fun _ => ?_) (fun c9 => absurd rfl c9)
  refine lv_iload F.x F.b dL_law_1247 (lv_at hl 1 rfl) ?_
  by_cases hr : r8 = 0
  · refine lv_if_ne (tgt := 1264) F.x F.b dL_law_1249 (by decide) (fun c9 => absurd hr c9) (fun _ => ?_)
    refine lv_aload_n F.x F.b dL_law_1252 rfl (lv_at hl 4 rfl) ?_
    refine lv_iconst (v := 0) F.x F.b dL_law_1253 (by decide) ?_
    refine rLl F w 38 rfl (by decide) (v := Int32.toInt64 b1) (by rw [sb_cl0]; exact hf hr) dL_law_1254 ?_
    refine lv_iload F.x F.b dL_law_1255 (lv_at hl 0 rfl) ?_
    refine lv_i2l (v := (Int32.toInt64 b1)) F.x F.b dL_law_1257 rfl ?_
    refine rLc F.x F.b rfl dL_law_1258 ?_
    refine lv_if_eq (tgt := 1264) F.x F.b dL_law_1259 (by decide) (fun _ => ?_) (fun c9 => absurd rfl c9)
    refine lv_goto (tgt := 2836) F.x F.b dL_law_1264 (by decide) ?_
    refine W.widen (k := cells + 20) (n := slots + 200) (by omega) (by omega) ?_
    exact kk K1 S1 Fc1 C1 D1 B1 cu1 ct1 hs1 sv1 ou1 M1 f1 fD _ _ _ w e4 (lv_sub hl [2, 3, 4, 5, 6, 7] rfl)
  · refine lv_if_ne (tgt := 1264) F.x F.b dL_law_1249 (by decide) (fun _ => ?_) (fun c9 => absurd c9 hr)
    refine lv_goto (tgt := 2836) F.x F.b dL_law_1264 (by decide) ?_
    refine W.widen (k := cells + 20) (n := slots + 200) (by omega) (by omega) ?_
    exact kk K1 S1 Fc1 C1 D1 B1 cu1 ct1 hs1 sv1 ou1 M1 f1 fD _ _ _ w e4 (lv_sub hl [2, 3, 4, 5, 6, 7] rfl)
set_option maxRecDepth 100000 in
set_option maxHeartbeats 4000000 in
theorem cs_17 {G : cG} {p : Program} {l : Launch} {e : Env} {R : Room} {s : State} {m : MethodId} {args : Array Value} {below : List Frame} {meth : Method} {c : Code} {A : Nat → Prop} {Q : State → Prop} {ad : Nat → Nat → Nat} {fo fd : Nat} {mo : Nat → Nat} {b i L N cells slots : Nat} {xs : Nat → Int32} {ks kv : Nat → Nat} {d1 d2 : Nat} {K S Fc C D B : Mem} {cu ct : Nat} {hs : hS} {sv : sV} {ou : oB} {M : Mem} {f0 : Nat → Int64} {fD : Nat → UInt64} {H : Heap} {locs : List Loc} {ls : Array Slot} (F : Fx G p s m c cL_law 9 RL A) (gM : MG G) (hNC : NcG G) (hSG : SG G ks kv) (pv : PV G) (hD : DGs G d1 d2) (hst : l.stackTraces = false) (hX : va_X b L xs s s.heap) (hbA : ¬ A b) (hbl : b < s.heap.size) (hL : L ≤ 2560) (hi : i + 5 ≤ L) (hR1 : 60 ≤ R.frames) (hR2 : 3000 ≤ R.locals) (hc1 : cells + 20 ≤ R.cells) (hs1 : slots + 200 ≤ R.slots) (hN : N < 2 ^ 29) (h : Top N K S C cu ct hs sv ou M) (w : Wd G A s.heap (fl (wAll G.2.1 ad K S Fc C D B cu ct hs sv ou fo f0 fd fD mo M)) H locs) (hl : lv_has ls 9 [(5, .int (nI i)), (4, .ref fd), (3, .ref fo), (2, .ref (mo 0)), (1, .ref ((ad 0) 0)), (0, .ref b)]) (kk : KKc G p l e R s m args below meth c A Q ad fo fd mo b i N cells slots) : W p l e R s m args below meth c H locs cells slots Q (F0 m 1267 ls []) := by
  have w : Wd G A s.heap (fl [wXo G.2.1 (ad 0) (xF ad) (svV sv) K, wSh G.2.1 (ad 1) S, wSh G.2.1 (ad 2) Fc, wTe G.2.1 (ad 4) C, wSb G.2.1 (ad 5) ou, wAd G.2.1 (ad 6) D, wAb G.2.1 (ad 7) B, wHo G.2.1 (ad 3) cu ct hs, [(fo, .inl (G.2.1 4, 1, .inr (.inl f0)))], [(fd, .inl (G.2.1 5, 1, .inr (.inr (.inr (.inl fD)))))], wMo G.2.1 mo M, hsL G.2.1 hs, blk G.2.1 sv]) H locs := w
  refine lv_aload_n F.x F.b dL_law_1267 rfl (lv_at hl 4 rfl) ?_
  refine lv_aload_n F.x F.b dL_law_1268 rfl (lv_at hl 5 rfl) ?_
  refine lv_iload F.x F.b dL_law_1269 (lv_at hl 0 rfl) ?_
  refine lv_iconst (v := 1) F.x F.b dL_law_1271 (by decide) ?_
  refine lv_iadd F.x F.b dL_law_1272 ?_
  refine rX F w hX hbA hbl (k := i + 1) (nI_add i 1) (by omega) hL dL_law_1273 ?_
  refine lv_aload_n F.x F.b dL_law_1274 rfl (lv_at hl 2 rfl) ?_
  refine kLi F w hst (LC := [wXo G.2.1 (ad 0) (xF ad) (svV sv) K, wSh G.2.1 (ad 1) S, wSh G.2.1 (ad 2) Fc, wTe G.2.1 (ad 4) C, wSb G.2.1 (ad 5) ou, wAd G.2.1 (ad 6) D, wAb G.2.1 (ad 7) B, wHo G.2.1 (ad 3) cu ct hs, [(fo, .inl (G.2.1 4, 1, .inr (.inl f0)))], hsL G.2.1 hs, blk G.2.1 sv]) (LR := [[(fd, .inl (G.2.1 5, 1, .inr (.inr (.inr (.inl fD)))))], wMo G.2.1 mo M]) (As := [.ref ((ad 0) 0), .int (xs (i + 1)), .ref fo]) (rest := []) (l_lotByValue F.1 gM hNC h) mh_lotByValue vh_lotByValue (List.mem_of_getElem? (i := 1131) (by decide +kernel)) 13 [0, 1, 2, 3, 4, 5, 6, 7, 8, 11, 12, 9, 10] rfl rfl rfl ⟨by omega, by omega⟩ rfl hl.1 rfl (Nat.le_of_ble_eq_true rfl) dL_law_1275 ⟨by omega, by omega⟩ (fun r8 w1 H locs h9 w => ?_)
  obtain ⟨K1, S1, Fc1, C1, D1, B1, cu1, ct1, hs1, sv1, ou1, M1, b1, f1, h9, e2, e3, e4, hf⟩ := h9
  have w := w.jn (L1 := [wXo G.2.1 (ad 0) (xF ad) (svV sv1) K1, wSh G.2.1 (ad 1) S1, wSh G.2.1 (ad 2) Fc1, wTe G.2.1 (ad 4) C1, wSb G.2.1 (ad 5) ou1, wAd G.2.1 (ad 6) D1, wAb G.2.1 (ad 7) B1, wHo G.2.1 (ad 3) cu1 ct1 hs1, [(fo, .inl (G.2.1 4, 1, .inr (.inl f1)))], hsL G.2.1 hs1, blk G.2.1 sv1]) (L' := [wXo G.2.1 (ad 0) (xF ad) (svV sv1) K1, wSh G.2.1 (ad 1) S1, wSh G.2.1 (ad 2) Fc1, wTe G.2.1 (ad 4) C1, wSb G.2.1 (ad 5) ou1, wAd G.2.1 (ad 6) D1, wAb G.2.1 (ad 7) B1, wHo G.2.1 (ad 3) cu1 ct1 hs1, [(fo, .inl (G.2.1 4, 1, .inr (.inl f1)))], [(fd, .inl (G.2.1 5, 1, .inr (.inr (.inr (.inl fD)))))], wMo G.2.1 mo M, hsL G.2.1 hs1, blk G.2.1 sv1]) h9 13 [0, 1, 2, 3, 4, 5, 6, 7, 8, 11, 12, 9, 10] rfl rfl rfl
  have w : Wd G A s.heap (fl [wXo G.2.1 (ad 0) (xF ad) (svV sv1) K1, wSh G.2.1 (ad 1) S1, wSh G.2.1 (ad 2) Fc1, wTe G.2.1 (ad 4) C1, wSb G.2.1 (ad 5) ou1, wAd G.2.1 (ad 6) D1, wAb G.2.1 (ad 7) B1, wHo G.2.1 (ad 3) cu1 ct1 hs1, [(fo, .inl (G.2.1 4, 1, .inr (.inl f1)))], [(fd, .inl (G.2.1 5, 1, .inr (.inr (.inr (.inl fD)))))], wMo G.2.1 mo M, hsL G.2.1 hs1, blk G.2.1 sv1]) _ _ := w
  refine lv_istore (lv' := [(6, .int r8), (5, .int (nI i)), (4, .ref fd), (3, .ref fo), (2, .ref (mo 0)), (1, .ref ((ad 0) 0)), (0, .ref b)]) F.x F.b dL_law_1278 hl (by decide) rfl (fun ls hl => ?_)
  refine lv_aload_n F.x F.b dL_law_1280 rfl (lv_at hl 4 rfl) ?_
  refine lv_aload_n F.x F.b dL_law_1281 rfl (lv_at hl 6 rfl) ?_
  refine lv_iload F.x F.b dL_law_1282 (lv_at hl 1 rfl) ?_
  refine lv_iconst (v := 1) F.x F.b dL_law_1284 (by decide) ?_
  refine lv_iadd F.x F.b dL_law_1285 ?_
  refine rX F w hX hbA hbl (k := i + 1) (nI_add i 1) (by omega) hL dL_law_1286 ?_
  refine kXi F w hst (LC := [wMo G.2.1 mo M]) (LR := [wXo G.2.1 (ad 0) (xF ad) (svV sv1) K1, wSh G.2.1 (ad 1) S1, wSh G.2.1 (ad 2) Fc1, wTe G.2.1 (ad 4) C1, wSb G.2.1 (ad 5) ou1, wAd G.2.1 (ad 6) D1, wAb G.2.1 (ad 7) B1, wHo G.2.1 (ad 3) cu1 ct1 hs1, [(fo, .inl (G.2.1 4, 1, .inr (.inl f1)))], [(fd, .inl (G.2.1 5, 1, .inr (.inr (.inr (.inl fD)))))], hsL G.2.1 hs1, blk G.2.1 sv1]) (As := [.int (xs (i + 1))]) (rest := []) (t_X7_lotByValue F.1 e2).toX m_X7_lotByValue v_X7_lotByValue q1759 (ci := 11) (q0 := 40) rfl rfl rfl 13 [10, 0, 1, 2, 3, 4, 5, 6, 7, 8, 9, 11, 12] rfl rfl rfl ⟨by omega, by omega⟩ rfl hl.1 rfl (Nat.le_of_ble_eq_true rfl) dL_law_1287 ⟨by omega, by omega⟩ (fun _ _ _ _ _ _ hx => False.elim hx) (fun r9 w1 H locs h9 w => ?_)
  obtain ⟨hb9, h9⟩ := h9
  have w := w.jn (L1 := [wMo G.2.1 mo M1]) (L' := [wXo G.2.1 (ad 0) (xF ad) (svV sv1) K1, wSh G.2.1 (ad 1) S1, wSh G.2.1 (ad 2) Fc1, wTe G.2.1 (ad 4) C1, wSb G.2.1 (ad 5) ou1, wAd G.2.1 (ad 6) D1, wAb G.2.1 (ad 7) B1, wHo G.2.1 (ad 3) cu1 ct1 hs1, [(fo, .inl (G.2.1 4, 1, .inr (.inl f1)))], [(fd, .inl (G.2.1 5, 1, .inr (.inr (.inr (.inl fD)))))], wMo G.2.1 mo M1, hsL G.2.1 hs1, blk G.2.1 sv1]) h9 13 [1, 2, 3, 4, 5, 6, 7, 8, 9, 10, 0, 11, 12] rfl rfl rfl
  rw [hb9]
  have w : Wd G A s.heap (fl [wXo G.2.1 (ad 0) (xF ad) (svV sv1) K1, wSh G.2.1 (ad 1) S1, wSh G.2.1 (ad 2) Fc1, wTe G.2.1 (ad 4) C1, wSb G.2.1 (ad 5) ou1, wAd G.2.1 (ad 6) D1, wAb G.2.1 (ad 7) B1, wHo G.2.1 (ad 3) cu1 ct1 hs1, [(fo, .inl (G.2.1 4, 1, .inr (.inl f1)))], [(fd, .inl (G.2.1 5, 1, .inr (.inr (.inr (.inl fD)))))], wMo G.2.1 mo M1, hsL G.2.1 hs1, blk G.2.1 sv1]) _ _ := w
  refine lv_istore (lv' := [(7, .int b1), (6, .int r8), (5, .int (nI i)), (4, .ref fd), (3, .ref fo), (2, .ref (mo 0)), (1, .ref ((ad 0) 0)), (0, .ref b)]) F.x F.b dL_law_1290 hl (by decide) rfl (fun ls hl => ?_)
  refine lv_aload_n F.x F.b dL_law_1292 rfl (lv_at hl 5 rfl) ?_
  refine kXi F w hst (LC := [wMo G.2.1 mo M1]) (LR := [wXo G.2.1 (ad 0) (xF ad) (svV sv1) K1, wSh G.2.1 (ad 1) S1, wSh G.2.1 (ad 2) Fc1, wTe G.2.1 (ad 4) C1, wSb G.2.1 (ad 5) ou1, wAd G.2.1 (ad 6) D1, wAb G.2.1 (ad 7) B1, wHo G.2.1 (ad 3) cu1 ct1 hs1, [(fo, .inl (G.2.1 4, 1, .inr (.inl f1)))], [(fd, .inl (G.2.1 5, 1, .inr (.inr (.inr (.inl fD)))))], hsL G.2.1 hs1, blk G.2.1 sv1]) (As := []) (rest := []) (t_X7_thrown F.1 (r := r8) (show f_X7_thrown M1 = some r8 from by rw [f_X7_thrown, e3])).toX m_X7_thrown v_X7_thrown q1614 (ci := 11) (q0 := 40) rfl rfl rfl 13 [10, 0, 1, 2, 3, 4, 5, 6, 7, 8, 9, 11, 12] rfl rfl rfl ⟨by omega, by omega⟩ rfl hl.1 rfl (Nat.le_of_ble_eq_true rfl) dL_law_1293 ⟨by omega, by omega⟩ (fun _ _ _ _ _ _ hx => False.elim hx) (fun r9 w1 H locs h9 w => ?_)
  obtain ⟨hb8, h9⟩ := h9
  have w := w.jn (L1 := [wMo G.2.1 mo M1]) (L' := [wXo G.2.1 (ad 0) (xF ad) (svV sv1) K1, wSh G.2.1 (ad 1) S1, wSh G.2.1 (ad 2) Fc1, wTe G.2.1 (ad 4) C1, wSb G.2.1 (ad 5) ou1, wAd G.2.1 (ad 6) D1, wAb G.2.1 (ad 7) B1, wHo G.2.1 (ad 3) cu1 ct1 hs1, [(fo, .inl (G.2.1 4, 1, .inr (.inl f1)))], [(fd, .inl (G.2.1 5, 1, .inr (.inr (.inr (.inl fD)))))], wMo G.2.1 mo M1, hsL G.2.1 hs1, blk G.2.1 sv1]) h9 13 [1, 2, 3, 4, 5, 6, 7, 8, 9, 10, 0, 11, 12] rfl rfl rfl
  rw [hb8]
  have w : Wd G A s.heap (fl [wXo G.2.1 (ad 0) (xF ad) (svV sv1) K1, wSh G.2.1 (ad 1) S1, wSh G.2.1 (ad 2) Fc1, wTe G.2.1 (ad 4) C1, wSb G.2.1 (ad 5) ou1, wAd G.2.1 (ad 6) D1, wAb G.2.1 (ad 7) B1, wHo G.2.1 (ad 3) cu1 ct1 hs1, [(fo, .inl (G.2.1 4, 1, .inr (.inl f1)))], [(fd, .inl (G.2.1 5, 1, .inr (.inr (.inr (.inl fD)))))], wMo G.2.1 mo M1, hsL G.2.1 hs1, blk G.2.1 sv1]) _ _ := w
  refine lv_iload F.x F.b dL_law_1296 (lv_at hl 1 rfl) ?_
  refine lv_icmp_eq (tgt := 1303) F.x F.b dL_law_1298 (by decide) (fun _ => ?_) (fun c9 => absurd rfl c9)
  refine lv_iload F.x F.b dL_law_1303 (lv_at hl 1 rfl) ?_
  by_cases hr : r8 = 0
  · refine lv_if_ne (tgt := 1320) F.x F.b dL_law_1305 (by decide) (fun c9 => absurd hr c9) (fun _ => ?_)
    refine lv_aload_n F.x F.b dL_law_1308 rfl (lv_at hl 4 rfl) ?_
    refine lv_iconst (v := 0) F.x F.b dL_law_1309 (by decide) ?_
    refine rLl F w 38 rfl (by decide) (v := Int32.toInt64 b1) (by rw [sb_cl0]; exact hf hr) dL_law_1310 ?_
    refine lv_iload F.x F.b dL_law_1311 (lv_at hl 0 rfl) ?_
    refine lv_i2l (v := (Int32.toInt64 b1)) F.x F.b dL_law_1313 rfl ?_
    refine rLc F.x F.b rfl dL_law_1314 ?_
    refine lv_if_eq (tgt := 1320) F.x F.b dL_law_1315 (by decide) (fun _ => ?_) (fun c9 => absurd rfl c9)
    refine lv_goto (tgt := 2836) F.x F.b dL_law_1320 (by decide) ?_
    refine W.widen (k := cells + 20) (n := slots + 200) (by omega) (by omega) ?_
    exact kk K1 S1 Fc1 C1 D1 B1 cu1 ct1 hs1 sv1 ou1 M1 f1 fD _ _ _ w e4 (lv_sub hl [2, 3, 4, 5, 6, 7] rfl)
  · refine lv_if_ne (tgt := 1320) F.x F.b dL_law_1305 (by decide) (fun _ => ?_) (fun c9 => absurd c9 hr)
    refine lv_goto (tgt := 2836) F.x F.b dL_law_1320 (by decide) ?_
    refine W.widen (k := cells + 20) (n := slots + 200) (by omega) (by omega) ?_
    exact kk K1 S1 Fc1 C1 D1 B1 cu1 ct1 hs1 sv1 ou1 M1 f1 fD _ _ _ w e4 (lv_sub hl [2, 3, 4, 5, 6, 7] rfl)
set_option maxRecDepth 100000 in
set_option maxHeartbeats 4000000 in
theorem cs_18 {G : cG} {p : Program} {l : Launch} {e : Env} {R : Room} {s : State} {m : MethodId} {args : Array Value} {below : List Frame} {meth : Method} {c : Code} {A : Nat → Prop} {Q : State → Prop} {ad : Nat → Nat → Nat} {fo fd : Nat} {mo : Nat → Nat} {b i L N cells slots : Nat} {xs : Nat → Int32} {ks kv : Nat → Nat} {d1 d2 : Nat} {K S Fc C D B : Mem} {cu ct : Nat} {hs : hS} {sv : sV} {ou : oB} {M : Mem} {f0 : Nat → Int64} {fD : Nat → UInt64} {H : Heap} {locs : List Loc} {ls : Array Slot} (F : Fx G p s m c cL_law 9 RL A) (gM : MG G) (hNC : NcG G) (hSG : SG G ks kv) (pv : PV G) (hD : DGs G d1 d2) (hst : l.stackTraces = false) (hX : va_X b L xs s s.heap) (hbA : ¬ A b) (hbl : b < s.heap.size) (hL : L ≤ 2560) (hi : i + 5 ≤ L) (hR1 : 60 ≤ R.frames) (hR2 : 3000 ≤ R.locals) (hc1 : cells + 20 ≤ R.cells) (hs1 : slots + 200 ≤ R.slots) (hN : N < 2 ^ 29) (h : Top N K S C cu ct hs sv ou M) (w : Wd G A s.heap (fl (wAll G.2.1 ad K S Fc C D B cu ct hs sv ou fo f0 fd fD mo M)) H locs) (hl : lv_has ls 9 [(5, .int (nI i)), (4, .ref fd), (3, .ref fo), (2, .ref (mo 0)), (1, .ref ((ad 0) 0)), (0, .ref b)]) (kk : KKc G p l e R s m args below meth c A Q ad fo fd mo b i N cells slots) : W p l e R s m args below meth c H locs cells slots Q (F0 m 1323 ls []) := by
  have w : Wd G A s.heap (fl [wXo G.2.1 (ad 0) (xF ad) (svV sv) K, wSh G.2.1 (ad 1) S, wSh G.2.1 (ad 2) Fc, wTe G.2.1 (ad 4) C, wSb G.2.1 (ad 5) ou, wAd G.2.1 (ad 6) D, wAb G.2.1 (ad 7) B, wHo G.2.1 (ad 3) cu ct hs, [(fo, .inl (G.2.1 4, 1, .inr (.inl f0)))], [(fd, .inl (G.2.1 5, 1, .inr (.inr (.inr (.inl fD)))))], wMo G.2.1 mo M, hsL G.2.1 hs, blk G.2.1 sv]) H locs := w
  refine lv_aload_n F.x F.b dL_law_1323 rfl (lv_at hl 4 rfl) ?_
  refine lv_aload_n F.x F.b dL_law_1324 rfl (lv_at hl 5 rfl) ?_
  refine lv_iload F.x F.b dL_law_1325 (lv_at hl 0 rfl) ?_
  refine lv_iconst (v := 1) F.x F.b dL_law_1327 (by decide) ?_
  refine lv_iadd F.x F.b dL_law_1328 ?_
  refine rX F w hX hbA hbl (k := i + 1) (nI_add i 1) (by omega) hL dL_law_1329 ?_
  refine lv_aload_n F.x F.b dL_law_1330 rfl (lv_at hl 5 rfl) ?_
  refine lv_iload F.x F.b dL_law_1331 (lv_at hl 0 rfl) ?_
  refine lv_iconst (v := 2) F.x F.b dL_law_1333 (by decide) ?_
  refine lv_iadd F.x F.b dL_law_1334 ?_
  refine rX F w hX hbA hbl (k := i + 2) (nI_add i 2) (by omega) hL dL_law_1335 ?_
  refine lv_aload_n F.x F.b dL_law_1336 rfl (lv_at hl 2 rfl) ?_
  refine kLi F w hst (LC := [wXo G.2.1 (ad 0) (xF ad) (svV sv) K, wSh G.2.1 (ad 1) S, wSh G.2.1 (ad 2) Fc, wTe G.2.1 (ad 4) C, wSb G.2.1 (ad 5) ou, wAd G.2.1 (ad 6) D, wAb G.2.1 (ad 7) B, wHo G.2.1 (ad 3) cu ct hs, [(fo, .inl (G.2.1 4, 1, .inr (.inl f0)))], hsL G.2.1 hs, blk G.2.1 sv]) (LR := [[(fd, .inl (G.2.1 5, 1, .inr (.inr (.inr (.inl fD)))))], wMo G.2.1 mo M]) (As := [.ref ((ad 0) 0), .int (xs (i + 1)), .int (xs (i + 2)), .ref fo]) (rest := []) (l_addStep F.1 gM hNC h hN) mh_addStep vh_addStep (List.mem_of_getElem? (i := 1149) (by decide +kernel)) 13 [0, 1, 2, 3, 4, 5, 6, 7, 8, 11, 12, 9, 10] rfl rfl rfl ⟨by omega, by omega⟩ rfl hl.1 rfl (Nat.le_of_ble_eq_true rfl) dL_law_1337 ⟨by omega, by omega⟩ (fun r8 w1 H locs h9 w => ?_)
  obtain ⟨K1, S1, Fc1, C1, D1, B1, cu1, ct1, hs1, sv1, ou1, M1, b1, f1, h9, e2, e3, e4, hf⟩ := h9
  have w := w.jn (L1 := [wXo G.2.1 (ad 0) (xF ad) (svV sv1) K1, wSh G.2.1 (ad 1) S1, wSh G.2.1 (ad 2) Fc1, wTe G.2.1 (ad 4) C1, wSb G.2.1 (ad 5) ou1, wAd G.2.1 (ad 6) D1, wAb G.2.1 (ad 7) B1, wHo G.2.1 (ad 3) cu1 ct1 hs1, [(fo, .inl (G.2.1 4, 1, .inr (.inl f1)))], hsL G.2.1 hs1, blk G.2.1 sv1]) (L' := [wXo G.2.1 (ad 0) (xF ad) (svV sv1) K1, wSh G.2.1 (ad 1) S1, wSh G.2.1 (ad 2) Fc1, wTe G.2.1 (ad 4) C1, wSb G.2.1 (ad 5) ou1, wAd G.2.1 (ad 6) D1, wAb G.2.1 (ad 7) B1, wHo G.2.1 (ad 3) cu1 ct1 hs1, [(fo, .inl (G.2.1 4, 1, .inr (.inl f1)))], [(fd, .inl (G.2.1 5, 1, .inr (.inr (.inr (.inl fD)))))], wMo G.2.1 mo M, hsL G.2.1 hs1, blk G.2.1 sv1]) h9 13 [0, 1, 2, 3, 4, 5, 6, 7, 8, 11, 12, 9, 10] rfl rfl rfl
  have w : Wd G A s.heap (fl [wXo G.2.1 (ad 0) (xF ad) (svV sv1) K1, wSh G.2.1 (ad 1) S1, wSh G.2.1 (ad 2) Fc1, wTe G.2.1 (ad 4) C1, wSb G.2.1 (ad 5) ou1, wAd G.2.1 (ad 6) D1, wAb G.2.1 (ad 7) B1, wHo G.2.1 (ad 3) cu1 ct1 hs1, [(fo, .inl (G.2.1 4, 1, .inr (.inl f1)))], [(fd, .inl (G.2.1 5, 1, .inr (.inr (.inr (.inl fD)))))], wMo G.2.1 mo M, hsL G.2.1 hs1, blk G.2.1 sv1]) _ _ := w
  refine lv_istore (lv' := [(6, .int r8), (5, .int (nI i)), (4, .ref fd), (3, .ref fo), (2, .ref (mo 0)), (1, .ref ((ad 0) 0)), (0, .ref b)]) F.x F.b dL_law_1340 hl (by decide) rfl (fun ls hl => ?_)
  refine lv_aload_n F.x F.b dL_law_1342 rfl (lv_at hl 4 rfl) ?_
  refine lv_aload_n F.x F.b dL_law_1343 rfl (lv_at hl 6 rfl) ?_
  refine lv_iload F.x F.b dL_law_1344 (lv_at hl 1 rfl) ?_
  refine lv_iconst (v := 1) F.x F.b dL_law_1346 (by decide) ?_
  refine lv_iadd F.x F.b dL_law_1347 ?_
  refine rX F w hX hbA hbl (k := i + 1) (nI_add i 1) (by omega) hL dL_law_1348 ?_
  refine lv_aload_n F.x F.b dL_law_1349 rfl (lv_at hl 6 rfl) ?_
  refine lv_iload F.x F.b dL_law_1350 (lv_at hl 1 rfl) ?_
  refine lv_iconst (v := 2) F.x F.b dL_law_1352 (by decide) ?_
  refine lv_iadd F.x F.b dL_law_1353 ?_
  refine rX F w hX hbA hbl (k := i + 2) (nI_add i 2) (by omega) hL dL_law_1354 ?_
  refine kXi F w hst (LC := [wMo G.2.1 mo M]) (LR := [wXo G.2.1 (ad 0) (xF ad) (svV sv1) K1, wSh G.2.1 (ad 1) S1, wSh G.2.1 (ad 2) Fc1, wTe G.2.1 (ad 4) C1, wSb G.2.1 (ad 5) ou1, wAd G.2.1 (ad 6) D1, wAb G.2.1 (ad 7) B1, wHo G.2.1 (ad 3) cu1 ct1 hs1, [(fo, .inl (G.2.1 4, 1, .inr (.inl f1)))], [(fd, .inl (G.2.1 5, 1, .inr (.inr (.inr (.inl fD)))))], hsL G.2.1 hs1, blk G.2.1 sv1]) (As := [.int (xs (i + 1)), .int (xs (i + 2))]) (rest := []) (t_X7_addStep F.1 e2).toX m_X7_addStep v_X7_addStep q1767 (ci := 11) (q0 := 40) rfl rfl rfl 13 [10, 0, 1, 2, 3, 4, 5, 6, 7, 8, 9, 11, 12] rfl rfl rfl ⟨by omega, by omega⟩ rfl hl.1 rfl (Nat.le_of_ble_eq_true rfl) dL_law_1355 ⟨by omega, by omega⟩ (fun _ _ _ _ _ _ hx => False.elim hx) (fun r9 w1 H locs h9 w => ?_)
  obtain ⟨hb9, h9⟩ := h9
  have w := w.jn (L1 := [wMo G.2.1 mo M1]) (L' := [wXo G.2.1 (ad 0) (xF ad) (svV sv1) K1, wSh G.2.1 (ad 1) S1, wSh G.2.1 (ad 2) Fc1, wTe G.2.1 (ad 4) C1, wSb G.2.1 (ad 5) ou1, wAd G.2.1 (ad 6) D1, wAb G.2.1 (ad 7) B1, wHo G.2.1 (ad 3) cu1 ct1 hs1, [(fo, .inl (G.2.1 4, 1, .inr (.inl f1)))], [(fd, .inl (G.2.1 5, 1, .inr (.inr (.inr (.inl fD)))))], wMo G.2.1 mo M1, hsL G.2.1 hs1, blk G.2.1 sv1]) h9 13 [1, 2, 3, 4, 5, 6, 7, 8, 9, 10, 0, 11, 12] rfl rfl rfl
  rw [hb9]
  have w : Wd G A s.heap (fl [wXo G.2.1 (ad 0) (xF ad) (svV sv1) K1, wSh G.2.1 (ad 1) S1, wSh G.2.1 (ad 2) Fc1, wTe G.2.1 (ad 4) C1, wSb G.2.1 (ad 5) ou1, wAd G.2.1 (ad 6) D1, wAb G.2.1 (ad 7) B1, wHo G.2.1 (ad 3) cu1 ct1 hs1, [(fo, .inl (G.2.1 4, 1, .inr (.inl f1)))], [(fd, .inl (G.2.1 5, 1, .inr (.inr (.inr (.inl fD)))))], wMo G.2.1 mo M1, hsL G.2.1 hs1, blk G.2.1 sv1]) _ _ := w
  refine lv_istore (lv' := [(7, .int b1), (6, .int r8), (5, .int (nI i)), (4, .ref fd), (3, .ref fo), (2, .ref (mo 0)), (1, .ref ((ad 0) 0)), (0, .ref b)]) F.x F.b dL_law_1358 hl (by decide) rfl (fun ls hl => ?_)
  refine lv_aload_n F.x F.b dL_law_1360 rfl (lv_at hl 5 rfl) ?_
  refine kXi F w hst (LC := [wMo G.2.1 mo M1]) (LR := [wXo G.2.1 (ad 0) (xF ad) (svV sv1) K1, wSh G.2.1 (ad 1) S1, wSh G.2.1 (ad 2) Fc1, wTe G.2.1 (ad 4) C1, wSb G.2.1 (ad 5) ou1, wAd G.2.1 (ad 6) D1, wAb G.2.1 (ad 7) B1, wHo G.2.1 (ad 3) cu1 ct1 hs1, [(fo, .inl (G.2.1 4, 1, .inr (.inl f1)))], [(fd, .inl (G.2.1 5, 1, .inr (.inr (.inr (.inl fD)))))], hsL G.2.1 hs1, blk G.2.1 sv1]) (As := []) (rest := []) (t_X7_thrown F.1 (r := r8) (show f_X7_thrown M1 = some r8 from by rw [f_X7_thrown, e3])).toX m_X7_thrown v_X7_thrown q1614 (ci := 11) (q0 := 40) rfl rfl rfl 13 [10, 0, 1, 2, 3, 4, 5, 6, 7, 8, 9, 11, 12] rfl rfl rfl ⟨by omega, by omega⟩ rfl hl.1 rfl (Nat.le_of_ble_eq_true rfl) dL_law_1361 ⟨by omega, by omega⟩ (fun _ _ _ _ _ _ hx => False.elim hx) (fun r9 w1 H locs h9 w => ?_)
  obtain ⟨hb8, h9⟩ := h9
  have w := w.jn (L1 := [wMo G.2.1 mo M1]) (L' := [wXo G.2.1 (ad 0) (xF ad) (svV sv1) K1, wSh G.2.1 (ad 1) S1, wSh G.2.1 (ad 2) Fc1, wTe G.2.1 (ad 4) C1, wSb G.2.1 (ad 5) ou1, wAd G.2.1 (ad 6) D1, wAb G.2.1 (ad 7) B1, wHo G.2.1 (ad 3) cu1 ct1 hs1, [(fo, .inl (G.2.1 4, 1, .inr (.inl f1)))], [(fd, .inl (G.2.1 5, 1, .inr (.inr (.inr (.inl fD)))))], wMo G.2.1 mo M1, hsL G.2.1 hs1, blk G.2.1 sv1]) h9 13 [1, 2, 3, 4, 5, 6, 7, 8, 9, 10, 0, 11, 12] rfl rfl rfl
  rw [hb8]
  have w : Wd G A s.heap (fl [wXo G.2.1 (ad 0) (xF ad) (svV sv1) K1, wSh G.2.1 (ad 1) S1, wSh G.2.1 (ad 2) Fc1, wTe G.2.1 (ad 4) C1, wSb G.2.1 (ad 5) ou1, wAd G.2.1 (ad 6) D1, wAb G.2.1 (ad 7) B1, wHo G.2.1 (ad 3) cu1 ct1 hs1, [(fo, .inl (G.2.1 4, 1, .inr (.inl f1)))], [(fd, .inl (G.2.1 5, 1, .inr (.inr (.inr (.inl fD)))))], wMo G.2.1 mo M1, hsL G.2.1 hs1, blk G.2.1 sv1]) _ _ := w
  refine lv_iload F.x F.b dL_law_1364 (lv_at hl 1 rfl) ?_
  refine lv_icmp_eq (tgt := 1371) F.x F.b dL_law_1366 (by decide) (fun _ => ?_) (fun c9 => absurd rfl c9)
  refine lv_iload F.x F.b dL_law_1371 (lv_at hl 1 rfl) ?_
  by_cases hr : r8 = 0
  · refine lv_if_ne (tgt := 1388) F.x F.b dL_law_1373 (by decide) (fun c9 => absurd hr c9) (fun _ => ?_)
    refine lv_aload_n F.x F.b dL_law_1376 rfl (lv_at hl 4 rfl) ?_
    refine lv_iconst (v := 0) F.x F.b dL_law_1377 (by decide) ?_
    refine rLl F w 38 rfl (by decide) (v := Int32.toInt64 b1) (by rw [sb_cl0]; exact hf hr) dL_law_1378 ?_
    refine lv_iload F.x F.b dL_law_1379 (lv_at hl 0 rfl) ?_
    refine lv_i2l (v := (Int32.toInt64 b1)) F.x F.b dL_law_1381 rfl ?_
    refine rLc F.x F.b rfl dL_law_1382 ?_
    refine lv_if_eq (tgt := 1388) F.x F.b dL_law_1383 (by decide) (fun _ => ?_) (fun c9 => absurd rfl c9)
    refine lv_goto (tgt := 2836) F.x F.b dL_law_1388 (by decide) ?_
    refine W.widen (k := cells + 20) (n := slots + 200) (by omega) (by omega) ?_
    exact kk K1 S1 Fc1 C1 D1 B1 cu1 ct1 hs1 sv1 ou1 M1 f1 fD _ _ _ w e4 (lv_sub hl [2, 3, 4, 5, 6, 7] rfl)
  · refine lv_if_ne (tgt := 1388) F.x F.b dL_law_1373 (by decide) (fun _ => ?_) (fun c9 => absurd c9 hr)
    refine lv_goto (tgt := 2836) F.x F.b dL_law_1388 (by decide) ?_
    refine W.widen (k := cells + 20) (n := slots + 200) (by omega) (by omega) ?_
    exact kk K1 S1 Fc1 C1 D1 B1 cu1 ct1 hs1 sv1 ou1 M1 f1 fD _ _ _ w e4 (lv_sub hl [2, 3, 4, 5, 6, 7] rfl)
