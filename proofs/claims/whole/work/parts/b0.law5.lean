/-! WHAT STANDS AT EVERY PLACE OF THE LAW, 5 -/
theorem cl361_25 : ([(1728, .aload_n 3, 1729), (1729, .iconst 0, 1730), (1730, .laload, 1731), (1731, .iload 6, 1733), (1733, .i2l, 1734), (1734, .lcmp, 1735), (1735, .ifCond .eq 5, 1738), (1738, .iconst 0, 1739), (1739, .ireturn, 1740), (1740, .goto 836, 1743), (1743, .aload_n 1, 1744), (1744, .aload_n 0, 1745), (1745, .iload 4, 1747), (1747, .iconst 1, 1748), (1748, .iadd, 1749), (1749, .iaload, 1750), (1750, .aload_n 0, 1751), (1751, .iload 4, 1753), (1753, .iconst 2, 1754), (1754, .iadd, 1755), (1755, .iaload, 1756), (1756, .aload_n 3, 1757), (1757, .invokestatic 217, 1760), (1760, .istore 5, 1762), (1762, .aload_n 2, 1763), (1763, .aload_n 0, 1764), (1764, .iload 4, 1766), (1766, .iconst 1, 1767), (1767, .iadd, 1768), (1768, .iaload, 1769), (1769, .aload_n 0, 1770), (1770, .iload 4, 1772), (1772, .iconst 2, 1773), (1773, .iadd, 1774), (1774, .iaload, 1775), (1775, .invokevirtual 219, 1778), (1778, .istore 6, 1780), (1780, .aload_n 2, 1781), (1781, .invokevirtual 128, 1784), (1784, .iload 5, 1786)] : List (Nat × Instr × Nat)).all (fun q => decide (pm_code 361 q.1 = some q.2)) = true := by decide +kernel
theorem c361_1728 : pm_code 361 1728 = some (.aload_n 3, 1729) := pm_of cl361_25 0 (q := (1728, .aload_n 3, 1729)) rfl
theorem c361_1729 : pm_code 361 1729 = some (.iconst 0, 1730) := pm_of cl361_25 1 (q := (1729, .iconst 0, 1730)) rfl
theorem c361_1730 : pm_code 361 1730 = some (.laload, 1731) := pm_of cl361_25 2 (q := (1730, .laload, 1731)) rfl
theorem c361_1731 : pm_code 361 1731 = some (.iload 6, 1733) := pm_of cl361_25 3 (q := (1731, .iload 6, 1733)) rfl
theorem c361_1733 : pm_code 361 1733 = some (.i2l, 1734) := pm_of cl361_25 4 (q := (1733, .i2l, 1734)) rfl
theorem c361_1734 : pm_code 361 1734 = some (.lcmp, 1735) := pm_of cl361_25 5 (q := (1734, .lcmp, 1735)) rfl
theorem c361_1735 : pm_code 361 1735 = some (.ifCond .eq 5, 1738) := pm_of cl361_25 6 (q := (1735, .ifCond .eq 5, 1738)) rfl
theorem c361_1738 : pm_code 361 1738 = some (.iconst 0, 1739) := pm_of cl361_25 7 (q := (1738, .iconst 0, 1739)) rfl
theorem c361_1739 : pm_code 361 1739 = some (.ireturn, 1740) := pm_of cl361_25 8 (q := (1739, .ireturn, 1740)) rfl
theorem c361_1740 : pm_code 361 1740 = some (.goto 836, 1743) := pm_of cl361_25 9 (q := (1740, .goto 836, 1743)) rfl
theorem c361_1743 : pm_code 361 1743 = some (.aload_n 1, 1744) := pm_of cl361_25 10 (q := (1743, .aload_n 1, 1744)) rfl
theorem c361_1744 : pm_code 361 1744 = some (.aload_n 0, 1745) := pm_of cl361_25 11 (q := (1744, .aload_n 0, 1745)) rfl
theorem c361_1745 : pm_code 361 1745 = some (.iload 4, 1747) := pm_of cl361_25 12 (q := (1745, .iload 4, 1747)) rfl
theorem c361_1747 : pm_code 361 1747 = some (.iconst 1, 1748) := pm_of cl361_25 13 (q := (1747, .iconst 1, 1748)) rfl
theorem c361_1748 : pm_code 361 1748 = some (.iadd, 1749) := pm_of cl361_25 14 (q := (1748, .iadd, 1749)) rfl
theorem c361_1749 : pm_code 361 1749 = some (.iaload, 1750) := pm_of cl361_25 15 (q := (1749, .iaload, 1750)) rfl
theorem c361_1750 : pm_code 361 1750 = some (.aload_n 0, 1751) := pm_of cl361_25 16 (q := (1750, .aload_n 0, 1751)) rfl
theorem c361_1751 : pm_code 361 1751 = some (.iload 4, 1753) := pm_of cl361_25 17 (q := (1751, .iload 4, 1753)) rfl
theorem c361_1753 : pm_code 361 1753 = some (.iconst 2, 1754) := pm_of cl361_25 18 (q := (1753, .iconst 2, 1754)) rfl
theorem c361_1754 : pm_code 361 1754 = some (.iadd, 1755) := pm_of cl361_25 19 (q := (1754, .iadd, 1755)) rfl
theorem c361_1755 : pm_code 361 1755 = some (.iaload, 1756) := pm_of cl361_25 20 (q := (1755, .iaload, 1756)) rfl
theorem c361_1756 : pm_code 361 1756 = some (.aload_n 3, 1757) := pm_of cl361_25 21 (q := (1756, .aload_n 3, 1757)) rfl
theorem c361_1757 : pm_code 361 1757 = some (.invokestatic 217, 1760) := pm_of cl361_25 22 (q := (1757, .invokestatic 217, 1760)) rfl
theorem c361_1760 : pm_code 361 1760 = some (.istore 5, 1762) := pm_of cl361_25 23 (q := (1760, .istore 5, 1762)) rfl
theorem c361_1762 : pm_code 361 1762 = some (.aload_n 2, 1763) := pm_of cl361_25 24 (q := (1762, .aload_n 2, 1763)) rfl
theorem c361_1763 : pm_code 361 1763 = some (.aload_n 0, 1764) := pm_of cl361_25 25 (q := (1763, .aload_n 0, 1764)) rfl
theorem c361_1764 : pm_code 361 1764 = some (.iload 4, 1766) := pm_of cl361_25 26 (q := (1764, .iload 4, 1766)) rfl
theorem c361_1766 : pm_code 361 1766 = some (.iconst 1, 1767) := pm_of cl361_25 27 (q := (1766, .iconst 1, 1767)) rfl
theorem c361_1767 : pm_code 361 1767 = some (.iadd, 1768) := pm_of cl361_25 28 (q := (1767, .iadd, 1768)) rfl
theorem c361_1768 : pm_code 361 1768 = some (.iaload, 1769) := pm_of cl361_25 29 (q := (1768, .iaload, 1769)) rfl
theorem c361_1769 : pm_code 361 1769 = some (.aload_n 0, 1770) := pm_of cl361_25 30 (q := (1769, .aload_n 0, 1770)) rfl
theorem c361_1770 : pm_code 361 1770 = some (.iload 4, 1772) := pm_of cl361_25 31 (q := (1770, .iload 4, 1772)) rfl
theorem c361_1772 : pm_code 361 1772 = some (.iconst 2, 1773) := pm_of cl361_25 32 (q := (1772, .iconst 2, 1773)) rfl
theorem c361_1773 : pm_code 361 1773 = some (.iadd, 1774) := pm_of cl361_25 33 (q := (1773, .iadd, 1774)) rfl
theorem c361_1774 : pm_code 361 1774 = some (.iaload, 1775) := pm_of cl361_25 34 (q := (1774, .iaload, 1775)) rfl
theorem c361_1775 : pm_code 361 1775 = some (.invokevirtual 219, 1778) := pm_of cl361_25 35 (q := (1775, .invokevirtual 219, 1778)) rfl
theorem c361_1778 : pm_code 361 1778 = some (.istore 6, 1780) := pm_of cl361_25 36 (q := (1778, .istore 6, 1780)) rfl
theorem c361_1780 : pm_code 361 1780 = some (.aload_n 2, 1781) := pm_of cl361_25 37 (q := (1780, .aload_n 2, 1781)) rfl
theorem c361_1781 : pm_code 361 1781 = some (.invokevirtual 128, 1784) := pm_of cl361_25 38 (q := (1781, .invokevirtual 128, 1784)) rfl
theorem c361_1784 : pm_code 361 1784 = some (.iload 5, 1786) := pm_of cl361_25 39 (q := (1784, .iload 5, 1786)) rfl
theorem cl361_26 : ([(1786, .if_icmp .eq 5, 1789), (1789, .iconst 0, 1790), (1790, .ireturn, 1791), (1791, .iload 5, 1793), (1793, .ifCond .ne 15, 1796), (1796, .aload_n 3, 1797), (1797, .iconst 0, 1798), (1798, .laload, 1799), (1799, .iload 6, 1801), (1801, .i2l, 1802), (1802, .lcmp, 1803), (1803, .ifCond .eq 5, 1806), (1806, .iconst 0, 1807), (1807, .ireturn, 1808), (1808, .goto 768, 1811), (1811, .aload_n 1, 1812), (1812, .aload_n 0, 1813), (1813, .iload 4, 1815), (1815, .iconst 1, 1816), (1816, .iadd, 1817), (1817, .iaload, 1818), (1818, .aload_n 0, 1819), (1819, .iload 4, 1821), (1821, .iconst 2, 1822), (1822, .iadd, 1823), (1823, .iaload, 1824), (1824, .aload_n 0, 1825), (1825, .iload 4, 1827), (1827, .iconst 3, 1828), (1828, .iadd, 1829), (1829, .iaload, 1830), (1830, .aload_n 3, 1831), (1831, .invokestatic 220, 1834), (1834, .istore 5, 1836), (1836, .aload_n 2, 1837), (1837, .aload_n 0, 1838), (1838, .iload 4, 1840), (1840, .iconst 1, 1841), (1841, .iadd, 1842), (1842, .iaload, 1843)] : List (Nat × Instr × Nat)).all (fun q => decide (pm_code 361 q.1 = some q.2)) = true := by decide +kernel
theorem c361_1786 : pm_code 361 1786 = some (.if_icmp .eq 5, 1789) := pm_of cl361_26 0 (q := (1786, .if_icmp .eq 5, 1789)) rfl
theorem c361_1789 : pm_code 361 1789 = some (.iconst 0, 1790) := pm_of cl361_26 1 (q := (1789, .iconst 0, 1790)) rfl
theorem c361_1790 : pm_code 361 1790 = some (.ireturn, 1791) := pm_of cl361_26 2 (q := (1790, .ireturn, 1791)) rfl
theorem c361_1791 : pm_code 361 1791 = some (.iload 5, 1793) := pm_of cl361_26 3 (q := (1791, .iload 5, 1793)) rfl
theorem c361_1793 : pm_code 361 1793 = some (.ifCond .ne 15, 1796) := pm_of cl361_26 4 (q := (1793, .ifCond .ne 15, 1796)) rfl
theorem c361_1796 : pm_code 361 1796 = some (.aload_n 3, 1797) := pm_of cl361_26 5 (q := (1796, .aload_n 3, 1797)) rfl
theorem c361_1797 : pm_code 361 1797 = some (.iconst 0, 1798) := pm_of cl361_26 6 (q := (1797, .iconst 0, 1798)) rfl
theorem c361_1798 : pm_code 361 1798 = some (.laload, 1799) := pm_of cl361_26 7 (q := (1798, .laload, 1799)) rfl
theorem c361_1799 : pm_code 361 1799 = some (.iload 6, 1801) := pm_of cl361_26 8 (q := (1799, .iload 6, 1801)) rfl
theorem c361_1801 : pm_code 361 1801 = some (.i2l, 1802) := pm_of cl361_26 9 (q := (1801, .i2l, 1802)) rfl
theorem c361_1802 : pm_code 361 1802 = some (.lcmp, 1803) := pm_of cl361_26 10 (q := (1802, .lcmp, 1803)) rfl
theorem c361_1803 : pm_code 361 1803 = some (.ifCond .eq 5, 1806) := pm_of cl361_26 11 (q := (1803, .ifCond .eq 5, 1806)) rfl
theorem c361_1806 : pm_code 361 1806 = some (.iconst 0, 1807) := pm_of cl361_26 12 (q := (1806, .iconst 0, 1807)) rfl
theorem c361_1807 : pm_code 361 1807 = some (.ireturn, 1808) := pm_of cl361_26 13 (q := (1807, .ireturn, 1808)) rfl
theorem c361_1808 : pm_code 361 1808 = some (.goto 768, 1811) := pm_of cl361_26 14 (q := (1808, .goto 768, 1811)) rfl
theorem c361_1811 : pm_code 361 1811 = some (.aload_n 1, 1812) := pm_of cl361_26 15 (q := (1811, .aload_n 1, 1812)) rfl
theorem c361_1812 : pm_code 361 1812 = some (.aload_n 0, 1813) := pm_of cl361_26 16 (q := (1812, .aload_n 0, 1813)) rfl
theorem c361_1813 : pm_code 361 1813 = some (.iload 4, 1815) := pm_of cl361_26 17 (q := (1813, .iload 4, 1815)) rfl
theorem c361_1815 : pm_code 361 1815 = some (.iconst 1, 1816) := pm_of cl361_26 18 (q := (1815, .iconst 1, 1816)) rfl
theorem c361_1816 : pm_code 361 1816 = some (.iadd, 1817) := pm_of cl361_26 19 (q := (1816, .iadd, 1817)) rfl
theorem c361_1817 : pm_code 361 1817 = some (.iaload, 1818) := pm_of cl361_26 20 (q := (1817, .iaload, 1818)) rfl
theorem c361_1818 : pm_code 361 1818 = some (.aload_n 0, 1819) := pm_of cl361_26 21 (q := (1818, .aload_n 0, 1819)) rfl
theorem c361_1819 : pm_code 361 1819 = some (.iload 4, 1821) := pm_of cl361_26 22 (q := (1819, .iload 4, 1821)) rfl
theorem c361_1821 : pm_code 361 1821 = some (.iconst 2, 1822) := pm_of cl361_26 23 (q := (1821, .iconst 2, 1822)) rfl
theorem c361_1822 : pm_code 361 1822 = some (.iadd, 1823) := pm_of cl361_26 24 (q := (1822, .iadd, 1823)) rfl
theorem c361_1823 : pm_code 361 1823 = some (.iaload, 1824) := pm_of cl361_26 25 (q := (1823, .iaload, 1824)) rfl
theorem c361_1824 : pm_code 361 1824 = some (.aload_n 0, 1825) := pm_of cl361_26 26 (q := (1824, .aload_n 0, 1825)) rfl
theorem c361_1825 : pm_code 361 1825 = some (.iload 4, 1827) := pm_of cl361_26 27 (q := (1825, .iload 4, 1827)) rfl
theorem c361_1827 : pm_code 361 1827 = some (.iconst 3, 1828) := pm_of cl361_26 28 (q := (1827, .iconst 3, 1828)) rfl
theorem c361_1828 : pm_code 361 1828 = some (.iadd, 1829) := pm_of cl361_26 29 (q := (1828, .iadd, 1829)) rfl
theorem c361_1829 : pm_code 361 1829 = some (.iaload, 1830) := pm_of cl361_26 30 (q := (1829, .iaload, 1830)) rfl
theorem c361_1830 : pm_code 361 1830 = some (.aload_n 3, 1831) := pm_of cl361_26 31 (q := (1830, .aload_n 3, 1831)) rfl
theorem c361_1831 : pm_code 361 1831 = some (.invokestatic 220, 1834) := pm_of cl361_26 32 (q := (1831, .invokestatic 220, 1834)) rfl
theorem c361_1834 : pm_code 361 1834 = some (.istore 5, 1836) := pm_of cl361_26 33 (q := (1834, .istore 5, 1836)) rfl
theorem c361_1836 : pm_code 361 1836 = some (.aload_n 2, 1837) := pm_of cl361_26 34 (q := (1836, .aload_n 2, 1837)) rfl
theorem c361_1837 : pm_code 361 1837 = some (.aload_n 0, 1838) := pm_of cl361_26 35 (q := (1837, .aload_n 0, 1838)) rfl
theorem c361_1838 : pm_code 361 1838 = some (.iload 4, 1840) := pm_of cl361_26 36 (q := (1838, .iload 4, 1840)) rfl
theorem c361_1840 : pm_code 361 1840 = some (.iconst 1, 1841) := pm_of cl361_26 37 (q := (1840, .iconst 1, 1841)) rfl
theorem c361_1841 : pm_code 361 1841 = some (.iadd, 1842) := pm_of cl361_26 38 (q := (1841, .iadd, 1842)) rfl
theorem c361_1842 : pm_code 361 1842 = some (.iaload, 1843) := pm_of cl361_26 39 (q := (1842, .iaload, 1843)) rfl
theorem cl361_27 : ([(1843, .aload_n 0, 1844), (1844, .iload 4, 1846), (1846, .iconst 2, 1847), (1847, .iadd, 1848), (1848, .iaload, 1849), (1849, .aload_n 0, 1850), (1850, .iload 4, 1852), (1852, .iconst 3, 1853), (1853, .iadd, 1854), (1854, .iaload, 1855), (1855, .invokevirtual 223, 1858), (1858, .lstore 6, 1860), (1860, .aload_n 2, 1861), (1861, .invokevirtual 128, 1864), (1864, .iload 5, 1866), (1866, .if_icmp .eq 5, 1869), (1869, .iconst 0, 1870), (1870, .ireturn, 1871), (1871, .iload 5, 1873), (1873, .ifCond .ne 14, 1876), (1876, .aload_n 3, 1877), (1877, .iconst 0, 1878), (1878, .laload, 1879), (1879, .lload 6, 1881), (1881, .lcmp, 1882), (1882, .ifCond .eq 5, 1885), (1885, .iconst 0, 1886), (1886, .ireturn, 1887), (1887, .goto 689, 1890), (1890, .aload_n 1, 1891), (1891, .aload_n 0, 1892), (1892, .iload 4, 1894), (1894, .iconst 1, 1895), (1895, .iadd, 1896), (1896, .iaload, 1897), (1897, .aload_n 0, 1898), (1898, .iload 4, 1900), (1900, .iconst 2, 1901), (1901, .iadd, 1902), (1902, .iaload, 1903)] : List (Nat × Instr × Nat)).all (fun q => decide (pm_code 361 q.1 = some q.2)) = true := by decide +kernel
theorem c361_1843 : pm_code 361 1843 = some (.aload_n 0, 1844) := pm_of cl361_27 0 (q := (1843, .aload_n 0, 1844)) rfl
theorem c361_1844 : pm_code 361 1844 = some (.iload 4, 1846) := pm_of cl361_27 1 (q := (1844, .iload 4, 1846)) rfl
theorem c361_1846 : pm_code 361 1846 = some (.iconst 2, 1847) := pm_of cl361_27 2 (q := (1846, .iconst 2, 1847)) rfl
theorem c361_1847 : pm_code 361 1847 = some (.iadd, 1848) := pm_of cl361_27 3 (q := (1847, .iadd, 1848)) rfl
theorem c361_1848 : pm_code 361 1848 = some (.iaload, 1849) := pm_of cl361_27 4 (q := (1848, .iaload, 1849)) rfl
theorem c361_1849 : pm_code 361 1849 = some (.aload_n 0, 1850) := pm_of cl361_27 5 (q := (1849, .aload_n 0, 1850)) rfl
theorem c361_1850 : pm_code 361 1850 = some (.iload 4, 1852) := pm_of cl361_27 6 (q := (1850, .iload 4, 1852)) rfl
theorem c361_1852 : pm_code 361 1852 = some (.iconst 3, 1853) := pm_of cl361_27 7 (q := (1852, .iconst 3, 1853)) rfl
theorem c361_1853 : pm_code 361 1853 = some (.iadd, 1854) := pm_of cl361_27 8 (q := (1853, .iadd, 1854)) rfl
theorem c361_1854 : pm_code 361 1854 = some (.iaload, 1855) := pm_of cl361_27 9 (q := (1854, .iaload, 1855)) rfl
theorem c361_1855 : pm_code 361 1855 = some (.invokevirtual 223, 1858) := pm_of cl361_27 10 (q := (1855, .invokevirtual 223, 1858)) rfl
theorem c361_1858 : pm_code 361 1858 = some (.lstore 6, 1860) := pm_of cl361_27 11 (q := (1858, .lstore 6, 1860)) rfl
theorem c361_1860 : pm_code 361 1860 = some (.aload_n 2, 1861) := pm_of cl361_27 12 (q := (1860, .aload_n 2, 1861)) rfl
theorem c361_1861 : pm_code 361 1861 = some (.invokevirtual 128, 1864) := pm_of cl361_27 13 (q := (1861, .invokevirtual 128, 1864)) rfl
theorem c361_1864 : pm_code 361 1864 = some (.iload 5, 1866) := pm_of cl361_27 14 (q := (1864, .iload 5, 1866)) rfl
theorem c361_1866 : pm_code 361 1866 = some (.if_icmp .eq 5, 1869) := pm_of cl361_27 15 (q := (1866, .if_icmp .eq 5, 1869)) rfl
theorem c361_1869 : pm_code 361 1869 = some (.iconst 0, 1870) := pm_of cl361_27 16 (q := (1869, .iconst 0, 1870)) rfl
theorem c361_1870 : pm_code 361 1870 = some (.ireturn, 1871) := pm_of cl361_27 17 (q := (1870, .ireturn, 1871)) rfl
theorem c361_1871 : pm_code 361 1871 = some (.iload 5, 1873) := pm_of cl361_27 18 (q := (1871, .iload 5, 1873)) rfl
theorem c361_1873 : pm_code 361 1873 = some (.ifCond .ne 14, 1876) := pm_of cl361_27 19 (q := (1873, .ifCond .ne 14, 1876)) rfl
theorem c361_1876 : pm_code 361 1876 = some (.aload_n 3, 1877) := pm_of cl361_27 20 (q := (1876, .aload_n 3, 1877)) rfl
theorem c361_1877 : pm_code 361 1877 = some (.iconst 0, 1878) := pm_of cl361_27 21 (q := (1877, .iconst 0, 1878)) rfl
theorem c361_1878 : pm_code 361 1878 = some (.laload, 1879) := pm_of cl361_27 22 (q := (1878, .laload, 1879)) rfl
theorem c361_1879 : pm_code 361 1879 = some (.lload 6, 1881) := pm_of cl361_27 23 (q := (1879, .lload 6, 1881)) rfl
theorem c361_1881 : pm_code 361 1881 = some (.lcmp, 1882) := pm_of cl361_27 24 (q := (1881, .lcmp, 1882)) rfl
theorem c361_1882 : pm_code 361 1882 = some (.ifCond .eq 5, 1885) := pm_of cl361_27 25 (q := (1882, .ifCond .eq 5, 1885)) rfl
theorem c361_1885 : pm_code 361 1885 = some (.iconst 0, 1886) := pm_of cl361_27 26 (q := (1885, .iconst 0, 1886)) rfl
theorem c361_1886 : pm_code 361 1886 = some (.ireturn, 1887) := pm_of cl361_27 27 (q := (1886, .ireturn, 1887)) rfl
theorem c361_1887 : pm_code 361 1887 = some (.goto 689, 1890) := pm_of cl361_27 28 (q := (1887, .goto 689, 1890)) rfl
theorem c361_1890 : pm_code 361 1890 = some (.aload_n 1, 1891) := pm_of cl361_27 29 (q := (1890, .aload_n 1, 1891)) rfl
theorem c361_1891 : pm_code 361 1891 = some (.aload_n 0, 1892) := pm_of cl361_27 30 (q := (1891, .aload_n 0, 1892)) rfl
theorem c361_1892 : pm_code 361 1892 = some (.iload 4, 1894) := pm_of cl361_27 31 (q := (1892, .iload 4, 1894)) rfl
theorem c361_1894 : pm_code 361 1894 = some (.iconst 1, 1895) := pm_of cl361_27 32 (q := (1894, .iconst 1, 1895)) rfl
theorem c361_1895 : pm_code 361 1895 = some (.iadd, 1896) := pm_of cl361_27 33 (q := (1895, .iadd, 1896)) rfl
theorem c361_1896 : pm_code 361 1896 = some (.iaload, 1897) := pm_of cl361_27 34 (q := (1896, .iaload, 1897)) rfl
theorem c361_1897 : pm_code 361 1897 = some (.aload_n 0, 1898) := pm_of cl361_27 35 (q := (1897, .aload_n 0, 1898)) rfl
theorem c361_1898 : pm_code 361 1898 = some (.iload 4, 1900) := pm_of cl361_27 36 (q := (1898, .iload 4, 1900)) rfl
theorem c361_1900 : pm_code 361 1900 = some (.iconst 2, 1901) := pm_of cl361_27 37 (q := (1900, .iconst 2, 1901)) rfl
theorem c361_1901 : pm_code 361 1901 = some (.iadd, 1902) := pm_of cl361_27 38 (q := (1901, .iadd, 1902)) rfl
theorem c361_1902 : pm_code 361 1902 = some (.iaload, 1903) := pm_of cl361_27 39 (q := (1902, .iaload, 1903)) rfl
theorem cl361_28 : ([(1903, .aload_n 3, 1904), (1904, .invokestatic 224, 1907), (1907, .istore 5, 1909), (1909, .aload_n 2, 1910), (1910, .aload_n 0, 1911), (1911, .iload 4, 1913), (1913, .iconst 1, 1914), (1914, .iadd, 1915), (1915, .iaload, 1916), (1916, .aload_n 0, 1917), (1917, .iload 4, 1919), (1919, .iconst 2, 1920), (1920, .iadd, 1921), (1921, .iaload, 1922), (1922, .invokevirtual 226, 1925), (1925, .istore 6, 1927), (1927, .aload_n 2, 1928), (1928, .invokevirtual 128, 1931), (1931, .iload 5, 1933), (1933, .if_icmp .eq 5, 1936), (1936, .iconst 0, 1937), (1937, .ireturn, 1938), (1938, .iload 5, 1940), (1940, .ifCond .ne 15, 1943), (1943, .aload_n 3, 1944), (1944, .iconst 0, 1945), (1945, .laload, 1946), (1946, .iload 6, 1948), (1948, .i2l, 1949), (1949, .lcmp, 1950), (1950, .ifCond .eq 5, 1953), (1953, .iconst 0, 1954), (1954, .ireturn, 1955), (1955, .goto 621, 1958), (1958, .aload_n 1, 1959), (1959, .aload_n 0, 1960), (1960, .iload 4, 1962), (1962, .iconst 1, 1963), (1963, .iadd, 1964), (1964, .iaload, 1965)] : List (Nat × Instr × Nat)).all (fun q => decide (pm_code 361 q.1 = some q.2)) = true := by decide +kernel
theorem c361_1903 : pm_code 361 1903 = some (.aload_n 3, 1904) := pm_of cl361_28 0 (q := (1903, .aload_n 3, 1904)) rfl
theorem c361_1904 : pm_code 361 1904 = some (.invokestatic 224, 1907) := pm_of cl361_28 1 (q := (1904, .invokestatic 224, 1907)) rfl
theorem c361_1907 : pm_code 361 1907 = some (.istore 5, 1909) := pm_of cl361_28 2 (q := (1907, .istore 5, 1909)) rfl
theorem c361_1909 : pm_code 361 1909 = some (.aload_n 2, 1910) := pm_of cl361_28 3 (q := (1909, .aload_n 2, 1910)) rfl
theorem c361_1910 : pm_code 361 1910 = some (.aload_n 0, 1911) := pm_of cl361_28 4 (q := (1910, .aload_n 0, 1911)) rfl
theorem c361_1911 : pm_code 361 1911 = some (.iload 4, 1913) := pm_of cl361_28 5 (q := (1911, .iload 4, 1913)) rfl
theorem c361_1913 : pm_code 361 1913 = some (.iconst 1, 1914) := pm_of cl361_28 6 (q := (1913, .iconst 1, 1914)) rfl
theorem c361_1914 : pm_code 361 1914 = some (.iadd, 1915) := pm_of cl361_28 7 (q := (1914, .iadd, 1915)) rfl
theorem c361_1915 : pm_code 361 1915 = some (.iaload, 1916) := pm_of cl361_28 8 (q := (1915, .iaload, 1916)) rfl
theorem c361_1916 : pm_code 361 1916 = some (.aload_n 0, 1917) := pm_of cl361_28 9 (q := (1916, .aload_n 0, 1917)) rfl
theorem c361_1917 : pm_code 361 1917 = some (.iload 4, 1919) := pm_of cl361_28 10 (q := (1917, .iload 4, 1919)) rfl
theorem c361_1919 : pm_code 361 1919 = some (.iconst 2, 1920) := pm_of cl361_28 11 (q := (1919, .iconst 2, 1920)) rfl
theorem c361_1920 : pm_code 361 1920 = some (.iadd, 1921) := pm_of cl361_28 12 (q := (1920, .iadd, 1921)) rfl
theorem c361_1921 : pm_code 361 1921 = some (.iaload, 1922) := pm_of cl361_28 13 (q := (1921, .iaload, 1922)) rfl
theorem c361_1922 : pm_code 361 1922 = some (.invokevirtual 226, 1925) := pm_of cl361_28 14 (q := (1922, .invokevirtual 226, 1925)) rfl
theorem c361_1925 : pm_code 361 1925 = some (.istore 6, 1927) := pm_of cl361_28 15 (q := (1925, .istore 6, 1927)) rfl
theorem c361_1927 : pm_code 361 1927 = some (.aload_n 2, 1928) := pm_of cl361_28 16 (q := (1927, .aload_n 2, 1928)) rfl
theorem c361_1928 : pm_code 361 1928 = some (.invokevirtual 128, 1931) := pm_of cl361_28 17 (q := (1928, .invokevirtual 128, 1931)) rfl
theorem c361_1931 : pm_code 361 1931 = some (.iload 5, 1933) := pm_of cl361_28 18 (q := (1931, .iload 5, 1933)) rfl
theorem c361_1933 : pm_code 361 1933 = some (.if_icmp .eq 5, 1936) := pm_of cl361_28 19 (q := (1933, .if_icmp .eq 5, 1936)) rfl
theorem c361_1936 : pm_code 361 1936 = some (.iconst 0, 1937) := pm_of cl361_28 20 (q := (1936, .iconst 0, 1937)) rfl
theorem c361_1937 : pm_code 361 1937 = some (.ireturn, 1938) := pm_of cl361_28 21 (q := (1937, .ireturn, 1938)) rfl
theorem c361_1938 : pm_code 361 1938 = some (.iload 5, 1940) := pm_of cl361_28 22 (q := (1938, .iload 5, 1940)) rfl
theorem c361_1940 : pm_code 361 1940 = some (.ifCond .ne 15, 1943) := pm_of cl361_28 23 (q := (1940, .ifCond .ne 15, 1943)) rfl
theorem c361_1943 : pm_code 361 1943 = some (.aload_n 3, 1944) := pm_of cl361_28 24 (q := (1943, .aload_n 3, 1944)) rfl
theorem c361_1944 : pm_code 361 1944 = some (.iconst 0, 1945) := pm_of cl361_28 25 (q := (1944, .iconst 0, 1945)) rfl
theorem c361_1945 : pm_code 361 1945 = some (.laload, 1946) := pm_of cl361_28 26 (q := (1945, .laload, 1946)) rfl
theorem c361_1946 : pm_code 361 1946 = some (.iload 6, 1948) := pm_of cl361_28 27 (q := (1946, .iload 6, 1948)) rfl
theorem c361_1948 : pm_code 361 1948 = some (.i2l, 1949) := pm_of cl361_28 28 (q := (1948, .i2l, 1949)) rfl
theorem c361_1949 : pm_code 361 1949 = some (.lcmp, 1950) := pm_of cl361_28 29 (q := (1949, .lcmp, 1950)) rfl
theorem c361_1950 : pm_code 361 1950 = some (.ifCond .eq 5, 1953) := pm_of cl361_28 30 (q := (1950, .ifCond .eq 5, 1953)) rfl
theorem c361_1953 : pm_code 361 1953 = some (.iconst 0, 1954) := pm_of cl361_28 31 (q := (1953, .iconst 0, 1954)) rfl
theorem c361_1954 : pm_code 361 1954 = some (.ireturn, 1955) := pm_of cl361_28 32 (q := (1954, .ireturn, 1955)) rfl
theorem c361_1955 : pm_code 361 1955 = some (.goto 621, 1958) := pm_of cl361_28 33 (q := (1955, .goto 621, 1958)) rfl
theorem c361_1958 : pm_code 361 1958 = some (.aload_n 1, 1959) := pm_of cl361_28 34 (q := (1958, .aload_n 1, 1959)) rfl
theorem c361_1959 : pm_code 361 1959 = some (.aload_n 0, 1960) := pm_of cl361_28 35 (q := (1959, .aload_n 0, 1960)) rfl
theorem c361_1960 : pm_code 361 1960 = some (.iload 4, 1962) := pm_of cl361_28 36 (q := (1960, .iload 4, 1962)) rfl
theorem c361_1962 : pm_code 361 1962 = some (.iconst 1, 1963) := pm_of cl361_28 37 (q := (1962, .iconst 1, 1963)) rfl
theorem c361_1963 : pm_code 361 1963 = some (.iadd, 1964) := pm_of cl361_28 38 (q := (1963, .iadd, 1964)) rfl
theorem c361_1964 : pm_code 361 1964 = some (.iaload, 1965) := pm_of cl361_28 39 (q := (1964, .iaload, 1965)) rfl
theorem cl361_29 : ([(1965, .aload_n 0, 1966), (1966, .iload 4, 1968), (1968, .iconst 2, 1969), (1969, .iadd, 1970), (1970, .iaload, 1971), (1971, .aload_n 0, 1972), (1972, .iload 4, 1974), (1974, .iconst 3, 1975), (1975, .iadd, 1976), (1976, .iaload, 1977), (1977, .aload_n 3, 1978), (1978, .invokestatic 227, 1981), (1981, .istore 5, 1983), (1983, .aload_n 2, 1984), (1984, .aload_n 0, 1985), (1985, .iload 4, 1987), (1987, .iconst 1, 1988), (1988, .iadd, 1989), (1989, .iaload, 1990), (1990, .aload_n 0, 1991), (1991, .iload 4, 1993), (1993, .iconst 2, 1994), (1994, .iadd, 1995), (1995, .iaload, 1996), (1996, .aload_n 0, 1997), (1997, .iload 4, 1999), (1999, .iconst 3, 2000), (2000, .iadd, 2001), (2001, .iaload, 2002), (2002, .invokevirtual 229, 2005), (2005, .istore 6, 2007), (2007, .aload_n 2, 2008), (2008, .invokevirtual 128, 2011), (2011, .iload 5, 2013), (2013, .if_icmp .eq 5, 2016), (2016, .iconst 0, 2017), (2017, .ireturn, 2018), (2018, .iload 5, 2020), (2020, .ifCond .ne 15, 2023), (2023, .aload_n 3, 2024)] : List (Nat × Instr × Nat)).all (fun q => decide (pm_code 361 q.1 = some q.2)) = true := by decide +kernel
theorem c361_1965 : pm_code 361 1965 = some (.aload_n 0, 1966) := pm_of cl361_29 0 (q := (1965, .aload_n 0, 1966)) rfl
theorem c361_1966 : pm_code 361 1966 = some (.iload 4, 1968) := pm_of cl361_29 1 (q := (1966, .iload 4, 1968)) rfl
theorem c361_1968 : pm_code 361 1968 = some (.iconst 2, 1969) := pm_of cl361_29 2 (q := (1968, .iconst 2, 1969)) rfl
theorem c361_1969 : pm_code 361 1969 = some (.iadd, 1970) := pm_of cl361_29 3 (q := (1969, .iadd, 1970)) rfl
theorem c361_1970 : pm_code 361 1970 = some (.iaload, 1971) := pm_of cl361_29 4 (q := (1970, .iaload, 1971)) rfl
theorem c361_1971 : pm_code 361 1971 = some (.aload_n 0, 1972) := pm_of cl361_29 5 (q := (1971, .aload_n 0, 1972)) rfl
theorem c361_1972 : pm_code 361 1972 = some (.iload 4, 1974) := pm_of cl361_29 6 (q := (1972, .iload 4, 1974)) rfl
theorem c361_1974 : pm_code 361 1974 = some (.iconst 3, 1975) := pm_of cl361_29 7 (q := (1974, .iconst 3, 1975)) rfl
theorem c361_1975 : pm_code 361 1975 = some (.iadd, 1976) := pm_of cl361_29 8 (q := (1975, .iadd, 1976)) rfl
theorem c361_1976 : pm_code 361 1976 = some (.iaload, 1977) := pm_of cl361_29 9 (q := (1976, .iaload, 1977)) rfl
theorem c361_1977 : pm_code 361 1977 = some (.aload_n 3, 1978) := pm_of cl361_29 10 (q := (1977, .aload_n 3, 1978)) rfl
theorem c361_1978 : pm_code 361 1978 = some (.invokestatic 227, 1981) := pm_of cl361_29 11 (q := (1978, .invokestatic 227, 1981)) rfl
theorem c361_1981 : pm_code 361 1981 = some (.istore 5, 1983) := pm_of cl361_29 12 (q := (1981, .istore 5, 1983)) rfl
theorem c361_1983 : pm_code 361 1983 = some (.aload_n 2, 1984) := pm_of cl361_29 13 (q := (1983, .aload_n 2, 1984)) rfl
theorem c361_1984 : pm_code 361 1984 = some (.aload_n 0, 1985) := pm_of cl361_29 14 (q := (1984, .aload_n 0, 1985)) rfl
theorem c361_1985 : pm_code 361 1985 = some (.iload 4, 1987) := pm_of cl361_29 15 (q := (1985, .iload 4, 1987)) rfl
theorem c361_1987 : pm_code 361 1987 = some (.iconst 1, 1988) := pm_of cl361_29 16 (q := (1987, .iconst 1, 1988)) rfl
theorem c361_1988 : pm_code 361 1988 = some (.iadd, 1989) := pm_of cl361_29 17 (q := (1988, .iadd, 1989)) rfl
theorem c361_1989 : pm_code 361 1989 = some (.iaload, 1990) := pm_of cl361_29 18 (q := (1989, .iaload, 1990)) rfl
theorem c361_1990 : pm_code 361 1990 = some (.aload_n 0, 1991) := pm_of cl361_29 19 (q := (1990, .aload_n 0, 1991)) rfl
theorem c361_1991 : pm_code 361 1991 = some (.iload 4, 1993) := pm_of cl361_29 20 (q := (1991, .iload 4, 1993)) rfl
theorem c361_1993 : pm_code 361 1993 = some (.iconst 2, 1994) := pm_of cl361_29 21 (q := (1993, .iconst 2, 1994)) rfl
theorem c361_1994 : pm_code 361 1994 = some (.iadd, 1995) := pm_of cl361_29 22 (q := (1994, .iadd, 1995)) rfl
theorem c361_1995 : pm_code 361 1995 = some (.iaload, 1996) := pm_of cl361_29 23 (q := (1995, .iaload, 1996)) rfl
theorem c361_1996 : pm_code 361 1996 = some (.aload_n 0, 1997) := pm_of cl361_29 24 (q := (1996, .aload_n 0, 1997)) rfl
theorem c361_1997 : pm_code 361 1997 = some (.iload 4, 1999) := pm_of cl361_29 25 (q := (1997, .iload 4, 1999)) rfl
theorem c361_1999 : pm_code 361 1999 = some (.iconst 3, 2000) := pm_of cl361_29 26 (q := (1999, .iconst 3, 2000)) rfl
theorem c361_2000 : pm_code 361 2000 = some (.iadd, 2001) := pm_of cl361_29 27 (q := (2000, .iadd, 2001)) rfl
theorem c361_2001 : pm_code 361 2001 = some (.iaload, 2002) := pm_of cl361_29 28 (q := (2001, .iaload, 2002)) rfl
theorem c361_2002 : pm_code 361 2002 = some (.invokevirtual 229, 2005) := pm_of cl361_29 29 (q := (2002, .invokevirtual 229, 2005)) rfl
theorem c361_2005 : pm_code 361 2005 = some (.istore 6, 2007) := pm_of cl361_29 30 (q := (2005, .istore 6, 2007)) rfl
theorem c361_2007 : pm_code 361 2007 = some (.aload_n 2, 2008) := pm_of cl361_29 31 (q := (2007, .aload_n 2, 2008)) rfl
theorem c361_2008 : pm_code 361 2008 = some (.invokevirtual 128, 2011) := pm_of cl361_29 32 (q := (2008, .invokevirtual 128, 2011)) rfl
theorem c361_2011 : pm_code 361 2011 = some (.iload 5, 2013) := pm_of cl361_29 33 (q := (2011, .iload 5, 2013)) rfl
theorem c361_2013 : pm_code 361 2013 = some (.if_icmp .eq 5, 2016) := pm_of cl361_29 34 (q := (2013, .if_icmp .eq 5, 2016)) rfl
theorem c361_2016 : pm_code 361 2016 = some (.iconst 0, 2017) := pm_of cl361_29 35 (q := (2016, .iconst 0, 2017)) rfl
theorem c361_2017 : pm_code 361 2017 = some (.ireturn, 2018) := pm_of cl361_29 36 (q := (2017, .ireturn, 2018)) rfl
theorem c361_2018 : pm_code 361 2018 = some (.iload 5, 2020) := pm_of cl361_29 37 (q := (2018, .iload 5, 2020)) rfl
theorem c361_2020 : pm_code 361 2020 = some (.ifCond .ne 15, 2023) := pm_of cl361_29 38 (q := (2020, .ifCond .ne 15, 2023)) rfl
theorem c361_2023 : pm_code 361 2023 = some (.aload_n 3, 2024) := pm_of cl361_29 39 (q := (2023, .aload_n 3, 2024)) rfl
