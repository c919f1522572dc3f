/-! WHAT STANDS AT EVERY PLACE OF THE LAW, 6 -/
theorem cl361_30 : ([(2024, .iconst 0, 2025), (2025, .laload, 2026), (2026, .iload 6, 2028), (2028, .i2l, 2029), (2029, .lcmp, 2030), (2030, .ifCond .eq 5, 2033), (2033, .iconst 0, 2034), (2034, .ireturn, 2035), (2035, .goto 541, 2038), (2038, .aload_n 1, 2039), (2039, .aload_n 0, 2040), (2040, .iload 4, 2042), (2042, .iconst 1, 2043), (2043, .iadd, 2044), (2044, .iaload, 2045), (2045, .aload_n 0, 2046), (2046, .iload 4, 2048), (2048, .iconst 2, 2049), (2049, .iadd, 2050), (2050, .iaload, 2051), (2051, .aload_n 3, 2052), (2052, .invokestatic 230, 2055), (2055, .istore 5, 2057), (2057, .aload_n 2, 2058), (2058, .aload_n 0, 2059), (2059, .iload 4, 2061), (2061, .iconst 1, 2062), (2062, .iadd, 2063), (2063, .iaload, 2064), (2064, .aload_n 0, 2065), (2065, .iload 4, 2067), (2067, .iconst 2, 2068), (2068, .iadd, 2069), (2069, .iaload, 2070), (2070, .invokevirtual 232, 2073), (2073, .istore 6, 2075), (2075, .aload_n 2, 2076), (2076, .invokevirtual 128, 2079), (2079, .iload 5, 2081), (2081, .if_icmp .eq 5, 2084)] : List (Nat × Instr × Nat)).all (fun q => decide (pm_code 361 q.1 = some q.2)) = true := by decide +kernel
theorem c361_2024 : pm_code 361 2024 = some (.iconst 0, 2025) := pm_of cl361_30 0 (q := (2024, .iconst 0, 2025)) rfl
theorem c361_2025 : pm_code 361 2025 = some (.laload, 2026) := pm_of cl361_30 1 (q := (2025, .laload, 2026)) rfl
theorem c361_2026 : pm_code 361 2026 = some (.iload 6, 2028) := pm_of cl361_30 2 (q := (2026, .iload 6, 2028)) rfl
theorem c361_2028 : pm_code 361 2028 = some (.i2l, 2029) := pm_of cl361_30 3 (q := (2028, .i2l, 2029)) rfl
theorem c361_2029 : pm_code 361 2029 = some (.lcmp, 2030) := pm_of cl361_30 4 (q := (2029, .lcmp, 2030)) rfl
theorem c361_2030 : pm_code 361 2030 = some (.ifCond .eq 5, 2033) := pm_of cl361_30 5 (q := (2030, .ifCond .eq 5, 2033)) rfl
theorem c361_2033 : pm_code 361 2033 = some (.iconst 0, 2034) := pm_of cl361_30 6 (q := (2033, .iconst 0, 2034)) rfl
theorem c361_2034 : pm_code 361 2034 = some (.ireturn, 2035) := pm_of cl361_30 7 (q := (2034, .ireturn, 2035)) rfl
theorem c361_2035 : pm_code 361 2035 = some (.goto 541, 2038) := pm_of cl361_30 8 (q := (2035, .goto 541, 2038)) rfl
theorem c361_2038 : pm_code 361 2038 = some (.aload_n 1, 2039) := pm_of cl361_30 9 (q := (2038, .aload_n 1, 2039)) rfl
theorem c361_2039 : pm_code 361 2039 = some (.aload_n 0, 2040) := pm_of cl361_30 10 (q := (2039, .aload_n 0, 2040)) rfl
theorem c361_2040 : pm_code 361 2040 = some (.iload 4, 2042) := pm_of cl361_30 11 (q := (2040, .iload 4, 2042)) rfl
theorem c361_2042 : pm_code 361 2042 = some (.iconst 1, 2043) := pm_of cl361_30 12 (q := (2042, .iconst 1, 2043)) rfl
theorem c361_2043 : pm_code 361 2043 = some (.iadd, 2044) := pm_of cl361_30 13 (q := (2043, .iadd, 2044)) rfl
theorem c361_2044 : pm_code 361 2044 = some (.iaload, 2045) := pm_of cl361_30 14 (q := (2044, .iaload, 2045)) rfl
theorem c361_2045 : pm_code 361 2045 = some (.aload_n 0, 2046) := pm_of cl361_30 15 (q := (2045, .aload_n 0, 2046)) rfl
theorem c361_2046 : pm_code 361 2046 = some (.iload 4, 2048) := pm_of cl361_30 16 (q := (2046, .iload 4, 2048)) rfl
theorem c361_2048 : pm_code 361 2048 = some (.iconst 2, 2049) := pm_of cl361_30 17 (q := (2048, .iconst 2, 2049)) rfl
theorem c361_2049 : pm_code 361 2049 = some (.iadd, 2050) := pm_of cl361_30 18 (q := (2049, .iadd, 2050)) rfl
theorem c361_2050 : pm_code 361 2050 = some (.iaload, 2051) := pm_of cl361_30 19 (q := (2050, .iaload, 2051)) rfl
theorem c361_2051 : pm_code 361 2051 = some (.aload_n 3, 2052) := pm_of cl361_30 20 (q := (2051, .aload_n 3, 2052)) rfl
theorem c361_2052 : pm_code 361 2052 = some (.invokestatic 230, 2055) := pm_of cl361_30 21 (q := (2052, .invokestatic 230, 2055)) rfl
theorem c361_2055 : pm_code 361 2055 = some (.istore 5, 2057) := pm_of cl361_30 22 (q := (2055, .istore 5, 2057)) rfl
theorem c361_2057 : pm_code 361 2057 = some (.aload_n 2, 2058) := pm_of cl361_30 23 (q := (2057, .aload_n 2, 2058)) rfl
theorem c361_2058 : pm_code 361 2058 = some (.aload_n 0, 2059) := pm_of cl361_30 24 (q := (2058, .aload_n 0, 2059)) rfl
theorem c361_2059 : pm_code 361 2059 = some (.iload 4, 2061) := pm_of cl361_30 25 (q := (2059, .iload 4, 2061)) rfl
theorem c361_2061 : pm_code 361 2061 = some (.iconst 1, 2062) := pm_of cl361_30 26 (q := (2061, .iconst 1, 2062)) rfl
theorem c361_2062 : pm_code 361 2062 = some (.iadd, 2063) := pm_of cl361_30 27 (q := (2062, .iadd, 2063)) rfl
theorem c361_2063 : pm_code 361 2063 = some (.iaload, 2064) := pm_of cl361_30 28 (q := (2063, .iaload, 2064)) rfl
theorem c361_2064 : pm_code 361 2064 = some (.aload_n 0, 2065) := pm_of cl361_30 29 (q := (2064, .aload_n 0, 2065)) rfl
theorem c361_2065 : pm_code 361 2065 = some (.iload 4, 2067) := pm_of cl361_30 30 (q := (2065, .iload 4, 2067)) rfl
theorem c361_2067 : pm_code 361 2067 = some (.iconst 2, 2068) := pm_of cl361_30 31 (q := (2067, .iconst 2, 2068)) rfl
theorem c361_2068 : pm_code 361 2068 = some (.iadd, 2069) := pm_of cl361_30 32 (q := (2068, .iadd, 2069)) rfl
theorem c361_2069 : pm_code 361 2069 = some (.iaload, 2070) := pm_of cl361_30 33 (q := (2069, .iaload, 2070)) rfl
theorem c361_2070 : pm_code 361 2070 = some (.invokevirtual 232, 2073) := pm_of cl361_30 34 (q := (2070, .invokevirtual 232, 2073)) rfl
theorem c361_2073 : pm_code 361 2073 = some (.istore 6, 2075) := pm_of cl361_30 35 (q := (2073, .istore 6, 2075)) rfl
theorem c361_2075 : pm_code 361 2075 = some (.aload_n 2, 2076) := pm_of cl361_30 36 (q := (2075, .aload_n 2, 2076)) rfl
theorem c361_2076 : pm_code 361 2076 = some (.invokevirtual 128, 2079) := pm_of cl361_30 37 (q := (2076, .invokevirtual 128, 2079)) rfl
theorem c361_2079 : pm_code 361 2079 = some (.iload 5, 2081) := pm_of cl361_30 38 (q := (2079, .iload 5, 2081)) rfl
theorem c361_2081 : pm_code 361 2081 = some (.if_icmp .eq 5, 2084) := pm_of cl361_30 39 (q := (2081, .if_icmp .eq 5, 2084)) rfl
theorem cl361_31 : ([(2084, .iconst 0, 2085), (2085, .ireturn, 2086), (2086, .iload 5, 2088), (2088, .ifCond .ne 15, 2091), (2091, .aload_n 3, 2092), (2092, .iconst 0, 2093), (2093, .laload, 2094), (2094, .iload 6, 2096), (2096, .i2l, 2097), (2097, .lcmp, 2098), (2098, .ifCond .eq 5, 2101), (2101, .iconst 0, 2102), (2102, .ireturn, 2103), (2103, .goto 473, 2106), (2106, .aload_n 1, 2107), (2107, .aload_n 0, 2108), (2108, .iload 4, 2110), (2110, .iconst 1, 2111), (2111, .iadd, 2112), (2112, .iaload, 2113), (2113, .aload_n 0, 2114), (2114, .iload 4, 2116), (2116, .iconst 2, 2117), (2117, .iadd, 2118), (2118, .iaload, 2119), (2119, .aload_n 0, 2120), (2120, .iload 4, 2122), (2122, .iconst 3, 2123), (2123, .iadd, 2124), (2124, .iaload, 2125), (2125, .aload_n 0, 2126), (2126, .iload 4, 2128), (2128, .iconst 4, 2129), (2129, .iadd, 2130), (2130, .iaload, 2131), (2131, .aload_n 3, 2132), (2132, .invokestatic 233, 2135), (2135, .istore 5, 2137), (2137, .aload_n 2, 2138), (2138, .aload_n 0, 2139)] : List (Nat × Instr × Nat)).all (fun q => decide (pm_code 361 q.1 = some q.2)) = true := by decide +kernel
theorem c361_2084 : pm_code 361 2084 = some (.iconst 0, 2085) := pm_of cl361_31 0 (q := (2084, .iconst 0, 2085)) rfl
theorem c361_2085 : pm_code 361 2085 = some (.ireturn, 2086) := pm_of cl361_31 1 (q := (2085, .ireturn, 2086)) rfl
theorem c361_2086 : pm_code 361 2086 = some (.iload 5, 2088) := pm_of cl361_31 2 (q := (2086, .iload 5, 2088)) rfl
theorem c361_2088 : pm_code 361 2088 = some (.ifCond .ne 15, 2091) := pm_of cl361_31 3 (q := (2088, .ifCond .ne 15, 2091)) rfl
theorem c361_2091 : pm_code 361 2091 = some (.aload_n 3, 2092) := pm_of cl361_31 4 (q := (2091, .aload_n 3, 2092)) rfl
theorem c361_2092 : pm_code 361 2092 = some (.iconst 0, 2093) := pm_of cl361_31 5 (q := (2092, .iconst 0, 2093)) rfl
theorem c361_2093 : pm_code 361 2093 = some (.laload, 2094) := pm_of cl361_31 6 (q := (2093, .laload, 2094)) rfl
theorem c361_2094 : pm_code 361 2094 = some (.iload 6, 2096) := pm_of cl361_31 7 (q := (2094, .iload 6, 2096)) rfl
theorem c361_2096 : pm_code 361 2096 = some (.i2l, 2097) := pm_of cl361_31 8 (q := (2096, .i2l, 2097)) rfl
theorem c361_2097 : pm_code 361 2097 = some (.lcmp, 2098) := pm_of cl361_31 9 (q := (2097, .lcmp, 2098)) rfl
theorem c361_2098 : pm_code 361 2098 = some (.ifCond .eq 5, 2101) := pm_of cl361_31 10 (q := (2098, .ifCond .eq 5, 2101)) rfl
theorem c361_2101 : pm_code 361 2101 = some (.iconst 0, 2102) := pm_of cl361_31 11 (q := (2101, .iconst 0, 2102)) rfl
theorem c361_2102 : pm_code 361 2102 = some (.ireturn, 2103) := pm_of cl361_31 12 (q := (2102, .ireturn, 2103)) rfl
theorem c361_2103 : pm_code 361 2103 = some (.goto 473, 2106) := pm_of cl361_31 13 (q := (2103, .goto 473, 2106)) rfl
theorem c361_2106 : pm_code 361 2106 = some (.aload_n 1, 2107) := pm_of cl361_31 14 (q := (2106, .aload_n 1, 2107)) rfl
theorem c361_2107 : pm_code 361 2107 = some (.aload_n 0, 2108) := pm_of cl361_31 15 (q := (2107, .aload_n 0, 2108)) rfl
theorem c361_2108 : pm_code 361 2108 = some (.iload 4, 2110) := pm_of cl361_31 16 (q := (2108, .iload 4, 2110)) rfl
theorem c361_2110 : pm_code 361 2110 = some (.iconst 1, 2111) := pm_of cl361_31 17 (q := (2110, .iconst 1, 2111)) rfl
theorem c361_2111 : pm_code 361 2111 = some (.iadd, 2112) := pm_of cl361_31 18 (q := (2111, .iadd, 2112)) rfl
theorem c361_2112 : pm_code 361 2112 = some (.iaload, 2113) := pm_of cl361_31 19 (q := (2112, .iaload, 2113)) rfl
theorem c361_2113 : pm_code 361 2113 = some (.aload_n 0, 2114) := pm_of cl361_31 20 (q := (2113, .aload_n 0, 2114)) rfl
theorem c361_2114 : pm_code 361 2114 = some (.iload 4, 2116) := pm_of cl361_31 21 (q := (2114, .iload 4, 2116)) rfl
theorem c361_2116 : pm_code 361 2116 = some (.iconst 2, 2117) := pm_of cl361_31 22 (q := (2116, .iconst 2, 2117)) rfl
theorem c361_2117 : pm_code 361 2117 = some (.iadd, 2118) := pm_of cl361_31 23 (q := (2117, .iadd, 2118)) rfl
theorem c361_2118 : pm_code 361 2118 = some (.iaload, 2119) := pm_of cl361_31 24 (q := (2118, .iaload, 2119)) rfl
theorem c361_2119 : pm_code 361 2119 = some (.aload_n 0, 2120) := pm_of cl361_31 25 (q := (2119, .aload_n 0, 2120)) rfl
theorem c361_2120 : pm_code 361 2120 = some (.iload 4, 2122) := pm_of cl361_31 26 (q := (2120, .iload 4, 2122)) rfl
theorem c361_2122 : pm_code 361 2122 = some (.iconst 3, 2123) := pm_of cl361_31 27 (q := (2122, .iconst 3, 2123)) rfl
theorem c361_2123 : pm_code 361 2123 = some (.iadd, 2124) := pm_of cl361_31 28 (q := (2123, .iadd, 2124)) rfl
theorem c361_2124 : pm_code 361 2124 = some (.iaload, 2125) := pm_of cl361_31 29 (q := (2124, .iaload, 2125)) rfl
theorem c361_2125 : pm_code 361 2125 = some (.aload_n 0, 2126) := pm_of cl361_31 30 (q := (2125, .aload_n 0, 2126)) rfl
theorem c361_2126 : pm_code 361 2126 = some (.iload 4, 2128) := pm_of cl361_31 31 (q := (2126, .iload 4, 2128)) rfl
theorem c361_2128 : pm_code 361 2128 = some (.iconst 4, 2129) := pm_of cl361_31 32 (q := (2128, .iconst 4, 2129)) rfl
theorem c361_2129 : pm_code 361 2129 = some (.iadd, 2130) := pm_of cl361_31 33 (q := (2129, .iadd, 2130)) rfl
theorem c361_2130 : pm_code 361 2130 = some (.iaload, 2131) := pm_of cl361_31 34 (q := (2130, .iaload, 2131)) rfl
theorem c361_2131 : pm_code 361 2131 = some (.aload_n 3, 2132) := pm_of cl361_31 35 (q := (2131, .aload_n 3, 2132)) rfl
theorem c361_2132 : pm_code 361 2132 = some (.invokestatic 233, 2135) := pm_of cl361_31 36 (q := (2132, .invokestatic 233, 2135)) rfl
theorem c361_2135 : pm_code 361 2135 = some (.istore 5, 2137) := pm_of cl361_31 37 (q := (2135, .istore 5, 2137)) rfl
theorem c361_2137 : pm_code 361 2137 = some (.aload_n 2, 2138) := pm_of cl361_31 38 (q := (2137, .aload_n 2, 2138)) rfl
theorem c361_2138 : pm_code 361 2138 = some (.aload_n 0, 2139) := pm_of cl361_31 39 (q := (2138, .aload_n 0, 2139)) rfl
theorem cl361_32 : ([(2139, .iload 4, 2141), (2141, .iconst 1, 2142), (2142, .iadd, 2143), (2143, .iaload, 2144), (2144, .aload_n 0, 2145), (2145, .iload 4, 2147), (2147, .iconst 2, 2148), (2148, .iadd, 2149), (2149, .iaload, 2150), (2150, .aload_n 0, 2151), (2151, .iload 4, 2153), (2153, .iconst 3, 2154), (2154, .iadd, 2155), (2155, .iaload, 2156), (2156, .aload_n 0, 2157), (2157, .iload 4, 2159), (2159, .iconst 4, 2160), (2160, .iadd, 2161), (2161, .iaload, 2162), (2162, .invokevirtual 236, 2165), (2165, .istore 6, 2167), (2167, .aload_n 2, 2168), (2168, .invokevirtual 128, 2171), (2171, .iload 5, 2173), (2173, .if_icmp .eq 5, 2176), (2176, .iconst 0, 2177), (2177, .ireturn, 2178), (2178, .iload 5, 2180), (2180, .ifCond .ne 15, 2183), (2183, .aload_n 3, 2184), (2184, .iconst 0, 2185), (2185, .laload, 2186), (2186, .iload 6, 2188), (2188, .i2l, 2189), (2189, .lcmp, 2190), (2190, .ifCond .eq 5, 2193), (2193, .iconst 0, 2194), (2194, .ireturn, 2195), (2195, .goto 381, 2198), (2198, .aload_n 1, 2199)] : List (Nat × Instr × Nat)).all (fun q => decide (pm_code 361 q.1 = some q.2)) = true := by decide +kernel
theorem c361_2139 : pm_code 361 2139 = some (.iload 4, 2141) := pm_of cl361_32 0 (q := (2139, .iload 4, 2141)) rfl
theorem c361_2141 : pm_code 361 2141 = some (.iconst 1, 2142) := pm_of cl361_32 1 (q := (2141, .iconst 1, 2142)) rfl
theorem c361_2142 : pm_code 361 2142 = some (.iadd, 2143) := pm_of cl361_32 2 (q := (2142, .iadd, 2143)) rfl
theorem c361_2143 : pm_code 361 2143 = some (.iaload, 2144) := pm_of cl361_32 3 (q := (2143, .iaload, 2144)) rfl
theorem c361_2144 : pm_code 361 2144 = some (.aload_n 0, 2145) := pm_of cl361_32 4 (q := (2144, .aload_n 0, 2145)) rfl
theorem c361_2145 : pm_code 361 2145 = some (.iload 4, 2147) := pm_of cl361_32 5 (q := (2145, .iload 4, 2147)) rfl
theorem c361_2147 : pm_code 361 2147 = some (.iconst 2, 2148) := pm_of cl361_32 6 (q := (2147, .iconst 2, 2148)) rfl
theorem c361_2148 : pm_code 361 2148 = some (.iadd, 2149) := pm_of cl361_32 7 (q := (2148, .iadd, 2149)) rfl
theorem c361_2149 : pm_code 361 2149 = some (.iaload, 2150) := pm_of cl361_32 8 (q := (2149, .iaload, 2150)) rfl
theorem c361_2150 : pm_code 361 2150 = some (.aload_n 0, 2151) := pm_of cl361_32 9 (q := (2150, .aload_n 0, 2151)) rfl
theorem c361_2151 : pm_code 361 2151 = some (.iload 4, 2153) := pm_of cl361_32 10 (q := (2151, .iload 4, 2153)) rfl
theorem c361_2153 : pm_code 361 2153 = some (.iconst 3, 2154) := pm_of cl361_32 11 (q := (2153, .iconst 3, 2154)) rfl
theorem c361_2154 : pm_code 361 2154 = some (.iadd, 2155) := pm_of cl361_32 12 (q := (2154, .iadd, 2155)) rfl
theorem c361_2155 : pm_code 361 2155 = some (.iaload, 2156) := pm_of cl361_32 13 (q := (2155, .iaload, 2156)) rfl
theorem c361_2156 : pm_code 361 2156 = some (.aload_n 0, 2157) := pm_of cl361_32 14 (q := (2156, .aload_n 0, 2157)) rfl
theorem c361_2157 : pm_code 361 2157 = some (.iload 4, 2159) := pm_of cl361_32 15 (q := (2157, .iload 4, 2159)) rfl
theorem c361_2159 : pm_code 361 2159 = some (.iconst 4, 2160) := pm_of cl361_32 16 (q := (2159, .iconst 4, 2160)) rfl
theorem c361_2160 : pm_code 361 2160 = some (.iadd, 2161) := pm_of cl361_32 17 (q := (2160, .iadd, 2161)) rfl
theorem c361_2161 : pm_code 361 2161 = some (.iaload, 2162) := pm_of cl361_32 18 (q := (2161, .iaload, 2162)) rfl
theorem c361_2162 : pm_code 361 2162 = some (.invokevirtual 236, 2165) := pm_of cl361_32 19 (q := (2162, .invokevirtual 236, 2165)) rfl
theorem c361_2165 : pm_code 361 2165 = some (.istore 6, 2167) := pm_of cl361_32 20 (q := (2165, .istore 6, 2167)) rfl
theorem c361_2167 : pm_code 361 2167 = some (.aload_n 2, 2168) := pm_of cl361_32 21 (q := (2167, .aload_n 2, 2168)) rfl
theorem c361_2168 : pm_code 361 2168 = some (.invokevirtual 128, 2171) := pm_of cl361_32 22 (q := (2168, .invokevirtual 128, 2171)) rfl
theorem c361_2171 : pm_code 361 2171 = some (.iload 5, 2173) := pm_of cl361_32 23 (q := (2171, .iload 5, 2173)) rfl
theorem c361_2173 : pm_code 361 2173 = some (.if_icmp .eq 5, 2176) := pm_of cl361_32 24 (q := (2173, .if_icmp .eq 5, 2176)) rfl
theorem c361_2176 : pm_code 361 2176 = some (.iconst 0, 2177) := pm_of cl361_32 25 (q := (2176, .iconst 0, 2177)) rfl
theorem c361_2177 : pm_code 361 2177 = some (.ireturn, 2178) := pm_of cl361_32 26 (q := (2177, .ireturn, 2178)) rfl
theorem c361_2178 : pm_code 361 2178 = some (.iload 5, 2180) := pm_of cl361_32 27 (q := (2178, .iload 5, 2180)) rfl
theorem c361_2180 : pm_code 361 2180 = some (.ifCond .ne 15, 2183) := pm_of cl361_32 28 (q := (2180, .ifCond .ne 15, 2183)) rfl
theorem c361_2183 : pm_code 361 2183 = some (.aload_n 3, 2184) := pm_of cl361_32 29 (q := (2183, .aload_n 3, 2184)) rfl
theorem c361_2184 : pm_code 361 2184 = some (.iconst 0, 2185) := pm_of cl361_32 30 (q := (2184, .iconst 0, 2185)) rfl
theorem c361_2185 : pm_code 361 2185 = some (.laload, 2186) := pm_of cl361_32 31 (q := (2185, .laload, 2186)) rfl
theorem c361_2186 : pm_code 361 2186 = some (.iload 6, 2188) := pm_of cl361_32 32 (q := (2186, .iload 6, 2188)) rfl
theorem c361_2188 : pm_code 361 2188 = some (.i2l, 2189) := pm_of cl361_32 33 (q := (2188, .i2l, 2189)) rfl
theorem c361_2189 : pm_code 361 2189 = some (.lcmp, 2190) := pm_of cl361_32 34 (q := (2189, .lcmp, 2190)) rfl
theorem c361_2190 : pm_code 361 2190 = some (.ifCond .eq 5, 2193) := pm_of cl361_32 35 (q := (2190, .ifCond .eq 5, 2193)) rfl
theorem c361_2193 : pm_code 361 2193 = some (.iconst 0, 2194) := pm_of cl361_32 36 (q := (2193, .iconst 0, 2194)) rfl
theorem c361_2194 : pm_code 361 2194 = some (.ireturn, 2195) := pm_of cl361_32 37 (q := (2194, .ireturn, 2195)) rfl
theorem c361_2195 : pm_code 361 2195 = some (.goto 381, 2198) := pm_of cl361_32 38 (q := (2195, .goto 381, 2198)) rfl
theorem c361_2198 : pm_code 361 2198 = some (.aload_n 1, 2199) := pm_of cl361_32 39 (q := (2198, .aload_n 1, 2199)) rfl
theorem cl361_33 : ([(2199, .aload_n 0, 2200), (2200, .iload 4, 2202), (2202, .iconst 1, 2203), (2203, .iadd, 2204), (2204, .iaload, 2205), (2205, .aload_n 0, 2206), (2206, .iload 4, 2208), (2208, .iconst 2, 2209), (2209, .iadd, 2210), (2210, .iaload, 2211), (2211, .aload_n 0, 2212), (2212, .iload 4, 2214), (2214, .iconst 3, 2215), (2215, .iadd, 2216), (2216, .iaload, 2217), (2217, .aload_n 3, 2218), (2218, .invokestatic 237, 2221), (2221, .istore 5, 2223), (2223, .aload_n 2, 2224), (2224, .aload_n 0, 2225), (2225, .iload 4, 2227), (2227, .iconst 1, 2228), (2228, .iadd, 2229), (2229, .iaload, 2230), (2230, .aload_n 0, 2231), (2231, .iload 4, 2233), (2233, .iconst 2, 2234), (2234, .iadd, 2235), (2235, .iaload, 2236), (2236, .aload_n 0, 2237), (2237, .iload 4, 2239), (2239, .iconst 3, 2240), (2240, .iadd, 2241), (2241, .iaload, 2242), (2242, .invokevirtual 239, 2245), (2245, .istore 6, 2247), (2247, .aload_n 2, 2248), (2248, .invokevirtual 128, 2251), (2251, .iload 5, 2253), (2253, .if_icmp .eq 5, 2256)] : List (Nat × Instr × Nat)).all (fun q => decide (pm_code 361 q.1 = some q.2)) = true := by decide +kernel
theorem c361_2199 : pm_code 361 2199 = some (.aload_n 0, 2200) := pm_of cl361_33 0 (q := (2199, .aload_n 0, 2200)) rfl
theorem c361_2200 : pm_code 361 2200 = some (.iload 4, 2202) := pm_of cl361_33 1 (q := (2200, .iload 4, 2202)) rfl
theorem c361_2202 : pm_code 361 2202 = some (.iconst 1, 2203) := pm_of cl361_33 2 (q := (2202, .iconst 1, 2203)) rfl
theorem c361_2203 : pm_code 361 2203 = some (.iadd, 2204) := pm_of cl361_33 3 (q := (2203, .iadd, 2204)) rfl
theorem c361_2204 : pm_code 361 2204 = some (.iaload, 2205) := pm_of cl361_33 4 (q := (2204, .iaload, 2205)) rfl
theorem c361_2205 : pm_code 361 2205 = some (.aload_n 0, 2206) := pm_of cl361_33 5 (q := (2205, .aload_n 0, 2206)) rfl
theorem c361_2206 : pm_code 361 2206 = some (.iload 4, 2208) := pm_of cl361_33 6 (q := (2206, .iload 4, 2208)) rfl
theorem c361_2208 : pm_code 361 2208 = some (.iconst 2, 2209) := pm_of cl361_33 7 (q := (2208, .iconst 2, 2209)) rfl
theorem c361_2209 : pm_code 361 2209 = some (.iadd, 2210) := pm_of cl361_33 8 (q := (2209, .iadd, 2210)) rfl
theorem c361_2210 : pm_code 361 2210 = some (.iaload, 2211) := pm_of cl361_33 9 (q := (2210, .iaload, 2211)) rfl
theorem c361_2211 : pm_code 361 2211 = some (.aload_n 0, 2212) := pm_of cl361_33 10 (q := (2211, .aload_n 0, 2212)) rfl
theorem c361_2212 : pm_code 361 2212 = some (.iload 4, 2214) := pm_of cl361_33 11 (q := (2212, .iload 4, 2214)) rfl
theorem c361_2214 : pm_code 361 2214 = some (.iconst 3, 2215) := pm_of cl361_33 12 (q := (2214, .iconst 3, 2215)) rfl
theorem c361_2215 : pm_code 361 2215 = some (.iadd, 2216) := pm_of cl361_33 13 (q := (2215, .iadd, 2216)) rfl
theorem c361_2216 : pm_code 361 2216 = some (.iaload, 2217) := pm_of cl361_33 14 (q := (2216, .iaload, 2217)) rfl
theorem c361_2217 : pm_code 361 2217 = some (.aload_n 3, 2218) := pm_of cl361_33 15 (q := (2217, .aload_n 3, 2218)) rfl
theorem c361_2218 : pm_code 361 2218 = some (.invokestatic 237, 2221) := pm_of cl361_33 16 (q := (2218, .invokestatic 237, 2221)) rfl
theorem c361_2221 : pm_code 361 2221 = some (.istore 5, 2223) := pm_of cl361_33 17 (q := (2221, .istore 5, 2223)) rfl
theorem c361_2223 : pm_code 361 2223 = some (.aload_n 2, 2224) := pm_of cl361_33 18 (q := (2223, .aload_n 2, 2224)) rfl
theorem c361_2224 : pm_code 361 2224 = some (.aload_n 0, 2225) := pm_of cl361_33 19 (q := (2224, .aload_n 0, 2225)) rfl
theorem c361_2225 : pm_code 361 2225 = some (.iload 4, 2227) := pm_of cl361_33 20 (q := (2225, .iload 4, 2227)) rfl
theorem c361_2227 : pm_code 361 2227 = some (.iconst 1, 2228) := pm_of cl361_33 21 (q := (2227, .iconst 1, 2228)) rfl
theorem c361_2228 : pm_code 361 2228 = some (.iadd, 2229) := pm_of cl361_33 22 (q := (2228, .iadd, 2229)) rfl
theorem c361_2229 : pm_code 361 2229 = some (.iaload, 2230) := pm_of cl361_33 23 (q := (2229, .iaload, 2230)) rfl
theorem c361_2230 : pm_code 361 2230 = some (.aload_n 0, 2231) := pm_of cl361_33 24 (q := (2230, .aload_n 0, 2231)) rfl
theorem c361_2231 : pm_code 361 2231 = some (.iload 4, 2233) := pm_of cl361_33 25 (q := (2231, .iload 4, 2233)) rfl
theorem c361_2233 : pm_code 361 2233 = some (.iconst 2, 2234) := pm_of cl361_33 26 (q := (2233, .iconst 2, 2234)) rfl
theorem c361_2234 : pm_code 361 2234 = some (.iadd, 2235) := pm_of cl361_33 27 (q := (2234, .iadd, 2235)) rfl
theorem c361_2235 : pm_code 361 2235 = some (.iaload, 2236) := pm_of cl361_33 28 (q := (2235, .iaload, 2236)) rfl
theorem c361_2236 : pm_code 361 2236 = some (.aload_n 0, 2237) := pm_of cl361_33 29 (q := (2236, .aload_n 0, 2237)) rfl
theorem c361_2237 : pm_code 361 2237 = some (.iload 4, 2239) := pm_of cl361_33 30 (q := (2237, .iload 4, 2239)) rfl
theorem c361_2239 : pm_code 361 2239 = some (.iconst 3, 2240) := pm_of cl361_33 31 (q := (2239, .iconst 3, 2240)) rfl
theorem c361_2240 : pm_code 361 2240 = some (.iadd, 2241) := pm_of cl361_33 32 (q := (2240, .iadd, 2241)) rfl
theorem c361_2241 : pm_code 361 2241 = some (.iaload, 2242) := pm_of cl361_33 33 (q := (2241, .iaload, 2242)) rfl
theorem c361_2242 : pm_code 361 2242 = some (.invokevirtual 239, 2245) := pm_of cl361_33 34 (q := (2242, .invokevirtual 239, 2245)) rfl
theorem c361_2245 : pm_code 361 2245 = some (.istore 6, 2247) := pm_of cl361_33 35 (q := (2245, .istore 6, 2247)) rfl
theorem c361_2247 : pm_code 361 2247 = some (.aload_n 2, 2248) := pm_of cl361_33 36 (q := (2247, .aload_n 2, 2248)) rfl
theorem c361_2248 : pm_code 361 2248 = some (.invokevirtual 128, 2251) := pm_of cl361_33 37 (q := (2248, .invokevirtual 128, 2251)) rfl
theorem c361_2251 : pm_code 361 2251 = some (.iload 5, 2253) := pm_of cl361_33 38 (q := (2251, .iload 5, 2253)) rfl
theorem c361_2253 : pm_code 361 2253 = some (.if_icmp .eq 5, 2256) := pm_of cl361_33 39 (q := (2253, .if_icmp .eq 5, 2256)) rfl
theorem cl361_34 : ([(2256, .iconst 0, 2257), (2257, .ireturn, 2258), (2258, .iload 5, 2260), (2260, .ifCond .ne 15, 2263), (2263, .aload_n 3, 2264), (2264, .iconst 0, 2265), (2265, .laload, 2266), (2266, .iload 6, 2268), (2268, .i2l, 2269), (2269, .lcmp, 2270), (2270, .ifCond .eq 5, 2273), (2273, .iconst 0, 2274), (2274, .ireturn, 2275), (2275, .goto 301, 2278), (2278, .aload_n 1, 2279), (2279, .aload_n 0, 2280), (2280, .iload 4, 2282), (2282, .iconst 1, 2283), (2283, .iadd, 2284), (2284, .iaload, 2285), (2285, .aload_n 0, 2286), (2286, .iload 4, 2288), (2288, .iconst 2, 2289), (2289, .iadd, 2290), (2290, .iaload, 2291), (2291, .aload_n 0, 2292), (2292, .iload 4, 2294), (2294, .iconst 3, 2295), (2295, .iadd, 2296), (2296, .iaload, 2297), (2297, .aload_n 0, 2298), (2298, .iload 4, 2300), (2300, .iconst 4, 2301), (2301, .iadd, 2302), (2302, .iaload, 2303), (2303, .aload_n 0, 2304), (2304, .iload 4, 2306), (2306, .iconst 5, 2307), (2307, .iadd, 2308), (2308, .iaload, 2309)] : List (Nat × Instr × Nat)).all (fun q => decide (pm_code 361 q.1 = some q.2)) = true := by decide +kernel
theorem c361_2256 : pm_code 361 2256 = some (.iconst 0, 2257) := pm_of cl361_34 0 (q := (2256, .iconst 0, 2257)) rfl
theorem c361_2257 : pm_code 361 2257 = some (.ireturn, 2258) := pm_of cl361_34 1 (q := (2257, .ireturn, 2258)) rfl
theorem c361_2258 : pm_code 361 2258 = some (.iload 5, 2260) := pm_of cl361_34 2 (q := (2258, .iload 5, 2260)) rfl
theorem c361_2260 : pm_code 361 2260 = some (.ifCond .ne 15, 2263) := pm_of cl361_34 3 (q := (2260, .ifCond .ne 15, 2263)) rfl
theorem c361_2263 : pm_code 361 2263 = some (.aload_n 3, 2264) := pm_of cl361_34 4 (q := (2263, .aload_n 3, 2264)) rfl
theorem c361_2264 : pm_code 361 2264 = some (.iconst 0, 2265) := pm_of cl361_34 5 (q := (2264, .iconst 0, 2265)) rfl
theorem c361_2265 : pm_code 361 2265 = some (.laload, 2266) := pm_of cl361_34 6 (q := (2265, .laload, 2266)) rfl
theorem c361_2266 : pm_code 361 2266 = some (.iload 6, 2268) := pm_of cl361_34 7 (q := (2266, .iload 6, 2268)) rfl
theorem c361_2268 : pm_code 361 2268 = some (.i2l, 2269) := pm_of cl361_34 8 (q := (2268, .i2l, 2269)) rfl
theorem c361_2269 : pm_code 361 2269 = some (.lcmp, 2270) := pm_of cl361_34 9 (q := (2269, .lcmp, 2270)) rfl
theorem c361_2270 : pm_code 361 2270 = some (.ifCond .eq 5, 2273) := pm_of cl361_34 10 (q := (2270, .ifCond .eq 5, 2273)) rfl
theorem c361_2273 : pm_code 361 2273 = some (.iconst 0, 2274) := pm_of cl361_34 11 (q := (2273, .iconst 0, 2274)) rfl
theorem c361_2274 : pm_code 361 2274 = some (.ireturn, 2275) := pm_of cl361_34 12 (q := (2274, .ireturn, 2275)) rfl
theorem c361_2275 : pm_code 361 2275 = some (.goto 301, 2278) := pm_of cl361_34 13 (q := (2275, .goto 301, 2278)) rfl
theorem c361_2278 : pm_code 361 2278 = some (.aload_n 1, 2279) := pm_of cl361_34 14 (q := (2278, .aload_n 1, 2279)) rfl
theorem c361_2279 : pm_code 361 2279 = some (.aload_n 0, 2280) := pm_of cl361_34 15 (q := (2279, .aload_n 0, 2280)) rfl
theorem c361_2280 : pm_code 361 2280 = some (.iload 4, 2282) := pm_of cl361_34 16 (q := (2280, .iload 4, 2282)) rfl
theorem c361_2282 : pm_code 361 2282 = some (.iconst 1, 2283) := pm_of cl361_34 17 (q := (2282, .iconst 1, 2283)) rfl
theorem c361_2283 : pm_code 361 2283 = some (.iadd, 2284) := pm_of cl361_34 18 (q := (2283, .iadd, 2284)) rfl
theorem c361_2284 : pm_code 361 2284 = some (.iaload, 2285) := pm_of cl361_34 19 (q := (2284, .iaload, 2285)) rfl
theorem c361_2285 : pm_code 361 2285 = some (.aload_n 0, 2286) := pm_of cl361_34 20 (q := (2285, .aload_n 0, 2286)) rfl
theorem c361_2286 : pm_code 361 2286 = some (.iload 4, 2288) := pm_of cl361_34 21 (q := (2286, .iload 4, 2288)) rfl
theorem c361_2288 : pm_code 361 2288 = some (.iconst 2, 2289) := pm_of cl361_34 22 (q := (2288, .iconst 2, 2289)) rfl
theorem c361_2289 : pm_code 361 2289 = some (.iadd, 2290) := pm_of cl361_34 23 (q := (2289, .iadd, 2290)) rfl
theorem c361_2290 : pm_code 361 2290 = some (.iaload, 2291) := pm_of cl361_34 24 (q := (2290, .iaload, 2291)) rfl
theorem c361_2291 : pm_code 361 2291 = some (.aload_n 0, 2292) := pm_of cl361_34 25 (q := (2291, .aload_n 0, 2292)) rfl
theorem c361_2292 : pm_code 361 2292 = some (.iload 4, 2294) := pm_of cl361_34 26 (q := (2292, .iload 4, 2294)) rfl
theorem c361_2294 : pm_code 361 2294 = some (.iconst 3, 2295) := pm_of cl361_34 27 (q := (2294, .iconst 3, 2295)) rfl
theorem c361_2295 : pm_code 361 2295 = some (.iadd, 2296) := pm_of cl361_34 28 (q := (2295, .iadd, 2296)) rfl
theorem c361_2296 : pm_code 361 2296 = some (.iaload, 2297) := pm_of cl361_34 29 (q := (2296, .iaload, 2297)) rfl
theorem c361_2297 : pm_code 361 2297 = some (.aload_n 0, 2298) := pm_of cl361_34 30 (q := (2297, .aload_n 0, 2298)) rfl
theorem c361_2298 : pm_code 361 2298 = some (.iload 4, 2300) := pm_of cl361_34 31 (q := (2298, .iload 4, 2300)) rfl
theorem c361_2300 : pm_code 361 2300 = some (.iconst 4, 2301) := pm_of cl361_34 32 (q := (2300, .iconst 4, 2301)) rfl
theorem c361_2301 : pm_code 361 2301 = some (.iadd, 2302) := pm_of cl361_34 33 (q := (2301, .iadd, 2302)) rfl
theorem c361_2302 : pm_code 361 2302 = some (.iaload, 2303) := pm_of cl361_34 34 (q := (2302, .iaload, 2303)) rfl
theorem c361_2303 : pm_code 361 2303 = some (.aload_n 0, 2304) := pm_of cl361_34 35 (q := (2303, .aload_n 0, 2304)) rfl
theorem c361_2304 : pm_code 361 2304 = some (.iload 4, 2306) := pm_of cl361_34 36 (q := (2304, .iload 4, 2306)) rfl
theorem c361_2306 : pm_code 361 2306 = some (.iconst 5, 2307) := pm_of cl361_34 37 (q := (2306, .iconst 5, 2307)) rfl
theorem c361_2307 : pm_code 361 2307 = some (.iadd, 2308) := pm_of cl361_34 38 (q := (2307, .iadd, 2308)) rfl
theorem c361_2308 : pm_code 361 2308 = some (.iaload, 2309) := pm_of cl361_34 39 (q := (2308, .iaload, 2309)) rfl
