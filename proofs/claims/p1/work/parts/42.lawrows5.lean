theorem dL_law_2037 : decode cL_law 2037 = .ok (.iadd, 1) := by decide +kernel
theorem dL_law_2038 : decode cL_law 2038 = .ok (.iaload, 1) := by decide +kernel
theorem dL_law_2039 : decode cL_law 2039 = .ok (.aload_n 0, 1) := by decide +kernel
theorem dL_law_2040 : decode cL_law 2040 = .ok (.iload 4, 2) := by decide +kernel
theorem dL_law_2042 : decode cL_law 2042 = .ok (.iconst 3, 1) := by decide +kernel
theorem dL_law_2043 : decode cL_law 2043 = .ok (.iadd, 1) := by decide +kernel
theorem dL_law_2044 : decode cL_law 2044 = .ok (.iaload, 1) := by decide +kernel
theorem dL_law_2045 : decode cL_law 2045 = .ok (.invokevirtual 203, 3) := by decide +kernel
theorem dL_law_2048 : decode cL_law 2048 = .ok (.istore 6, 2) := by decide +kernel
theorem dL_law_2050 : decode cL_law 2050 = .ok (.aload_n 2, 1) := by decide +kernel
theorem dL_law_2051 : decode cL_law 2051 = .ok (.invokevirtual 112, 3) := by decide +kernel
theorem dL_law_2054 : decode cL_law 2054 = .ok (.iload 5, 2) := by decide +kernel
theorem dL_law_2056 : decode cL_law 2056 = .ok (.if_icmp .eq 5, 3) := by decide +kernel
theorem dL_law_2059 : decode cL_law 2059 = .ok (.iconst 0, 1) := by decide +kernel
theorem dL_law_2060 : decode cL_law 2060 = .ok (.ireturn, 1) := by decide +kernel
theorem dL_law_2061 : decode cL_law 2061 = .ok (.iload 5, 2) := by decide +kernel
theorem dL_law_2063 : decode cL_law 2063 = .ok (.ifCond .ne 15, 3) := by decide +kernel
theorem dL_law_2066 : decode cL_law 2066 = .ok (.aload_n 3, 1) := by decide +kernel
theorem dL_law_2067 : decode cL_law 2067 = .ok (.iconst 0, 1) := by decide +kernel
theorem dL_law_2068 : decode cL_law 2068 = .ok (.laload, 1) := by decide +kernel
theorem dL_law_2069 : decode cL_law 2069 = .ok (.iload 6, 2) := by decide +kernel
theorem dL_law_2071 : decode cL_law 2071 = .ok (.i2l, 1) := by decide +kernel
theorem dL_law_2072 : decode cL_law 2072 = .ok (.lcmp, 1) := by decide +kernel
theorem dL_law_2073 : decode cL_law 2073 = .ok (.ifCond .eq 5, 3) := by decide +kernel
theorem dL_law_2076 : decode cL_law 2076 = .ok (.iconst 0, 1) := by decide +kernel
theorem dL_law_2077 : decode cL_law 2077 = .ok (.ireturn, 1) := by decide +kernel
theorem dL_law_2078 : decode cL_law 2078 = .ok (.goto 30, 3) := by decide +kernel
theorem dL_law_2081 : decode cL_law 2081 = .ok (.aload_n 1, 1) := by decide +kernel
theorem dL_law_2082 : decode cL_law 2082 = .ok (.invokevirtual 204, 3) := by decide +kernel
theorem dL_law_2085 : decode cL_law 2085 = .ok (.aload_n 2, 1) := by decide +kernel
theorem dL_law_2086 : decode cL_law 2086 = .ok (.invokevirtual 207, 3) := by decide +kernel
theorem dL_law_2089 : decode cL_law 2089 = .ok (.if_icmp .eq 19, 3) := by decide +kernel
theorem dL_law_2092 : decode cL_law 2092 = .ok (.iconst 0, 1) := by decide +kernel
theorem dL_law_2093 : decode cL_law 2093 = .ok (.ireturn, 1) := by decide +kernel
theorem dL_law_2094 : decode cL_law 2094 = .ok (.aload_n 1, 1) := by decide +kernel
theorem dL_law_2095 : decode cL_law 2095 = .ok (.invokevirtual 208, 3) := by decide +kernel
theorem dL_law_2098 : decode cL_law 2098 = .ok (.aload_n 2, 1) := by decide +kernel
theorem dL_law_2099 : decode cL_law 2099 = .ok (.invokevirtual 212, 3) := by decide +kernel
theorem dL_law_2102 : decode cL_law 2102 = .ok (.lcmp, 1) := by decide +kernel
theorem dL_law_2103 : decode cL_law 2103 = .ok (.ifCond .eq 5, 3) := by decide +kernel
theorem dL_law_2106 : decode cL_law 2106 = .ok (.iconst 0, 1) := by decide +kernel
theorem dL_law_2107 : decode cL_law 2107 = .ok (.ireturn, 1) := by decide +kernel
theorem dL_law_2108 : decode cL_law 2108 = .ok (.iinc 4 5, 3) := by decide +kernel
theorem dL_law_2111 : decode cL_law 2111 = .ok (.goto (-2088), 3) := by decide +kernel
theorem dL_law_2114 : decode cL_law 2114 = .ok (.iconst 1, 1) := by decide +kernel
theorem dL_law_2115 : decode cL_law 2115 = .ok (.ireturn, 1) := by decide +kernel
