/-! Case 20, by the value of its first int. -/
theorem ca_20_0 : ab_cas (-2147483648) 0 20 20 980 = true := by decide +kernel
theorem ca_20_1 : ab_cas 1 9 20 20 980 = true := by decide +kernel
theorem ca_20_2 : ab_cas 10 17 20 20 980 = true := by decide +kernel
theorem ca_20_3 : ab_cas 18 24 20 20 980 = true := by decide +kernel
theorem ca_20_4 : ab_cas 25 30 20 20 980 = true := by decide +kernel
theorem ca_20_5 : ab_cas 31 35 20 20 980 = true := by decide +kernel
theorem ca_20_6 : ab_cas 36 40 20 20 980 = true := by decide +kernel
theorem ca_20_7 : ab_cas 41 45 20 20 980 = true := by decide +kernel
theorem ca_20_8 : ab_cas 46 50 20 20 980 = true := by decide +kernel
theorem ca_20_9 : ab_cas 51 55 20 20 980 = true := by decide +kernel
theorem ca_20_10 : ab_cas 56 60 20 20 980 = true := by decide +kernel
theorem ca_20_11 : ab_cas 61 2147483647 20 20 980 = true := by decide +kernel
