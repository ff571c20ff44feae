/-! Case 13, by the value of its first int. -/
theorem ca_13_0 : ab_cas (-2147483648) 0 13 13 772 = true := by decide +kernel
theorem ca_13_1 : ab_cas 1 9 13 13 772 = true := by decide +kernel
theorem ca_13_2 : ab_cas 10 17 13 13 772 = true := by decide +kernel
theorem ca_13_3 : ab_cas 18 24 13 13 772 = true := by decide +kernel
theorem ca_13_4 : ab_cas 25 30 13 13 772 = true := by decide +kernel
theorem ca_13_5 : ab_cas 31 35 13 13 772 = true := by decide +kernel
theorem ca_13_6 : ab_cas 36 40 13 13 772 = true := by decide +kernel
theorem ca_13_7 : ab_cas 41 45 13 13 772 = true := by decide +kernel
theorem ca_13_8 : ab_cas 46 50 13 13 772 = true := by decide +kernel
theorem ca_13_9 : ab_cas 51 55 13 13 772 = true := by decide +kernel
theorem ca_13_10 : ab_cas 56 60 13 13 772 = true := by decide +kernel
theorem ca_13_11 : ab_cas 61 2147483647 13 13 772 = true := by decide +kernel
