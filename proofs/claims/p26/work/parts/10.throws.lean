theorem tx_55_59 : ez_tw RX7 "java/lang/IllegalArgumentException" 55 59 = true := by decide +kernel
theorem tx_66_70 : ez_tw RX7 "java/lang/IllegalStateException" 66 70 = true := by decide +kernel
theorem tx_184_188 : ez_tw RX7 "java/lang/IndexOutOfBoundsException" 184 188 = true := by decide +kernel
