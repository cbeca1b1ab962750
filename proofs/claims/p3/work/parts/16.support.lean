theorem ft0_0 : jsk (jfty 0 0) = 2 := by decide +kernel
theorem nz0_0 : ¬ jfty 0 0 = 3 := by decide +kernel
theorem ft0_1 : jsk (jfty 0 1) = 0 := by decide +kernel
theorem nz0_1 : ¬ jfty 0 1 = 3 := by decide +kernel
theorem ft0_2 : jsk (jfty 0 2) = 0 := by decide +kernel
theorem nz0_2 : ¬ jfty 0 2 = 3 := by decide +kernel
theorem ft1_0 : jsk (jfty 1 0) = 2 := by decide +kernel
theorem nz1_0 : ¬ jfty 1 0 = 3 := by decide +kernel
theorem ft1_1 : jsk (jfty 1 1) = 0 := by decide +kernel
theorem nz1_1 : ¬ jfty 1 1 = 3 := by decide +kernel
theorem ft1_2 : jsk (jfty 1 2) = 0 := by decide +kernel
theorem nz1_2 : ¬ jfty 1 2 = 3 := by decide +kernel
theorem ft2_0 : jsk (jfty 2 0) = 2 := by decide +kernel
theorem nz2_0 : ¬ jfty 2 0 = 3 := by decide +kernel
theorem ft2_1 : jsk (jfty 2 1) = 0 := by decide +kernel
theorem nz2_1 : ¬ jfty 2 1 = 3 := by decide +kernel
theorem ft2_2 : jsk (jfty 2 2) = 0 := by decide +kernel
theorem nz2_2 : ¬ jfty 2 2 = 3 := by decide +kernel
theorem ft3_0 : jsk (jfty 3 0) = 2 := by decide +kernel
theorem nz3_0 : ¬ jfty 3 0 = 3 := by decide +kernel
theorem ft3_1 : jsk (jfty 3 1) = 0 := by decide +kernel
theorem nz3_1 : ¬ jfty 3 1 = 3 := by decide +kernel
theorem ft3_2 : jsk (jfty 3 2) = 0 := by decide +kernel
theorem nz3_2 : ¬ jfty 3 2 = 3 := by decide +kernel
theorem ft4_0 : jsk (jfty 4 0) = 0 := by decide +kernel
theorem nz4_0 : ¬ jfty 4 0 = 3 := by decide +kernel
theorem ft4_1 : jsk (jfty 4 1) = 0 := by decide +kernel
theorem nz4_1 : ¬ jfty 4 1 = 3 := by decide +kernel
theorem ft4_2 : jsk (jfty 4 2) = 2 := by decide +kernel
theorem nz4_2 : ¬ jfty 4 2 = 3 := by decide +kernel
theorem ft4_3 : jsk (jfty 4 3) = 2 := by decide +kernel
theorem nz4_3 : ¬ jfty 4 3 = 3 := by decide +kernel
theorem ft4_4 : jsk (jfty 4 4) = 2 := by decide +kernel
theorem nz4_4 : ¬ jfty 4 4 = 3 := by decide +kernel
theorem ft4_5 : jsk (jfty 4 5) = 2 := by decide +kernel
theorem nz4_5 : ¬ jfty 4 5 = 3 := by decide +kernel
theorem ft4_6 : jsk (jfty 4 6) = 2 := by decide +kernel
theorem nz4_6 : ¬ jfty 4 6 = 3 := by decide +kernel
theorem ft4_7 : jsk (jfty 4 7) = 2 := by decide +kernel
theorem nz4_7 : ¬ jfty 4 7 = 3 := by decide +kernel
theorem ft4_8 : jsk (jfty 4 8) = 2 := by decide +kernel
theorem nz4_8 : ¬ jfty 4 8 = 3 := by decide +kernel
theorem ft4_9 : jsk (jfty 4 9) = 2 := by decide +kernel
theorem nz4_9 : ¬ jfty 4 9 = 3 := by decide +kernel
theorem ft4_10 : jsk (jfty 4 10) = 2 := by decide +kernel
theorem nz4_10 : ¬ jfty 4 10 = 3 := by decide +kernel
theorem ft4_11 : jsk (jfty 4 11) = 2 := by decide +kernel
theorem nz4_11 : ¬ jfty 4 11 = 3 := by decide +kernel
theorem ft4_12 : jsk (jfty 4 12) = 2 := by decide +kernel
theorem nz4_12 : ¬ jfty 4 12 = 3 := by decide +kernel
theorem ft4_13 : jsk (jfty 4 13) = 2 := by decide +kernel
theorem nz4_13 : ¬ jfty 4 13 = 3 := by decide +kernel
theorem ft5_0 : jsk (jfty 5 0) = 0 := by decide +kernel
theorem nz5_0 : ¬ jfty 5 0 = 3 := by decide +kernel
theorem ft5_1 : jsk (jfty 5 1) = 0 := by decide +kernel
theorem nz5_1 : ¬ jfty 5 1 = 3 := by decide +kernel
theorem ft5_2 : jsk (jfty 5 2) = 0 := by decide +kernel
theorem nz5_2 : ¬ jfty 5 2 = 3 := by decide +kernel
theorem ft5_3 : jsk (jfty 5 3) = 0 := by decide +kernel
theorem nz5_3 : ¬ jfty 5 3 = 3 := by decide +kernel
theorem ft5_4 : jsk (jfty 5 4) = 0 := by decide +kernel
theorem nz5_4 : ¬ jfty 5 4 = 3 := by decide +kernel
theorem ft5_5 : jsk (jfty 5 5) = 2 := by decide +kernel
theorem nz5_5 : ¬ jfty 5 5 = 3 := by decide +kernel
theorem ft5_6 : jsk (jfty 5 6) = 2 := by decide +kernel
theorem nz5_6 : ¬ jfty 5 6 = 3 := by decide +kernel
theorem ft5_7 : jsk (jfty 5 7) = 2 := by decide +kernel
theorem nz5_7 : ¬ jfty 5 7 = 3 := by decide +kernel
theorem ft5_8 : jsk (jfty 5 8) = 2 := by decide +kernel
theorem nz5_8 : ¬ jfty 5 8 = 3 := by decide +kernel
theorem ft5_9 : jsk (jfty 5 9) = 2 := by decide +kernel
theorem nz5_9 : ¬ jfty 5 9 = 3 := by decide +kernel
theorem ft5_10 : jsk (jfty 5 10) = 2 := by decide +kernel
theorem nz5_10 : ¬ jfty 5 10 = 3 := by decide +kernel
theorem ft5_11 : jsk (jfty 5 11) = 2 := by decide +kernel
theorem nz5_11 : ¬ jfty 5 11 = 3 := by decide +kernel
theorem ft5_12 : jsk (jfty 5 12) = 2 := by decide +kernel
theorem nz5_12 : ¬ jfty 5 12 = 3 := by decide +kernel
theorem ft5_13 : jsk (jfty 5 13) = 2 := by decide +kernel
theorem nz5_13 : ¬ jfty 5 13 = 3 := by decide +kernel
theorem ft5_14 : jsk (jfty 5 14) = 2 := by decide +kernel
theorem nz5_14 : ¬ jfty 5 14 = 3 := by decide +kernel
theorem ft6_0 : jsk (jfty 6 0) = 2 := by decide +kernel
theorem nz6_0 : ¬ jfty 6 0 = 3 := by decide +kernel
theorem ft6_1 : jsk (jfty 6 1) = 0 := by decide +kernel
theorem nz6_1 : ¬ jfty 6 1 = 3 := by decide +kernel
theorem ft6_2 : jsk (jfty 6 2) = 0 := by decide +kernel
theorem nz6_2 : ¬ jfty 6 2 = 3 := by decide +kernel
theorem ft7_0 : jsk (jfty 7 0) = 2 := by decide +kernel
theorem nz7_0 : ¬ jfty 7 0 = 3 := by decide +kernel
theorem ft7_1 : jsk (jfty 7 1) = 2 := by decide +kernel
theorem nz7_1 : ¬ jfty 7 1 = 3 := by decide +kernel
theorem ft7_2 : jsk (jfty 7 2) = 2 := by decide +kernel
theorem nz7_2 : ¬ jfty 7 2 = 3 := by decide +kernel
theorem ft7_3 : jsk (jfty 7 3) = 0 := by decide +kernel
theorem nz7_3 : ¬ jfty 7 3 = 3 := by decide +kernel
theorem ft7_4 : jsk (jfty 7 4) = 0 := by decide +kernel
theorem nz7_4 : ¬ jfty 7 4 = 3 := by decide +kernel
theorem ft7_5 : jsk (jfty 7 5) = 0 := by decide +kernel
theorem nz7_5 : ¬ jfty 7 5 = 3 := by decide +kernel
theorem ft8_0 : jsk (jfty 8 0) = 2 := by decide +kernel
theorem nz8_0 : ¬ jfty 8 0 = 3 := by decide +kernel
theorem ft8_1 : jsk (jfty 8 1) = 0 := by decide +kernel
theorem nz8_1 : ¬ jfty 8 1 = 3 := by decide +kernel
theorem ft8_2 : jsk (jfty 8 2) = 0 := by decide +kernel
theorem nz8_2 : ¬ jfty 8 2 = 3 := by decide +kernel
theorem ft9_0 : jsk (jfty 9 0) = 0 := by decide +kernel
theorem nz9_0 : ¬ jfty 9 0 = 3 := by decide +kernel
theorem ft9_1 : jsk (jfty 9 1) = 0 := by decide +kernel
theorem nz9_1 : ¬ jfty 9 1 = 3 := by decide +kernel
theorem ft9_2 : jsk (jfty 9 2) = 2 := by decide +kernel
theorem nz9_2 : ¬ jfty 9 2 = 3 := by decide +kernel
theorem ft9_3 : jsk (jfty 9 3) = 0 := by decide +kernel
theorem nz9_3 : ¬ jfty 9 3 = 3 := by decide +kernel
theorem ft9_4 : jsk (jfty 9 4) = 2 := by decide +kernel
theorem nz9_4 : ¬ jfty 9 4 = 3 := by decide +kernel
theorem ft9_5 : jsk (jfty 9 5) = 2 := by decide +kernel
theorem nz9_5 : ¬ jfty 9 5 = 3 := by decide +kernel
theorem ft9_6 : jsk (jfty 9 6) = 2 := by decide +kernel
theorem nz9_6 : ¬ jfty 9 6 = 3 := by decide +kernel
theorem ft9_7 : jsk (jfty 9 7) = 0 := by decide +kernel
theorem nz9_7 : ¬ jfty 9 7 = 3 := by decide +kernel
theorem ft9_8 : jsk (jfty 9 8) = 2 := by decide +kernel
theorem nz9_8 : ¬ jfty 9 8 = 3 := by decide +kernel
theorem ft9_9 : jsk (jfty 9 9) = 0 := by decide +kernel
theorem nz9_9 : ¬ jfty 9 9 = 3 := by decide +kernel
theorem ft9_10 : jsk (jfty 9 10) = 2 := by decide +kernel
theorem nz9_10 : ¬ jfty 9 10 = 3 := by decide +kernel
theorem ft9_11 : jsk (jfty 9 11) = 2 := by decide +kernel
theorem nz9_11 : ¬ jfty 9 11 = 3 := by decide +kernel
theorem ft9_12 : jsk (jfty 9 12) = 2 := by decide +kernel
theorem nz9_12 : ¬ jfty 9 12 = 3 := by decide +kernel
theorem ft9_13 : jsk (jfty 9 13) = 2 := by decide +kernel
theorem nz9_13 : ¬ jfty 9 13 = 3 := by decide +kernel
theorem ft9_14 : jsk (jfty 9 14) = 2 := by decide +kernel
theorem nz9_14 : ¬ jfty 9 14 = 3 := by decide +kernel
theorem ft10_0 : jsk (jfty 10 0) = 0 := by decide +kernel
theorem nz10_0 : ¬ jfty 10 0 = 3 := by decide +kernel
theorem ft10_1 : jsk (jfty 10 1) = 1 := by decide +kernel
theorem nz10_1 : ¬ jfty 10 1 = 3 := by decide +kernel
theorem ft10_2 : jsk (jfty 10 2) = 0 := by decide +kernel
theorem ft10_3 : jsk (jfty 10 3) = 2 := by decide +kernel
theorem nz10_3 : ¬ jfty 10 3 = 3 := by decide +kernel
theorem ft10_4 : jsk (jfty 10 4) = 2 := by decide +kernel
theorem nz10_4 : ¬ jfty 10 4 = 3 := by decide +kernel
theorem ft10_5 : jsk (jfty 10 5) = 2 := by decide +kernel
theorem nz10_5 : ¬ jfty 10 5 = 3 := by decide +kernel
theorem ft10_6 : jsk (jfty 10 6) = 2 := by decide +kernel
theorem nz10_6 : ¬ jfty 10 6 = 3 := by decide +kernel
theorem ft10_7 : jsk (jfty 10 7) = 2 := by decide +kernel
theorem nz10_7 : ¬ jfty 10 7 = 3 := by decide +kernel
theorem ft11_0 : jsk (jfty 11 0) = 2 := by decide +kernel
theorem nz11_0 : ¬ jfty 11 0 = 3 := by decide +kernel
theorem ft11_1 : jsk (jfty 11 1) = 2 := by decide +kernel
theorem nz11_1 : ¬ jfty 11 1 = 3 := by decide +kernel
theorem ft11_2 : jsk (jfty 11 2) = 2 := by decide +kernel
theorem nz11_2 : ¬ jfty 11 2 = 3 := by decide +kernel
theorem ft11_3 : jsk (jfty 11 3) = 0 := by decide +kernel
theorem nz11_3 : ¬ jfty 11 3 = 3 := by decide +kernel
theorem ft11_4 : jsk (jfty 11 4) = 2 := by decide +kernel
theorem nz11_4 : ¬ jfty 11 4 = 3 := by decide +kernel
theorem ft11_5 : jsk (jfty 11 5) = 2 := by decide +kernel
theorem nz11_5 : ¬ jfty 11 5 = 3 := by decide +kernel
theorem ft11_6 : jsk (jfty 11 6) = 2 := by decide +kernel
theorem nz11_6 : ¬ jfty 11 6 = 3 := by decide +kernel
theorem ft11_7 : jsk (jfty 11 7) = 0 := by decide +kernel
theorem nz11_7 : ¬ jfty 11 7 = 3 := by decide +kernel
theorem ft11_8 : jsk (jfty 11 8) = 2 := by decide +kernel
theorem nz11_8 : ¬ jfty 11 8 = 3 := by decide +kernel
theorem ft11_9 : jsk (jfty 11 9) = 0 := by decide +kernel
theorem nz11_9 : ¬ jfty 11 9 = 3 := by decide +kernel
theorem ft11_10 : jsk (jfty 11 10) = 0 := by decide +kernel
theorem nz11_10 : ¬ jfty 11 10 = 3 := by decide +kernel
theorem ft11_11 : jsk (jfty 11 11) = 2 := by decide +kernel
theorem nz11_11 : ¬ jfty 11 11 = 3 := by decide +kernel
theorem ft11_12 : jsk (jfty 11 12) = 2 := by decide +kernel
theorem nz11_12 : ¬ jfty 11 12 = 3 := by decide +kernel
theorem ft11_13 : jsk (jfty 11 13) = 2 := by decide +kernel
theorem nz11_13 : ¬ jfty 11 13 = 3 := by decide +kernel
theorem ft11_14 : jsk (jfty 11 14) = 2 := by decide +kernel
theorem nz11_14 : ¬ jfty 11 14 = 3 := by decide +kernel
theorem ft11_15 : jsk (jfty 11 15) = 2 := by decide +kernel
theorem nz11_15 : ¬ jfty 11 15 = 3 := by decide +kernel
theorem ft11_16 : jsk (jfty 11 16) = 2 := by decide +kernel
theorem nz11_16 : ¬ jfty 11 16 = 3 := by decide +kernel
theorem ft12_0 : jsk (jfty 12 0) = 0 := by decide +kernel
theorem nz12_0 : ¬ jfty 12 0 = 3 := by decide +kernel
theorem ft12_1 : jsk (jfty 12 1) = 0 := by decide +kernel
theorem nz12_1 : ¬ jfty 12 1 = 3 := by decide +kernel
theorem ft12_2 : jsk (jfty 12 2) = 2 := by decide +kernel
theorem nz12_2 : ¬ jfty 12 2 = 3 := by decide +kernel
theorem ft12_3 : jsk (jfty 12 3) = 2 := by decide +kernel
theorem nz12_3 : ¬ jfty 12 3 = 3 := by decide +kernel
theorem ft12_4 : jsk (jfty 12 4) = 2 := by decide +kernel
theorem nz12_4 : ¬ jfty 12 4 = 3 := by decide +kernel
theorem ft12_5 : jsk (jfty 12 5) = 0 := by decide +kernel
theorem nz12_5 : ¬ jfty 12 5 = 3 := by decide +kernel
theorem ft12_6 : jsk (jfty 12 6) = 2 := by decide +kernel
theorem nz12_6 : ¬ jfty 12 6 = 3 := by decide +kernel
theorem ft12_7 : jsk (jfty 12 7) = 2 := by decide +kernel
theorem nz12_7 : ¬ jfty 12 7 = 3 := by decide +kernel
theorem ft12_8 : jsk (jfty 12 8) = 1 := by decide +kernel
theorem nz12_8 : ¬ jfty 12 8 = 3 := by decide +kernel
theorem ft12_9 : jsk (jfty 12 9) = 0 := by decide +kernel
theorem nz12_9 : ¬ jfty 12 9 = 3 := by decide +kernel
theorem ft12_10 : jsk (jfty 12 10) = 2 := by decide +kernel
theorem nz12_10 : ¬ jfty 12 10 = 3 := by decide +kernel
theorem ft12_11 : jsk (jfty 12 11) = 2 := by decide +kernel
theorem nz12_11 : ¬ jfty 12 11 = 3 := by decide +kernel
theorem ft12_12 : jsk (jfty 12 12) = 2 := by decide +kernel
theorem nz12_12 : ¬ jfty 12 12 = 3 := by decide +kernel
theorem ft12_13 : jsk (jfty 12 13) = 2 := by decide +kernel
theorem nz12_13 : ¬ jfty 12 13 = 3 := by decide +kernel
theorem ft12_14 : jsk (jfty 12 14) = 2 := by decide +kernel
theorem nz12_14 : ¬ jfty 12 14 = 3 := by decide +kernel
theorem ft12_15 : jsk (jfty 12 15) = 2 := by decide +kernel
theorem nz12_15 : ¬ jfty 12 15 = 3 := by decide +kernel
theorem ft12_16 : jsk (jfty 12 16) = 2 := by decide +kernel
theorem nz12_16 : ¬ jfty 12 16 = 3 := by decide +kernel
theorem ft12_17 : jsk (jfty 12 17) = 0 := by decide +kernel
theorem nz12_17 : ¬ jfty 12 17 = 3 := by decide +kernel
theorem ft12_18 : jsk (jfty 12 18) = 2 := by decide +kernel
theorem nz12_18 : ¬ jfty 12 18 = 3 := by decide +kernel
theorem ft12_19 : jsk (jfty 12 19) = 0 := by decide +kernel
theorem nz12_19 : ¬ jfty 12 19 = 3 := by decide +kernel
theorem ft12_20 : jsk (jfty 12 20) = 0 := by decide +kernel
theorem nz12_20 : ¬ jfty 12 20 = 3 := by decide +kernel
theorem ft12_21 : jsk (jfty 12 21) = 0 := by decide +kernel
theorem nz12_21 : ¬ jfty 12 21 = 3 := by decide +kernel
theorem ft12_22 : jsk (jfty 12 22) = 0 := by decide +kernel
theorem nz12_22 : ¬ jfty 12 22 = 3 := by decide +kernel
theorem ft12_23 : jsk (jfty 12 23) = 0 := by decide +kernel
theorem nz12_23 : ¬ jfty 12 23 = 3 := by decide +kernel
theorem ft12_24 : jsk (jfty 12 24) = 2 := by decide +kernel
theorem nz12_24 : ¬ jfty 12 24 = 3 := by decide +kernel
theorem ft12_25 : jsk (jfty 12 25) = 2 := by decide +kernel
theorem nz12_25 : ¬ jfty 12 25 = 3 := by decide +kernel
theorem ft12_26 : jsk (jfty 12 26) = 2 := by decide +kernel
theorem nz12_26 : ¬ jfty 12 26 = 3 := by decide +kernel
theorem ft12_27 : jsk (jfty 12 27) = 2 := by decide +kernel
theorem nz12_27 : ¬ jfty 12 27 = 3 := by decide +kernel
theorem ft12_28 : jsk (jfty 12 28) = 0 := by decide +kernel
theorem nz12_28 : ¬ jfty 12 28 = 3 := by decide +kernel
theorem ft12_29 : jsk (jfty 12 29) = 2 := by decide +kernel
theorem nz12_29 : ¬ jfty 12 29 = 3 := by decide +kernel
theorem ft12_30 : jsk (jfty 12 30) = 2 := by decide +kernel
theorem nz12_30 : ¬ jfty 12 30 = 3 := by decide +kernel
theorem ft12_31 : jsk (jfty 12 31) = 0 := by decide +kernel
theorem nz12_31 : ¬ jfty 12 31 = 3 := by decide +kernel
theorem ft12_32 : jsk (jfty 12 32) = 2 := by decide +kernel
theorem nz12_32 : ¬ jfty 12 32 = 3 := by decide +kernel
theorem ft12_33 : jsk (jfty 12 33) = 2 := by decide +kernel
theorem nz12_33 : ¬ jfty 12 33 = 3 := by decide +kernel
theorem ft12_34 : jsk (jfty 12 34) = 2 := by decide +kernel
theorem nz12_34 : ¬ jfty 12 34 = 3 := by decide +kernel
theorem ft12_35 : jsk (jfty 12 35) = 2 := by decide +kernel
theorem nz12_35 : ¬ jfty 12 35 = 3 := by decide +kernel
theorem ft12_36 : jsk (jfty 12 36) = 0 := by decide +kernel
theorem nz12_36 : ¬ jfty 12 36 = 3 := by decide +kernel
theorem ft12_37 : jsk (jfty 12 37) = 0 := by decide +kernel
theorem nz12_37 : ¬ jfty 12 37 = 3 := by decide +kernel
theorem ft12_38 : jsk (jfty 12 38) = 0 := by decide +kernel
theorem nz12_38 : ¬ jfty 12 38 = 3 := by decide +kernel
theorem ft12_39 : jsk (jfty 12 39) = 0 := by decide +kernel
theorem ft12_40 : jsk (jfty 12 40) = 0 := by decide +kernel
theorem nz12_40 : ¬ jfty 12 40 = 3 := by decide +kernel
theorem ft12_41 : jsk (jfty 12 41) = 0 := by decide +kernel
theorem nz12_41 : ¬ jfty 12 41 = 3 := by decide +kernel
theorem ft12_42 : jsk (jfty 12 42) = 0 := by decide +kernel
theorem nz12_42 : ¬ jfty 12 42 = 3 := by decide +kernel
theorem ft12_43 : jsk (jfty 12 43) = 2 := by decide +kernel
theorem nz12_43 : ¬ jfty 12 43 = 3 := by decide +kernel
theorem ft12_44 : jsk (jfty 12 44) = 0 := by decide +kernel
theorem nz12_44 : ¬ jfty 12 44 = 3 := by decide +kernel
theorem ft12_45 : jsk (jfty 12 45) = 0 := by decide +kernel
theorem nz12_45 : ¬ jfty 12 45 = 3 := by decide +kernel
theorem ft12_46 : jsk (jfty 12 46) = 2 := by decide +kernel
theorem nz12_46 : ¬ jfty 12 46 = 3 := by decide +kernel
theorem ft12_47 : jsk (jfty 12 47) = 0 := by decide +kernel
theorem nz12_47 : ¬ jfty 12 47 = 3 := by decide +kernel
theorem ft12_48 : jsk (jfty 12 48) = 2 := by decide +kernel
theorem nz12_48 : ¬ jfty 12 48 = 3 := by decide +kernel
theorem ft12_49 : jsk (jfty 12 49) = 2 := by decide +kernel
theorem nz12_49 : ¬ jfty 12 49 = 3 := by decide +kernel
theorem ft12_50 : jsk (jfty 12 50) = 2 := by decide +kernel
theorem nz12_50 : ¬ jfty 12 50 = 3 := by decide +kernel
theorem ft12_51 : jsk (jfty 12 51) = 0 := by decide +kernel
theorem nz12_51 : ¬ jfty 12 51 = 3 := by decide +kernel
theorem ft12_52 : jsk (jfty 12 52) = 2 := by decide +kernel
theorem nz12_52 : ¬ jfty 12 52 = 3 := by decide +kernel
theorem ft12_53 : jsk (jfty 12 53) = 0 := by decide +kernel
theorem nz12_53 : ¬ jfty 12 53 = 3 := by decide +kernel
theorem ft12_54 : jsk (jfty 12 54) = 2 := by decide +kernel
theorem nz12_54 : ¬ jfty 12 54 = 3 := by decide +kernel
theorem ft12_55 : jsk (jfty 12 55) = 2 := by decide +kernel
theorem nz12_55 : ¬ jfty 12 55 = 3 := by decide +kernel
theorem ft12_56 : jsk (jfty 12 56) = 2 := by decide +kernel
theorem nz12_56 : ¬ jfty 12 56 = 3 := by decide +kernel
theorem ft12_57 : jsk (jfty 12 57) = 2 := by decide +kernel
theorem nz12_57 : ¬ jfty 12 57 = 3 := by decide +kernel
theorem ft12_58 : jsk (jfty 12 58) = 2 := by decide +kernel
theorem nz12_58 : ¬ jfty 12 58 = 3 := by decide +kernel
theorem ft12_59 : jsk (jfty 12 59) = 2 := by decide +kernel
theorem nz12_59 : ¬ jfty 12 59 = 3 := by decide +kernel
theorem ft12_60 : jsk (jfty 12 60) = 0 := by decide +kernel
theorem nz12_60 : ¬ jfty 12 60 = 3 := by decide +kernel
theorem ft12_61 : jsk (jfty 12 61) = 2 := by decide +kernel
theorem nz12_61 : ¬ jfty 12 61 = 3 := by decide +kernel
theorem ft12_62 : jsk (jfty 12 62) = 2 := by decide +kernel
theorem nz12_62 : ¬ jfty 12 62 = 3 := by decide +kernel
theorem ft12_63 : jsk (jfty 12 63) = 2 := by decide +kernel
theorem nz12_63 : ¬ jfty 12 63 = 3 := by decide +kernel
theorem ft12_64 : jsk (jfty 12 64) = 2 := by decide +kernel
theorem nz12_64 : ¬ jfty 12 64 = 3 := by decide +kernel
theorem ft12_65 : jsk (jfty 12 65) = 2 := by decide +kernel
theorem nz12_65 : ¬ jfty 12 65 = 3 := by decide +kernel
theorem ml0 : jML 0 = 4 := by decide +kernel
theorem pp0 : jP 0 = c0_0 := rfl
theorem ml1 : jML 1 = 1 := by decide +kernel
theorem pp1 : jP 1 = c1_0 := rfl
theorem ml2 : jML 2 = 2 := by decide +kernel
theorem pp2 : jP 2 = c2_0 := rfl
theorem ml3 : jML 3 = 1 := by decide +kernel
theorem pp3 : jP 3 = c3_0 := rfl
theorem ml4 : jML 4 = 1 := by decide +kernel
theorem pp4 : jP 4 = c4_0 := rfl
theorem ml5 : jML 5 = 2 := by decide +kernel
theorem pp5 : jP 5 = c5_0 := rfl
theorem ml6 : jML 6 = 2 := by decide +kernel
theorem pp6 : jP 6 = c6_0 := rfl
theorem ml7 : jML 7 = 2 := by decide +kernel
theorem pp7 : jP 7 = c7_0 := rfl
theorem ml8 : jML 8 = 2 := by decide +kernel
theorem pp8 : jP 8 = c8_0 := rfl
theorem ml9 : jML 9 = 4 := by decide +kernel
theorem pp9 : jP 9 = c9_0 := rfl
theorem ml10 : jML 10 = 1 := by decide +kernel
theorem pp10 : jP 10 = c10_0 := rfl
theorem ml11 : jML 11 = 2 := by decide +kernel
theorem pp11 : jP 11 = c11_0 := rfl
theorem ml12 : jML 12 = 2 := by decide +kernel
theorem pp12 : jP 12 = c12_0 := rfl
theorem ml13 : jML 13 = 4 := by decide +kernel
theorem pp13 : jP 13 = c13_0 := rfl
theorem ml14 : jML 14 = 1 := by decide +kernel
theorem pp14 : jP 14 = c14_0 := rfl
theorem ml15 : jML 15 = 1 := by decide +kernel
theorem pp15 : jP 15 = c15_0 := rfl
theorem ml16 : jML 16 = 2 := by decide +kernel
theorem pp16 : jP 16 = c16_0 := rfl
theorem ml17 : jML 17 = 4 := by decide +kernel
theorem pp17 : jP 17 = c17_0 := rfl
theorem ml18 : jML 18 = 1 := by decide +kernel
theorem pp18 : jP 18 = c18_0 := rfl
theorem ml19 : jML 19 = 2 := by decide +kernel
theorem pp19 : jP 19 = c19_0 := rfl
theorem ml20 : jML 20 = 2 := by decide +kernel
theorem pp20 : jP 20 = c20_0 := rfl
theorem ml21 : jML 21 = 3 := by decide +kernel
theorem pp21 : jP 21 = c21_0 := rfl
theorem ml22 : jML 22 = 6 := by decide +kernel
theorem pp22 : jP 22 = c22_0 := rfl
theorem ml23 : jML 23 = 4 := by decide +kernel
theorem pp23 : jP 23 = c23_0 := rfl
theorem ml24 : jML 24 = 2 := by decide +kernel
theorem pp24 : jP 24 = c24_0 := rfl
theorem ml25 : jML 25 = 3 := by decide +kernel
theorem pp25 : jP 25 = c25_0 := rfl
theorem ml26 : jML 26 = 3 := by decide +kernel
theorem pp26 : jP 26 = c26_0 := rfl
theorem ml27 : jML 27 = 2 := by decide +kernel
theorem pp27 : jP 27 = c27_0 := rfl
theorem ml28 : jML 28 = 2 := by decide +kernel
theorem pp28 : jP 28 = c28_0 := rfl
theorem ml29 : jML 29 = 2 := by decide +kernel
theorem pp29 : jP 29 = c29_0 := rfl
theorem ml30 : jML 30 = 3 := by decide +kernel
theorem pp30 : jP 30 = c30_0 := rfl
theorem ml31 : jML 31 = 3 := by decide +kernel
theorem pp31 : jP 31 = c31_0 := rfl
theorem ml32 : jML 32 = 3 := by decide +kernel
theorem pp32 : jP 32 = c32_0 := rfl
theorem ml33 : jML 33 = 3 := by decide +kernel
theorem pp33 : jP 33 = c33_0 := rfl
theorem ml34 : jML 34 = 3 := by decide +kernel
theorem pp34 : jP 34 = c34_0 := rfl
theorem ml35 : jML 35 = 4 := by decide +kernel
theorem pp35 : jP 35 = c35_0 := rfl
theorem ml36 : jML 36 = 2 := by decide +kernel
theorem pp36 : jP 36 = c36_0 := rfl
theorem ml37 : jML 37 = 3 := by decide +kernel
theorem pp37 : jP 37 = c37_0 := rfl
theorem ml38 : jML 38 = 2 := by decide +kernel
theorem pp38 : jP 38 = c38_0 := rfl
theorem ml39 : jML 39 = 1 := by decide +kernel
theorem pp39 : jP 39 = c39_0 := rfl
theorem ml40 : jML 40 = 4 := by decide +kernel
theorem pp40 : jP 40 = c40_0 := rfl
theorem ml41 : jML 41 = 4 := by decide +kernel
theorem pp41 : jP 41 = c41_0 := rfl
theorem ml42 : jML 42 = 3 := by decide +kernel
theorem pp42 : jP 42 = c42_0 := rfl
theorem ml43 : jML 43 = 8 := by decide +kernel
theorem pp43 : jP 43 = c43_0 := rfl
theorem ml44 : jML 44 = 4 := by decide +kernel
theorem pp44 : jP 44 = c44_0 := rfl
theorem ml45 : jML 45 = 12 := by decide +kernel
theorem pp45 : jP 45 = c45_0 := rfl
theorem ml46 : jML 46 = 8 := by decide +kernel
theorem pp46 : jP 46 = c46_0 := rfl
theorem ml47 : jML 47 = 4 := by decide +kernel
theorem pp47 : jP 47 = c47_0 := rfl
theorem ml48 : jML 48 = 3 := by decide +kernel
theorem pp48 : jP 48 = c48_0 := rfl
theorem ml49 : jML 49 = 2 := by decide +kernel
theorem pp49 : jP 49 = c49_0 := rfl
theorem ml50 : jML 50 = 9 := by decide +kernel
theorem pp50 : jP 50 = c50_0 := rfl
theorem ml51 : jML 51 = 7 := by decide +kernel
theorem pp51 : jP 51 = c51_0 := rfl
theorem ml52 : jML 52 = 3 := by decide +kernel
theorem pp52 : jP 52 = c52_0 := rfl
theorem ml53 : jML 53 = 4 := by decide +kernel
theorem pp53 : jP 53 = c53_0 := rfl
theorem ml54 : jML 54 = 4 := by decide +kernel
theorem pp54 : jP 54 = c54_0 := rfl
theorem ml55 : jML 55 = 4 := by decide +kernel
theorem pp55 : jP 55 = c55_0 := rfl
theorem ml56 : jML 56 = 6 := by decide +kernel
theorem pp56 : jP 56 = c56_0 := rfl
theorem ml57 : jML 57 = 8 := by decide +kernel
theorem pp57 : jP 57 = c57_0 := rfl
theorem ml58 : jML 58 = 3 := by decide +kernel
theorem pp58 : jP 58 = c58_0 := rfl
theorem ml59 : jML 59 = 4 := by decide +kernel
theorem pp59 : jP 59 = c59_0 := rfl
theorem ml60 : jML 60 = 13 := by decide +kernel
theorem pp60 : jP 60 = c60_0 := rfl
theorem ml61 : jML 61 = 10 := by decide +kernel
theorem pp61 : jP 61 = c61_0 := rfl
theorem ml62 : jML 62 = 1 := by decide +kernel
theorem pp62 : jP 62 = c62_0 := rfl
theorem ml63 : jML 63 = 2 := by decide +kernel
theorem pp63 : jP 63 = c63_0 := rfl
theorem ml64 : jML 64 = 4 := by decide +kernel
theorem pp64 : jP 64 = c64_0 := rfl
theorem ml65 : jML 65 = 1 := by decide +kernel
theorem pp65 : jP 65 = c65_0 := rfl
theorem ml66 : jML 66 = 2 := by decide +kernel
theorem pp66 : jP 66 = c66_0 := rfl
theorem ml67 : jML 67 = 3 := by decide +kernel
theorem pp67 : jP 67 = c67_0 := rfl
theorem ml68 : jML 68 = 1 := by decide +kernel
theorem pp68 : jP 68 = c68_0 := rfl
theorem ml69 : jML 69 = 1 := by decide +kernel
theorem pp69 : jP 69 = c69_0 := rfl
theorem ml70 : jML 70 = 1 := by decide +kernel
theorem pp70 : jP 70 = c70_0 := rfl
theorem ml71 : jML 71 = 2 := by decide +kernel
theorem pp71 : jP 71 = c71_0 := rfl
theorem ml72 : jML 72 = 2 := by decide +kernel
theorem pp72 : jP 72 = c72_0 := rfl
theorem ml73 : jML 73 = 2 := by decide +kernel
theorem pp73 : jP 73 = c73_0 := rfl
theorem ml74 : jML 74 = 5 := by decide +kernel
theorem pp74 : jP 74 = c74_0 := rfl
theorem ml75 : jML 75 = 4 := by decide +kernel
theorem pp75 : jP 75 = c75_0 := rfl
theorem ml76 : jML 76 = 4 := by decide +kernel
theorem pp76 : jP 76 = c76_0 := rfl
theorem ml77 : jML 77 = 5 := by decide +kernel
theorem pp77 : jP 77 = c77_0 := rfl
theorem ml78 : jML 78 = 7 := by decide +kernel
theorem pp78 : jP 78 = c78_0 := rfl
theorem ml79 : jML 79 = 7 := by decide +kernel
theorem pp79 : jP 79 = c79_0 := rfl
theorem ml80 : jML 80 = 5 := by decide +kernel
theorem pp80 : jP 80 = c80_0 := rfl
theorem ml81 : jML 81 = 4 := by decide +kernel
theorem pp81 : jP 81 = c81_0 := rfl
theorem ml82 : jML 82 = 10 := by decide +kernel
theorem pp82 : jP 82 = c82_0 := rfl
theorem ml83 : jML 83 = 4 := by decide +kernel
theorem pp83 : jP 83 = c83_0 := rfl
theorem ml84 : jML 84 = 1 := by decide +kernel
theorem pp84 : jP 84 = c84_0 := rfl
theorem ml85 : jML 85 = 1 := by decide +kernel
theorem pp85 : jP 85 = c85_0 := rfl
theorem ml86 : jML 86 = 2 := by decide +kernel
theorem pp86 : jP 86 = c86_0 := rfl
theorem ml87 : jML 87 = 2 := by decide +kernel
theorem pp87 : jP 87 = c87_0 := rfl
theorem ml88 : jML 88 = 1 := by decide +kernel
theorem pp88 : jP 88 = c88_0 := rfl
theorem ml89 : jML 89 = 1 := by decide +kernel
theorem pp89 : jP 89 = c89_0 := rfl
theorem ml90 : jML 90 = 5 := by decide +kernel
theorem pp90 : jP 90 = c90_0 := rfl
theorem ml91 : jML 91 = 2 := by decide +kernel
theorem pp91 : jP 91 = c91_0 := rfl
theorem ml92 : jML 92 = 7 := by decide +kernel
theorem pp92 : jP 92 = c92_0 := rfl
theorem ml93 : jML 93 = 1 := by decide +kernel
theorem pp93 : jP 93 = c93_0 := rfl
theorem ml94 : jML 94 = 2 := by decide +kernel
theorem pp94 : jP 94 = c94_0 := rfl
theorem ml95 : jML 95 = 2 := by decide +kernel
theorem pp95 : jP 95 = c95_0 := rfl
theorem ml96 : jML 96 = 2 := by decide +kernel
theorem pp96 : jP 96 = c96_0 := rfl
theorem ml97 : jML 97 = 4 := by decide +kernel
theorem pp97 : jP 97 = c97_0 := rfl
theorem ml98 : jML 98 = 1 := by decide +kernel
theorem pp98 : jP 98 = c98_0 := rfl
theorem ml99 : jML 99 = 2 := by decide +kernel
theorem pp99 : jP 99 = c99_0 := rfl
theorem ml100 : jML 100 = 2 := by decide +kernel
theorem pp100 : jP 100 = c100_0 := rfl
theorem ml101 : jML 101 = 2 := by decide +kernel
theorem pp101 : jP 101 = c101_0 := rfl
theorem ml102 : jML 102 = 1 := by decide +kernel
theorem pp102 : jP 102 = c102_0 := rfl
theorem ml103 : jML 103 = 3 := by decide +kernel
theorem pp103 : jP 103 = c103_0 := rfl
theorem ml104 : jML 104 = 1 := by decide +kernel
theorem pp104 : jP 104 = c104_0 := rfl
theorem ml105 : jML 105 = 3 := by decide +kernel
theorem pp105 : jP 105 = c105_0 := rfl
theorem ml106 : jML 106 = 4 := by decide +kernel
theorem pp106 : jP 106 = c106_0 := rfl
theorem ml107 : jML 107 = 6 := by decide +kernel
theorem pp107 : jP 107 = c107_0 := rfl
theorem ml108 : jML 108 = 5 := by decide +kernel
theorem pp108 : jP 108 = c108_0 := rfl
theorem ml109 : jML 109 = 5 := by decide +kernel
theorem pp109 : jP 109 = c109_0 := rfl
theorem ml110 : jML 110 = 3 := by decide +kernel
theorem pp110 : jP 110 = c110_0 := rfl
theorem ml111 : jML 111 = 1 := by decide +kernel
theorem pp111 : jP 111 = c111_0 := rfl
theorem ml112 : jML 112 = 1 := by decide +kernel
theorem pp112 : jP 112 = c112_0 := rfl
theorem ml113 : jML 113 = 2 := by decide +kernel
theorem pp113 : jP 113 = c113_0 := rfl
theorem ml114 : jML 114 = 1 := by decide +kernel
theorem pp114 : jP 114 = c114_0 := rfl
theorem ml115 : jML 115 = 1 := by decide +kernel
theorem pp115 : jP 115 = c115_0 := rfl
theorem ml116 : jML 116 = 7 := by decide +kernel
theorem pp116 : jP 116 = c116_0 := rfl
theorem ml117 : jML 117 = 6 := by decide +kernel
theorem pp117 : jP 117 = c117_0 := rfl
theorem ml118 : jML 118 = 8 := by decide +kernel
theorem pp118 : jP 118 = c118_0 := rfl
theorem ml119 : jML 119 = 4 := by decide +kernel
theorem pp119 : jP 119 = c119_0 := rfl
theorem ml120 : jML 120 = 3 := by decide +kernel
theorem pp120 : jP 120 = c120_0 := rfl
theorem ml121 : jML 121 = 2 := by decide +kernel
theorem pp121 : jP 121 = c121_0 := rfl
theorem ml122 : jML 122 = 6 := by decide +kernel
theorem pp122 : jP 122 = c122_0 := rfl
theorem ml123 : jML 123 = 3 := by decide +kernel
theorem pp123 : jP 123 = c123_0 := rfl
theorem ml124 : jML 124 = 3 := by decide +kernel
theorem pp124 : jP 124 = c124_0 := rfl
theorem ml125 : jML 125 = 8 := by decide +kernel
theorem pp125 : jP 125 = c125_0 := rfl
theorem ml126 : jML 126 = 3 := by decide +kernel
theorem pp126 : jP 126 = c126_0 := rfl
theorem ml127 : jML 127 = 4 := by decide +kernel
theorem pp127 : jP 127 = c127_0 := rfl
theorem ml128 : jML 128 = 6 := by decide +kernel
theorem pp128 : jP 128 = c128_0 := rfl
theorem ml129 : jML 129 = 3 := by decide +kernel
theorem pp129 : jP 129 = c129_0 := rfl
theorem ml130 : jML 130 = 2 := by decide +kernel
theorem pp130 : jP 130 = c130_0 := rfl
theorem ml131 : jML 131 = 7 := by decide +kernel
theorem pp131 : jP 131 = c131_0 := rfl
theorem ml132 : jML 132 = 3 := by decide +kernel
theorem pp132 : jP 132 = c132_0 := rfl
theorem ml133 : jML 133 = 4 := by decide +kernel
theorem pp133 : jP 133 = c133_0 := rfl
theorem ml134 : jML 134 = 3 := by decide +kernel
theorem pp134 : jP 134 = c134_0 := rfl
theorem ml135 : jML 135 = 5 := by decide +kernel
theorem pp135 : jP 135 = c135_0 := rfl
theorem ml136 : jML 136 = 11 := by decide +kernel
theorem pp136 : jP 136 = c136_0 := rfl
theorem ml137 : jML 137 = 6 := by decide +kernel
theorem pp137 : jP 137 = c137_0 := rfl
theorem ml138 : jML 138 = 1 := by decide +kernel
theorem pp138 : jP 138 = c138_0 := rfl
theorem ml139 : jML 139 = 2 := by decide +kernel
theorem pp139 : jP 139 = c139_0 := rfl
theorem ml140 : jML 140 = 2 := by decide +kernel
theorem pp140 : jP 140 = c140_0 := rfl
theorem ml141 : jML 141 = 2 := by decide +kernel
theorem pp141 : jP 141 = c141_0 := rfl
theorem ml142 : jML 142 = 2 := by decide +kernel
theorem pp142 : jP 142 = c142_0 := rfl
theorem ml143 : jML 143 = 3 := by decide +kernel
theorem pp143 : jP 143 = c143_0 := rfl
theorem ml144 : jML 144 = 3 := by decide +kernel
theorem pp144 : jP 144 = c144_0 := rfl
theorem ml145 : jML 145 = 2 := by decide +kernel
theorem pp145 : jP 145 = c145_0 := rfl
theorem ml146 : jML 146 = 4 := by decide +kernel
theorem pp146 : jP 146 = c146_0 := rfl
theorem ml147 : jML 147 = 3 := by decide +kernel
theorem pp147 : jP 147 = c147_0 := rfl
theorem ml148 : jML 148 = 2 := by decide +kernel
theorem pp148 : jP 148 = c148_0 := rfl
theorem ml149 : jML 149 = 3 := by decide +kernel
theorem pp149 : jP 149 = c149_0 := rfl
theorem ml150 : jML 150 = 5 := by decide +kernel
theorem pp150 : jP 150 = c150_0 := rfl
theorem ml151 : jML 151 = 9 := by decide +kernel
theorem pp151 : jP 151 = c151_0 := rfl
theorem ml152 : jML 152 = 6 := by decide +kernel
theorem pp152 : jP 152 = c152_0 := rfl
theorem ml153 : jML 153 = 1 := by decide +kernel
theorem pp153 : jP 153 = c153_0 := rfl
theorem ml154 : jML 154 = 6 := by decide +kernel
theorem pp154 : jP 154 = c154_0 := rfl
theorem ml155 : jML 155 = 8 := by decide +kernel
theorem pp155 : jP 155 = c155_0 := rfl
theorem ml156 : jML 156 = 8 := by decide +kernel
theorem pp156 : jP 156 = c156_0 := rfl
theorem ml157 : jML 157 = 1 := by decide +kernel
theorem pp157 : jP 157 = c157_0 := rfl
theorem ml158 : jML 158 = 3 := by decide +kernel
theorem pp158 : jP 158 = c158_0 := rfl
theorem ml159 : jML 159 = 3 := by decide +kernel
theorem pp159 : jP 159 = c159_0 := rfl
theorem ml160 : jML 160 = 2 := by decide +kernel
theorem pp160 : jP 160 = c160_0 := rfl
theorem ml161 : jML 161 = 2 := by decide +kernel
theorem pp161 : jP 161 = c161_0 := rfl
theorem ml162 : jML 162 = 1 := by decide +kernel
theorem pp162 : jP 162 = c162_0 := rfl
theorem ml163 : jML 163 = 3 := by decide +kernel
theorem pp163 : jP 163 = c163_0 := rfl
theorem ml164 : jML 164 = 8 := by decide +kernel
theorem pp164 : jP 164 = c164_0 := rfl
theorem ml165 : jML 165 = 1 := by decide +kernel
theorem pp165 : jP 165 = c165_0 := rfl
theorem ml166 : jML 166 = 2 := by decide +kernel
theorem pp166 : jP 166 = c166_0 := rfl
theorem ml167 : jML 167 = 3 := by decide +kernel
theorem pp167 : jP 167 = c167_0 := rfl
theorem ml168 : jML 168 = 7 := by decide +kernel
theorem pp168 : jP 168 = c168_0 := rfl
theorem ml169 : jML 169 = 1 := by decide +kernel
theorem pp169 : jP 169 = c169_0 := rfl
theorem ml170 : jML 170 = 2 := by decide +kernel
theorem pp170 : jP 170 = c170_0 := rfl
theorem ml171 : jML 171 = 4 := by decide +kernel
theorem pp171 : jP 171 = c171_0 := rfl
theorem ml172 : jML 172 = 3 := by decide +kernel
theorem pp172 : jP 172 = c172_0 := rfl
theorem ml173 : jML 173 = 3 := by decide +kernel
theorem pp173 : jP 173 = c173_0 := rfl
theorem ml174 : jML 174 = 5 := by decide +kernel
theorem pp174 : jP 174 = c174_0 := rfl
theorem ml175 : jML 175 = 7 := by decide +kernel
theorem pp175 : jP 175 = c175_0 := rfl
theorem ml176 : jML 176 = 1 := by decide +kernel
theorem pp176 : jP 176 = c176_0 := rfl
theorem ml177 : jML 177 = 1 := by decide +kernel
theorem pp177 : jP 177 = c177_0 := rfl
theorem ml178 : jML 178 = 4 := by decide +kernel
theorem pp178 : jP 178 = c178_0 := rfl
theorem ml179 : jML 179 = 3 := by decide +kernel
theorem pp179 : jP 179 = c179_0 := rfl
theorem ml180 : jML 180 = 4 := by decide +kernel
theorem pp180 : jP 180 = c180_0 := rfl
theorem ml181 : jML 181 = 8 := by decide +kernel
theorem pp181 : jP 181 = c181_0 := rfl
theorem ml182 : jML 182 = 6 := by decide +kernel
theorem pp182 : jP 182 = c182_0 := rfl
theorem ml183 : jML 183 = 6 := by decide +kernel
theorem pp183 : jP 183 = c183_0 := rfl
theorem ml184 : jML 184 = 5 := by decide +kernel
theorem pp184 : jP 184 = c184_0 := rfl
theorem ml185 : jML 185 = 6 := by decide +kernel
theorem pp185 : jP 185 = c185_0 := rfl
theorem ml186 : jML 186 = 4 := by decide +kernel
theorem pp186 : jP 186 = c186_0 := rfl
theorem ml187 : jML 187 = 9 := by decide +kernel
theorem pp187 : jP 187 = c187_0 := rfl
theorem ml188 : jML 188 = 14 := by decide +kernel
theorem pp188 : jP 188 = c188_0 := rfl
theorem ml189 : jML 189 = 9 := by decide +kernel
theorem pp189 : jP 189 = c189_0 := rfl
theorem ml190 : jML 190 = 5 := by decide +kernel
theorem pp190 : jP 190 = c190_0 := rfl
theorem ml191 : jML 191 = 7 := by decide +kernel
theorem pp191 : jP 191 = c191_0 := rfl
theorem ml192 : jML 192 = 8 := by decide +kernel
theorem pp192 : jP 192 = c192_0 := rfl
theorem ml193 : jML 193 = 9 := by decide +kernel
theorem pp193 : jP 193 = c193_0 := rfl
theorem ml194 : jML 194 = 10 := by decide +kernel
theorem pp194 : jP 194 = c194_0 := rfl
theorem ml195 : jML 195 = 3 := by decide +kernel
theorem pp195 : jP 195 = c195_0 := rfl
theorem ml196 : jML 196 = 4 := by decide +kernel
theorem pp196 : jP 196 = c196_0 := rfl
theorem ml197 : jML 197 = 2 := by decide +kernel
theorem pp197 : jP 197 = c197_0 := rfl
theorem ml198 : jML 198 = 6 := by decide +kernel
theorem pp198 : jP 198 = c198_0 := rfl
theorem ml199 : jML 199 = 2 := by decide +kernel
theorem pp199 : jP 199 = c199_0 := rfl
theorem ml200 : jML 200 = 4 := by decide +kernel
theorem pp200 : jP 200 = c200_0 := rfl
theorem ml201 : jML 201 = 2 := by decide +kernel
theorem pp201 : jP 201 = c201_0 := rfl
theorem ml202 : jML 202 = 3 := by decide +kernel
theorem pp202 : jP 202 = c202_0 := rfl
theorem ml203 : jML 203 = 1 := by decide +kernel
theorem pp203 : jP 203 = c203_0 := rfl
theorem ml204 : jML 204 = 3 := by decide +kernel
theorem pp204 : jP 204 = c204_0 := rfl
theorem ml205 : jML 205 = 4 := by decide +kernel
theorem pp205 : jP 205 = c205_0 := rfl
theorem ml206 : jML 206 = 5 := by decide +kernel
theorem pp206 : jP 206 = c206_0 := rfl
theorem ml207 : jML 207 = 4 := by decide +kernel
theorem pp207 : jP 207 = c207_0 := rfl
theorem ml208 : jML 208 = 5 := by decide +kernel
theorem pp208 : jP 208 = c208_0 := rfl
theorem ml209 : jML 209 = 10 := by decide +kernel
theorem pp209 : jP 209 = c209_0 := rfl
theorem ml210 : jML 210 = 5 := by decide +kernel
theorem pp210 : jP 210 = c210_0 := rfl
theorem ml211 : jML 211 = 2 := by decide +kernel
theorem pp211 : jP 211 = c211_0 := rfl
theorem ml212 : jML 212 = 3 := by decide +kernel
theorem pp212 : jP 212 = c212_0 := rfl
theorem ml213 : jML 213 = 5 := by decide +kernel
theorem pp213 : jP 213 = c213_0 := rfl
theorem ml214 : jML 214 = 6 := by decide +kernel
theorem pp214 : jP 214 = c214_0 := rfl
theorem ml215 : jML 215 = 3 := by decide +kernel
theorem pp215 : jP 215 = c215_0 := rfl
theorem ml216 : jML 216 = 6 := by decide +kernel
theorem pp216 : jP 216 = c216_0 := rfl
theorem ml217 : jML 217 = 4 := by decide +kernel
theorem pp217 : jP 217 = c217_0 := rfl
theorem ml218 : jML 218 = 2 := by decide +kernel
theorem pp218 : jP 218 = c218_0 := rfl
theorem ml219 : jML 219 = 2 := by decide +kernel
theorem pp219 : jP 219 = c219_0 := rfl
theorem ml220 : jML 220 = 2 := by decide +kernel
theorem pp220 : jP 220 = c220_0 := rfl
theorem ml221 : jML 221 = 1 := by decide +kernel
theorem pp221 : jP 221 = c221_0 := rfl
theorem ml222 : jML 222 = 1 := by decide +kernel
theorem pp222 : jP 222 = c222_0 := rfl
theorem ml223 : jML 223 = 9 := by decide +kernel
theorem pp223 : jP 223 = c223_0 := rfl
theorem ml224 : jML 224 = 11 := by decide +kernel
theorem pp224 : jP 224 = c224_0 := rfl
theorem ml225 : jML 225 = 4 := by decide +kernel
theorem pp225 : jP 225 = c225_0 := rfl
theorem ml226 : jML 226 = 2 := by decide +kernel
theorem pp226 : jP 226 = c226_0 := rfl
theorem ml227 : jML 227 = 8 := by decide +kernel
theorem pp227 : jP 227 = c227_0 := rfl
theorem ml228 : jML 228 = 3 := by decide +kernel
theorem pp228 : jP 228 = c228_0 := rfl
theorem ml229 : jML 229 = 4 := by decide +kernel
theorem pp229 : jP 229 = c229_0 := rfl
theorem ml230 : jML 230 = 6 := by decide +kernel
theorem pp230 : jP 230 = c230_0 := rfl
theorem ml231 : jML 231 = 9 := by decide +kernel
theorem pp231 : jP 231 = c231_0 := rfl
theorem ml232 : jML 232 = 3 := by decide +kernel
theorem pp232 : jP 232 = c232_0 := rfl
theorem ml233 : jML 233 = 6 := by decide +kernel
theorem pp233 : jP 233 = c233_0 := rfl
theorem ml234 : jML 234 = 6 := by decide +kernel
theorem pp234 : jP 234 = c234_0 := rfl
theorem ml235 : jML 235 = 7 := by decide +kernel
theorem pp235 : jP 235 = c235_0 := rfl
theorem ml236 : jML 236 = 5 := by decide +kernel
theorem pp236 : jP 236 = c236_0 := rfl
theorem ml237 : jML 237 = 16 := by decide +kernel
theorem pp237 : jP 237 = c237_0 := rfl
theorem ml238 : jML 238 = 10 := by decide +kernel
theorem pp238 : jP 238 = c238_0 := rfl
theorem ml239 : jML 239 = 3 := by decide +kernel
theorem pp239 : jP 239 = c239_0 := rfl
theorem ml240 : jML 240 = 3 := by decide +kernel
theorem pp240 : jP 240 = c240_0 := rfl
theorem ml241 : jML 241 = 1 := by decide +kernel
theorem pp241 : jP 241 = c241_0 := rfl
theorem ml242 : jML 242 = 3 := by decide +kernel
theorem pp242 : jP 242 = c242_0 := rfl
theorem ml243 : jML 243 = 10 := by decide +kernel
theorem pp243 : jP 243 = c243_0 := rfl
theorem ml244 : jML 244 = 7 := by decide +kernel
theorem pp244 : jP 244 = c244_0 := rfl
theorem ml245 : jML 245 = 2 := by decide +kernel
theorem pp245 : jP 245 = c245_0 := rfl
theorem ml246 : jML 246 = 2 := by decide +kernel
theorem pp246 : jP 246 = c246_0 := rfl
theorem ml247 : jML 247 = 3 := by decide +kernel
theorem pp247 : jP 247 = c247_0 := rfl
theorem ml248 : jML 248 = 4 := by decide +kernel
theorem pp248 : jP 248 = c248_0 := rfl
theorem ml249 : jML 249 = 4 := by decide +kernel
theorem pp249 : jP 249 = c249_0 := rfl
theorem ml250 : jML 250 = 7 := by decide +kernel
theorem pp250 : jP 250 = c250_0 := rfl
theorem ml251 : jML 251 = 5 := by decide +kernel
theorem pp251 : jP 251 = c251_0 := rfl
theorem ml252 : jML 252 = 5 := by decide +kernel
theorem pp252 : jP 252 = c252_0 := rfl
theorem ml253 : jML 253 = 6 := by decide +kernel
theorem pp253 : jP 253 = c253_0 := rfl
theorem ml254 : jML 254 = 1 := by decide +kernel
theorem pp254 : jP 254 = c254_0 := rfl
theorem ml255 : jML 255 = 6 := by decide +kernel
theorem pp255 : jP 255 = c255_0 := rfl
theorem ml256 : jML 256 = 4 := by decide +kernel
theorem pp256 : jP 256 = c256_0 := rfl
theorem ml257 : jML 257 = 6 := by decide +kernel
theorem pp257 : jP 257 = c257_0 := rfl
theorem ml258 : jML 258 = 3 := by decide +kernel
theorem pp258 : jP 258 = c258_0 := rfl
theorem ml259 : jML 259 = 5 := by decide +kernel
theorem pp259 : jP 259 = c259_0 := rfl
theorem ml260 : jML 260 = 9 := by decide +kernel
theorem pp260 : jP 260 = c260_0 := rfl
theorem ml261 : jML 261 = 2 := by decide +kernel
theorem pp261 : jP 261 = c261_0 := rfl
theorem ml262 : jML 262 = 3 := by decide +kernel
theorem pp262 : jP 262 = c262_0 := rfl
theorem ml263 : jML 263 = 4 := by decide +kernel
theorem pp263 : jP 263 = c263_0 := rfl
theorem ml264 : jML 264 = 2 := by decide +kernel
theorem pp264 : jP 264 = c264_0 := rfl
theorem ml265 : jML 265 = 2 := by decide +kernel
theorem pp265 : jP 265 = c265_0 := rfl
theorem ml266 : jML 266 = 2 := by decide +kernel
theorem pp266 : jP 266 = c266_0 := rfl
theorem ml267 : jML 267 = 6 := by decide +kernel
theorem pp267 : jP 267 = c267_0 := rfl
theorem ml268 : jML 268 = 4 := by decide +kernel
theorem pp268 : jP 268 = c268_0 := rfl
theorem ml269 : jML 269 = 7 := by decide +kernel
theorem pp269 : jP 269 = c269_0 := rfl
theorem ml270 : jML 270 = 10 := by decide +kernel
theorem pp270 : jP 270 = c270_0 := rfl
theorem ml271 : jML 271 = 9 := by decide +kernel
theorem pp271 : jP 271 = c271_0 := rfl
theorem ml272 : jML 272 = 7 := by decide +kernel
theorem pp272 : jP 272 = c272_0 := rfl
theorem ml273 : jML 273 = 3 := by decide +kernel
theorem pp273 : jP 273 = c273_0 := rfl
theorem ml274 : jML 274 = 2 := by decide +kernel
theorem pp274 : jP 274 = c274_0 := rfl
theorem ml275 : jML 275 = 6 := by decide +kernel
theorem pp275 : jP 275 = c275_0 := rfl
theorem ml276 : jML 276 = 2 := by decide +kernel
theorem pp276 : jP 276 = c276_0 := rfl
theorem ml277 : jML 277 = 3 := by decide +kernel
theorem pp277 : jP 277 = c277_0 := rfl
theorem ml278 : jML 278 = 4 := by decide +kernel
theorem pp278 : jP 278 = c278_0 := rfl
theorem ml279 : jML 279 = 6 := by decide +kernel
theorem pp279 : jP 279 = c279_0 := rfl
theorem ml280 : jML 280 = 4 := by decide +kernel
theorem pp280 : jP 280 = c280_0 := rfl
theorem ml281 : jML 281 = 8 := by decide +kernel
theorem pp281 : jP 281 = c281_0 := rfl
theorem ml282 : jML 282 = 1 := by decide +kernel
theorem pp282 : jP 282 = c282_0 := rfl
theorem ml283 : jML 283 = 1 := by decide +kernel
theorem pp283 : jP 283 = c283_0 := rfl
theorem ml284 : jML 284 = 2 := by decide +kernel
theorem pp284 : jP 284 = c284_0 := rfl
theorem ml285 : jML 285 = 3 := by decide +kernel
theorem pp285 : jP 285 = c285_0 := rfl
theorem ml286 : jML 286 = 3 := by decide +kernel
theorem pp286 : jP 286 = c286_0 := rfl
theorem ml287 : jML 287 = 4 := by decide +kernel
theorem pp287 : jP 287 = c287_0 := rfl
theorem ml288 : jML 288 = 4 := by decide +kernel
theorem pp288 : jP 288 = c288_0 := rfl
theorem ml289 : jML 289 = 4 := by decide +kernel
theorem pp289 : jP 289 = c289_0 := rfl
theorem ml290 : jML 290 = 3 := by decide +kernel
theorem pp290 : jP 290 = c290_0 := rfl
theorem ml291 : jML 291 = 6 := by decide +kernel
theorem pp291 : jP 291 = c291_0 := rfl
theorem ml292 : jML 292 = 3 := by decide +kernel
theorem pp292 : jP 292 = c292_0 := rfl
theorem ml293 : jML 293 = 4 := by decide +kernel
theorem pp293 : jP 293 = c293_0 := rfl
theorem ml294 : jML 294 = 9 := by decide +kernel
theorem pp294 : jP 294 = c294_0 := rfl
theorem ml295 : jML 295 = 11 := by decide +kernel
theorem pp295 : jP 295 = c295_0 := rfl
theorem ml296 : jML 296 = 8 := by decide +kernel
theorem pp296 : jP 296 = c296_0 := rfl
theorem ml297 : jML 297 = 4 := by decide +kernel
theorem pp297 : jP 297 = c297_0 := rfl
theorem ml298 : jML 298 = 5 := by decide +kernel
theorem pp298 : jP 298 = c298_0 := rfl
theorem ml299 : jML 299 = 2 := by decide +kernel
theorem pp299 : jP 299 = c299_0 := rfl
theorem ml300 : jML 300 = 3 := by decide +kernel
theorem pp300 : jP 300 = c300_0 := rfl
theorem ml301 : jML 301 = 6 := by decide +kernel
theorem pp301 : jP 301 = c301_0 := rfl
theorem ml302 : jML 302 = 5 := by decide +kernel
theorem pp302 : jP 302 = c302_0 := rfl
theorem ml303 : jML 303 = 4 := by decide +kernel
theorem pp303 : jP 303 = c303_0 := rfl
theorem ml304 : jML 304 = 10 := by decide +kernel
theorem pp304 : jP 304 = c304_0 := rfl
theorem ml305 : jML 305 = 5 := by decide +kernel
theorem pp305 : jP 305 = c305_0 := rfl
theorem ml306 : jML 306 = 6 := by decide +kernel
theorem pp306 : jP 306 = c306_0 := rfl
theorem ml307 : jML 307 = 5 := by decide +kernel
theorem pp307 : jP 307 = c307_0 := rfl
theorem ml308 : jML 308 = 3 := by decide +kernel
theorem pp308 : jP 308 = c308_0 := rfl
theorem ml309 : jML 309 = 9 := by decide +kernel
theorem pp309 : jP 309 = c309_0 := rfl
theorem ml310 : jML 310 = 3 := by decide +kernel
theorem pp310 : jP 310 = c310_0 := rfl
theorem ml311 : jML 311 = 7 := by decide +kernel
theorem pp311 : jP 311 = c311_0 := rfl
theorem ml312 : jML 312 = 4 := by decide +kernel
theorem pp312 : jP 312 = c312_0 := rfl
theorem ml313 : jML 313 = 7 := by decide +kernel
theorem pp313 : jP 313 = c313_0 := rfl
theorem ml314 : jML 314 = 4 := by decide +kernel
theorem pp314 : jP 314 = c314_0 := rfl
theorem ml315 : jML 315 = 3 := by decide +kernel
theorem pp315 : jP 315 = c315_0 := rfl
theorem ml316 : jML 316 = 3 := by decide +kernel
theorem pp316 : jP 316 = c316_0 := rfl
theorem ml317 : jML 317 = 3 := by decide +kernel
theorem pp317 : jP 317 = c317_0 := rfl
theorem ml318 : jML 318 = 13 := by decide +kernel
theorem pp318 : jP 318 = c318_0 := rfl
theorem ml319 : jML 319 = 4 := by decide +kernel
theorem pp319 : jP 319 = c319_0 := rfl
theorem ml320 : jML 320 = 5 := by decide +kernel
theorem pp320 : jP 320 = c320_0 := rfl
theorem ml321 : jML 321 = 7 := by decide +kernel
theorem pp321 : jP 321 = c321_0 := rfl
theorem ml322 : jML 322 = 4 := by decide +kernel
theorem pp322 : jP 322 = c322_0 := rfl
theorem ml323 : jML 323 = 7 := by decide +kernel
theorem pp323 : jP 323 = c323_0 := rfl
theorem ml324 : jML 324 = 8 := by decide +kernel
theorem pp324 : jP 324 = c324_0 := rfl
theorem ml325 : jML 325 = 5 := by decide +kernel
theorem pp325 : jP 325 = c325_0 := rfl
theorem ml326 : jML 326 = 11 := by decide +kernel
theorem pp326 : jP 326 = c326_0 := rfl
theorem ml327 : jML 327 = 5 := by decide +kernel
theorem pp327 : jP 327 = c327_0 := rfl
theorem ml328 : jML 328 = 16 := by decide +kernel
theorem pp328 : jP 328 = c328_0 := rfl
theorem ml329 : jML 329 = 13 := by decide +kernel
theorem pp329 : jP 329 = c329_0 := rfl
theorem ml330 : jML 330 = 4 := by decide +kernel
theorem pp330 : jP 330 = c330_0 := rfl
theorem ml331 : jML 331 = 6 := by decide +kernel
theorem pp331 : jP 331 = c331_0 := rfl
theorem ml332 : jML 332 = 4 := by decide +kernel
theorem pp332 : jP 332 = c332_0 := rfl
theorem ml333 : jML 333 = 5 := by decide +kernel
theorem pp333 : jP 333 = c333_0 := rfl
theorem ml334 : jML 334 = 2 := by decide +kernel
theorem pp334 : jP 334 = c334_0 := rfl
theorem ml335 : jML 335 = 2 := by decide +kernel
theorem pp335 : jP 335 = c335_0 := rfl
theorem ml336 : jML 336 = 10 := by decide +kernel
theorem pp336 : jP 336 = c336_0 := rfl
theorem ml337 : jML 337 = 9 := by decide +kernel
theorem pp337 : jP 337 = c337_0 := rfl
theorem ml338 : jML 338 = 6 := by decide +kernel
theorem pp338 : jP 338 = c338_0 := rfl
theorem ml339 : jML 339 = 4 := by decide +kernel
theorem pp339 : jP 339 = c339_0 := rfl
theorem ml340 : jML 340 = 3 := by decide +kernel
theorem pp340 : jP 340 = c340_0 := rfl
theorem ml341 : jML 341 = 4 := by decide +kernel
theorem pp341 : jP 341 = c341_0 := rfl
theorem ml342 : jML 342 = 8 := by decide +kernel
theorem pp342 : jP 342 = c342_0 := rfl
theorem ml343 : jML 343 = 7 := by decide +kernel
theorem pp343 : jP 343 = c343_0 := rfl
theorem ml344 : jML 344 = 4 := by decide +kernel
theorem pp344 : jP 344 = c344_0 := rfl
theorem ml345 : jML 345 = 6 := by decide +kernel
theorem pp345 : jP 345 = c345_0 := rfl
theorem ml346 : jML 346 = 2 := by decide +kernel
theorem pp346 : jP 346 = c346_0 := rfl
theorem ml347 : jML 347 = 3 := by decide +kernel
theorem pp347 : jP 347 = c347_0 := rfl
theorem ml348 : jML 348 = 7 := by decide +kernel
theorem pp348 : jP 348 = c348_0 := rfl
theorem ml349 : jML 349 = 7 := by decide +kernel
theorem pp349 : jP 349 = c349_0 := rfl
theorem ml350 : jML 350 = 3 := by decide +kernel
theorem pp350 : jP 350 = c350_0 := rfl
theorem ml351 : jML 351 = 5 := by decide +kernel
theorem pp351 : jP 351 = c351_0 := rfl
theorem ml352 : jML 352 = 8 := by decide +kernel
theorem pp352 : jP 352 = c352_0 := rfl
theorem ml353 : jML 353 = 15 := by decide +kernel
theorem pp353 : jP 353 = c353_0 := rfl
theorem ml354 : jML 354 = 11 := by decide +kernel
theorem pp354 : jP 354 = c354_0 := rfl
theorem ml355 : jML 355 = 2 := by decide +kernel
theorem pp355 : jP 355 = c355_0 := rfl
theorem ml356 : jML 356 = 2 := by decide +kernel
theorem pp356 : jP 356 = c356_0 := rfl
theorem ml357 : jML 357 = 3 := by decide +kernel
theorem pp357 : jP 357 = c357_0 := rfl
theorem ml358 : jML 358 = 3 := by decide +kernel
theorem pp358 : jP 358 = c358_0 := rfl
theorem ml359 : jML 359 = 3 := by decide +kernel
theorem pp359 : jP 359 = c359_0 := rfl
theorem ml360 : jML 360 = 3 := by decide +kernel
theorem pp360 : jP 360 = c360_0 := rfl
theorem ml361 : jML 361 = 3 := by decide +kernel
theorem pp361 : jP 361 = c361_0 := rfl
theorem ml362 : jML 362 = 4 := by decide +kernel
theorem pp362 : jP 362 = c362_0 := rfl
theorem ml363 : jML 363 = 3 := by decide +kernel
theorem pp363 : jP 363 = c363_0 := rfl
theorem ml364 : jML 364 = 4 := by decide +kernel
theorem pp364 : jP 364 = c364_0 := rfl
theorem ml365 : jML 365 = 4 := by decide +kernel
theorem pp365 : jP 365 = c365_0 := rfl
theorem ml366 : jML 366 = 3 := by decide +kernel
theorem pp366 : jP 366 = c366_0 := rfl
theorem ml367 : jML 367 = 4 := by decide +kernel
theorem pp367 : jP 367 = c367_0 := rfl
theorem ml368 : jML 368 = 2 := by decide +kernel
theorem pp368 : jP 368 = c368_0 := rfl
theorem ml369 : jML 369 = 2 := by decide +kernel
theorem pp369 : jP 369 = c369_0 := rfl
theorem ml370 : jML 370 = 1 := by decide +kernel
theorem pp370 : jP 370 = c370_0 := rfl
theorem ml371 : jML 371 = 3 := by decide +kernel
theorem pp371 : jP 371 = c371_0 := rfl
theorem ml372 : jML 372 = 5 := by decide +kernel
theorem pp372 : jP 372 = c372_0 := rfl
theorem ml373 : jML 373 = 3 := by decide +kernel
theorem pp373 : jP 373 = c373_0 := rfl
theorem ml374 : jML 374 = 7 := by decide +kernel
theorem pp374 : jP 374 = c374_0 := rfl
theorem ml375 : jML 375 = 3 := by decide +kernel
theorem pp375 : jP 375 = c375_0 := rfl
theorem ml376 : jML 376 = 7 := by decide +kernel
theorem pp376 : jP 376 = c376_0 := rfl
theorem ml377 : jML 377 = 3 := by decide +kernel
theorem pp377 : jP 377 = c377_0 := rfl
theorem ml378 : jML 378 = 6 := by decide +kernel
theorem pp378 : jP 378 = c378_0 := rfl
theorem ml379 : jML 379 = 2 := by decide +kernel
theorem pp379 : jP 379 = c379_0 := rfl
theorem ml380 : jML 380 = 4 := by decide +kernel
theorem pp380 : jP 380 = c380_0 := rfl
theorem ml381 : jML 381 = 2 := by decide +kernel
theorem pp381 : jP 381 = c381_0 := rfl
theorem ml382 : jML 382 = 4 := by decide +kernel
theorem pp382 : jP 382 = c382_0 := rfl
theorem ml383 : jML 383 = 4 := by decide +kernel
theorem pp383 : jP 383 = c383_0 := rfl
theorem f0_0 : jfind c0_0 0 = some c0_0 := rfl
theorem f1_0 : jfind c1_0 0 = some c1_0 := rfl
theorem f2_0 : jfind c2_0 0 = some c2_0 := rfl
theorem f3_0 : jfind c3_0 0 = some c3_0 := rfl
theorem f4_0 : jfind c4_0 0 = some c4_0 := rfl
theorem f5_0 : jfind c5_0 0 = some c5_0 := rfl
theorem f6_0 : jfind c6_0 0 = some c6_0 := rfl
theorem f7_0 : jfind c7_0 0 = some c7_0 := rfl
theorem f8_0 : jfind c8_0 0 = some c8_0 := rfl
theorem f9_0 : jfind c9_0 0 = some c9_0 := rfl
theorem f10_0 : jfind c10_0 0 = some c10_0 := rfl
theorem f11_0 : jfind c11_0 0 = some c11_0 := rfl
theorem f12_0 : jfind c12_0 0 = some c12_0 := rfl
theorem f13_0 : jfind c13_0 0 = some c13_0 := rfl
theorem f14_0 : jfind c14_0 0 = some c14_0 := rfl
theorem f15_0 : jfind c15_0 0 = some c15_0 := rfl
theorem f16_0 : jfind c16_0 0 = some c16_0 := rfl
theorem f17_0 : jfind c17_0 0 = some c17_0 := rfl
theorem f18_0 : jfind c18_0 0 = some c18_0 := rfl
theorem f19_0 : jfind c19_0 0 = some c19_0 := rfl
theorem f20_0 : jfind c20_0 0 = some c20_0 := rfl
theorem f21_0 : jfind c21_0 0 = some c21_0 := rfl
theorem f22_0 : jfind c22_0 0 = some c22_0 := rfl
theorem f22_14 : jfind c22_0 14 = some c22_14 := rfl
theorem f22_71 : jfind c22_0 71 = some c22_71 := rfl
theorem f23_0 : jfind c23_0 0 = some c23_0 := rfl
theorem f23_68 : jfind c23_0 68 = some c23_68 := rfl
theorem f24_0 : jfind c24_0 0 = some c24_0 := rfl
theorem f24_16 : jfind c24_0 16 = some c24_16 := rfl
theorem f24_17 : jfind c24_0 17 = some c24_17 := rfl
theorem f25_0 : jfind c25_0 0 = some c25_0 := rfl
theorem f25_26 : jfind c25_0 26 = some c25_26 := rfl
theorem f25_27 : jfind c25_0 27 = some c25_27 := rfl
theorem f26_0 : jfind c26_0 0 = some c26_0 := rfl
theorem f26_23 : jfind c26_0 23 = some c26_23 := rfl
theorem f26_24 : jfind c26_0 24 = some c26_24 := rfl
theorem f27_0 : jfind c27_0 0 = some c27_0 := rfl
theorem f28_0 : jfind c28_0 0 = some c28_0 := rfl
theorem f29_0 : jfind c29_0 0 = some c29_0 := rfl
theorem f30_0 : jfind c30_0 0 = some c30_0 := rfl
theorem f31_0 : jfind c31_0 0 = some c31_0 := rfl
theorem f32_0 : jfind c32_0 0 = some c32_0 := rfl
theorem f32_26 : jfind c32_0 26 = some c32_26 := rfl
theorem f32_30 : jfind c32_0 30 = some c32_30 := rfl
theorem f32_36 : jfind c32_0 36 = some c32_36 := rfl
theorem f33_0 : jfind c33_0 0 = some c33_0 := rfl
theorem f33_23 : jfind c33_0 23 = some c33_23 := rfl
theorem f33_27 : jfind c33_0 27 = some c33_27 := rfl
theorem f33_41 : jfind c33_0 41 = some c33_41 := rfl
theorem f33_42 : jfind c33_0 42 = some c33_42 := rfl
theorem f34_0 : jfind c34_0 0 = some c34_0 := rfl
theorem f34_14 : jfind c34_0 14 = some c34_14 := rfl
theorem f34_20 : jfind c34_0 20 = some c34_20 := rfl
theorem f35_0 : jfind c35_0 0 = some c35_0 := rfl
theorem f35_15 : jfind c35_0 15 = some c35_15 := rfl
theorem f35_26 : jfind c35_0 26 = some c35_26 := rfl
theorem f36_0 : jfind c36_0 0 = some c36_0 := rfl
theorem f37_0 : jfind c37_0 0 = some c37_0 := rfl
theorem f38_0 : jfind c38_0 0 = some c38_0 := rfl
theorem f38_17 : jfind c38_0 17 = some c38_17 := rfl
theorem f38_18 : jfind c38_0 18 = some c38_18 := rfl
theorem f39_0 : jfind c39_0 0 = some c39_0 := rfl
theorem f40_0 : jfind c40_0 0 = some c40_0 := rfl
theorem f40_2 : jfind c40_0 2 = some c40_2 := rfl
theorem f40_19 : jfind c40_0 19 = some c40_19 := rfl
theorem f40_21 : jfind c40_0 21 = some c40_21 := rfl
theorem f40_60 : jfind c40_0 60 = some c40_60 := rfl
theorem f41_0 : jfind c41_0 0 = some c41_0 := rfl
theorem f41_2 : jfind c41_0 2 = some c41_2 := rfl
theorem f41_42 : jfind c41_0 42 = some c41_42 := rfl
theorem f42_0 : jfind c42_0 0 = some c42_0 := rfl
theorem f42_9 : jfind c42_0 9 = some c42_9 := rfl
theorem f42_19 : jfind c42_0 19 = some c42_19 := rfl
theorem f42_59 : jfind c42_0 59 = some c42_59 := rfl
theorem f42_65 : jfind c42_0 65 = some c42_65 := rfl
theorem f43_0 : jfind c43_0 0 = some c43_0 := rfl
theorem f43_13 : jfind c43_0 13 = some c43_13 := rfl
theorem f43_41 : jfind c43_0 41 = some c43_41 := rfl
theorem f43_53 : jfind c43_0 53 = some c43_53 := rfl
theorem f43_85 : jfind c43_0 85 = some c43_85 := rfl
theorem f43_91 : jfind c43_0 91 = some c43_91 := rfl
theorem f44_0 : jfind c44_0 0 = some c44_0 := rfl
theorem f44_7 : jfind c44_0 7 = some c44_7 := rfl
theorem f44_40 : jfind c44_0 40 = some c44_40 := rfl
theorem f44_46 : jfind c44_0 46 = some c44_46 := rfl
theorem f44_72 : jfind c44_0 72 = some c44_72 := rfl
theorem f44_94 : jfind c44_0 94 = some c44_94 := rfl
theorem f44_100 : jfind c44_0 100 = some c44_100 := rfl
theorem f45_0 : jfind c45_0 0 = some c45_0 := rfl
theorem f45_9 : jfind c45_0 9 = some c45_9 := rfl
theorem f45_39 : jfind c45_0 39 = some c45_39 := rfl
theorem f45_46 : jfind c45_0 46 = some c45_46 := rfl
theorem f45_61 : jfind c45_0 61 = some c45_61 := rfl
theorem f45_69 : jfind c45_0 69 = some c45_69 := rfl
theorem f45_75 : jfind c45_0 75 = some c45_75 := rfl
theorem f46_0 : jfind c46_0 0 = some c46_0 := rfl
theorem f46_15 : jfind c46_0 15 = some c46_15 := rfl
theorem f46_53 : jfind c46_0 53 = some c46_53 := rfl
theorem f46_57 : jfind c46_0 57 = some c46_57 := rfl
theorem f46_64 : jfind c46_0 64 = some c46_64 := rfl
theorem f47_0 : jfind c47_0 0 = some c47_0 := rfl
theorem f48_0 : jfind c48_0 0 = some c48_0 := rfl
theorem f49_0 : jfind c49_0 0 = some c49_0 := rfl
theorem f50_0 : jfind c50_0 0 = some c50_0 := rfl
theorem f50_6 : jfind c50_0 6 = some c50_6 := rfl
theorem f50_38 : jfind c50_0 38 = some c50_38 := rfl
theorem f50_41 : jfind c50_0 41 = some c50_41 := rfl
theorem f50_83 : jfind c50_0 83 = some c50_83 := rfl
theorem f50_89 : jfind c50_0 89 = some c50_89 := rfl
theorem f51_0 : jfind c51_0 0 = some c51_0 := rfl
theorem f51_15 : jfind c51_0 15 = some c51_15 := rfl
theorem f51_57 : jfind c51_0 57 = some c51_57 := rfl
theorem f51_63 : jfind c51_0 63 = some c51_63 := rfl
theorem f52_0 : jfind c52_0 0 = some c52_0 := rfl
theorem f52_7 : jfind c52_0 7 = some c52_7 := rfl
theorem f52_43 : jfind c52_0 43 = some c52_43 := rfl
theorem f52_79 : jfind c52_0 79 = some c52_79 := rfl
theorem f52_107 : jfind c52_0 107 = some c52_107 := rfl
theorem f52_113 : jfind c52_0 113 = some c52_113 := rfl
theorem f53_0 : jfind c53_0 0 = some c53_0 := rfl
theorem f53_4 : jfind c53_0 4 = some c53_4 := rfl
theorem f53_42 : jfind c53_0 42 = some c53_42 := rfl
theorem f53_54 : jfind c53_0 54 = some c53_54 := rfl
theorem f53_64 : jfind c53_0 64 = some c53_64 := rfl
theorem f54_0 : jfind c54_0 0 = some c54_0 := rfl
theorem f54_9 : jfind c54_0 9 = some c54_9 := rfl
theorem f54_19 : jfind c54_0 19 = some c54_19 := rfl
theorem f54_49 : jfind c54_0 49 = some c54_49 := rfl
theorem f54_53 : jfind c54_0 53 = some c54_53 := rfl
theorem f54_54 : jfind c54_0 54 = some c54_54 := rfl
theorem f54_82 : jfind c54_0 82 = some c54_82 := rfl
theorem f54_83 : jfind c54_0 83 = some c54_83 := rfl
theorem f54_90 : jfind c54_0 90 = some c54_90 := rfl
theorem f54_96 : jfind c54_0 96 = some c54_96 := rfl
theorem f55_0 : jfind c55_0 0 = some c55_0 := rfl
theorem f55_8 : jfind c55_0 8 = some c55_8 := rfl
theorem f55_52 : jfind c55_0 52 = some c55_52 := rfl
theorem f55_55 : jfind c55_0 55 = some c55_55 := rfl
theorem f55_61 : jfind c55_0 61 = some c55_61 := rfl
theorem f55_70 : jfind c55_0 70 = some c55_70 := rfl
theorem f55_71 : jfind c55_0 71 = some c55_71 := rfl
theorem f56_0 : jfind c56_0 0 = some c56_0 := rfl
theorem f56_14 : jfind c56_0 14 = some c56_14 := rfl
theorem f56_58 : jfind c56_0 58 = some c56_58 := rfl
theorem f56_64 : jfind c56_0 64 = some c56_64 := rfl
theorem f57_0 : jfind c57_0 0 = some c57_0 := rfl
theorem f57_14 : jfind c57_0 14 = some c57_14 := rfl
theorem f57_52 : jfind c57_0 52 = some c57_52 := rfl
theorem f57_53 : jfind c57_0 53 = some c57_53 := rfl
theorem f57_61 : jfind c57_0 61 = some c57_61 := rfl
theorem f58_0 : jfind c58_0 0 = some c58_0 := rfl
theorem f59_0 : jfind c59_0 0 = some c59_0 := rfl
theorem f60_0 : jfind c60_0 0 = some c60_0 := rfl
theorem f60_9 : jfind c60_0 9 = some c60_9 := rfl
theorem f60_15 : jfind c60_0 15 = some c60_15 := rfl
theorem f60_36 : jfind c60_0 36 = some c60_36 := rfl
theorem f60_38 : jfind c60_0 38 = some c60_38 := rfl
theorem f60_56 : jfind c60_0 56 = some c60_56 := rfl
theorem f60_70 : jfind c60_0 70 = some c60_70 := rfl
theorem f60_72 : jfind c60_0 72 = some c60_72 := rfl
theorem f60_86 : jfind c60_0 86 = some c60_86 := rfl
theorem f60_87 : jfind c60_0 87 = some c60_87 := rfl
theorem f60_97 : jfind c60_0 97 = some c60_97 := rfl
theorem f60_98 : jfind c60_0 98 = some c60_98 := rfl
theorem f60_115 : jfind c60_0 115 = some c60_115 := rfl
theorem f60_126 : jfind c60_0 126 = some c60_126 := rfl
theorem f60_149 : jfind c60_0 149 = some c60_149 := rfl
theorem f60_151 : jfind c60_0 151 = some c60_151 := rfl
theorem f60_154 : jfind c60_0 154 = some c60_154 := rfl
theorem f60_179 : jfind c60_0 179 = some c60_179 := rfl
theorem f60_185 : jfind c60_0 185 = some c60_185 := rfl
theorem f61_0 : jfind c61_0 0 = some c61_0 := rfl
theorem f61_16 : jfind c61_0 16 = some c61_16 := rfl
theorem f61_57 : jfind c61_0 57 = some c61_57 := rfl
theorem f61_90 : jfind c61_0 90 = some c61_90 := rfl
theorem f61_91 : jfind c61_0 91 = some c61_91 := rfl
theorem f61_92 : jfind c61_0 92 = some c61_92 := rfl
theorem f61_133 : jfind c61_0 133 = some c61_133 := rfl
theorem f61_140 : jfind c61_0 140 = some c61_140 := rfl
theorem f61_145 : jfind c61_0 145 = some c61_145 := rfl
theorem f61_165 : jfind c61_0 165 = some c61_165 := rfl
theorem f61_175 : jfind c61_0 175 = some c61_175 := rfl
theorem f62_0 : jfind c62_0 0 = some c62_0 := rfl
theorem f63_0 : jfind c63_0 0 = some c63_0 := rfl
theorem f63_16 : jfind c63_0 16 = some c63_16 := rfl
theorem f63_17 : jfind c63_0 17 = some c63_17 := rfl
theorem f64_0 : jfind c64_0 0 = some c64_0 := rfl
theorem f64_2 : jfind c64_0 2 = some c64_2 := rfl
theorem f64_49 : jfind c64_0 49 = some c64_49 := rfl
theorem f65_0 : jfind c65_0 0 = some c65_0 := rfl
theorem f66_0 : jfind c66_0 0 = some c66_0 := rfl
theorem f66_12 : jfind c66_0 12 = some c66_12 := rfl
theorem f66_16 : jfind c66_0 16 = some c66_16 := rfl
theorem f66_22 : jfind c66_0 22 = some c66_22 := rfl
theorem f67_0 : jfind c67_0 0 = some c67_0 := rfl
theorem f67_20 : jfind c67_0 20 = some c67_20 := rfl
theorem f67_82 : jfind c67_0 82 = some c67_82 := rfl
theorem f67_105 : jfind c67_0 105 = some c67_105 := rfl
theorem f67_139 : jfind c67_0 139 = some c67_139 := rfl
theorem f67_150 : jfind c67_0 150 = some c67_150 := rfl
theorem f67_151 : jfind c67_0 151 = some c67_151 := rfl
theorem f68_0 : jfind c68_0 0 = some c68_0 := rfl
theorem f68_27 : jfind c68_0 27 = some c68_27 := rfl
theorem f68_28 : jfind c68_0 28 = some c68_28 := rfl
theorem f69_0 : jfind c69_0 0 = some c69_0 := rfl
theorem f69_22 : jfind c69_0 22 = some c69_22 := rfl
theorem f69_23 : jfind c69_0 23 = some c69_23 := rfl
theorem f70_0 : jfind c70_0 0 = some c70_0 := rfl
theorem f70_15 : jfind c70_0 15 = some c70_15 := rfl
theorem f71_0 : jfind c71_0 0 = some c71_0 := rfl
theorem f71_8 : jfind c71_0 8 = some c71_8 := rfl
theorem f71_29 : jfind c71_0 29 = some c71_29 := rfl
theorem f71_33 : jfind c71_0 33 = some c71_33 := rfl
theorem f72_0 : jfind c72_0 0 = some c72_0 := rfl
theorem f72_10 : jfind c72_0 10 = some c72_10 := rfl
theorem f73_0 : jfind c73_0 0 = some c73_0 := rfl
theorem f73_16 : jfind c73_0 16 = some c73_16 := rfl
theorem f74_0 : jfind c74_0 0 = some c74_0 := rfl
theorem f74_13 : jfind c74_0 13 = some c74_13 := rfl
theorem f74_19 : jfind c74_0 19 = some c74_19 := rfl
theorem f74_40 : jfind c74_0 40 = some c74_40 := rfl
theorem f74_55 : jfind c74_0 55 = some c74_55 := rfl
theorem f74_78 : jfind c74_0 78 = some c74_78 := rfl
theorem f74_82 : jfind c74_0 82 = some c74_82 := rfl
theorem f75_0 : jfind c75_0 0 = some c75_0 := rfl
theorem f75_13 : jfind c75_0 13 = some c75_13 := rfl
theorem f75_14 : jfind c75_0 14 = some c75_14 := rfl
theorem f75_29 : jfind c75_0 29 = some c75_29 := rfl
theorem f75_52 : jfind c75_0 52 = some c75_52 := rfl
theorem f75_54 : jfind c75_0 54 = some c75_54 := rfl
theorem f75_68 : jfind c75_0 68 = some c75_68 := rfl
theorem f75_69 : jfind c75_0 69 = some c75_69 := rfl
theorem f76_0 : jfind c76_0 0 = some c76_0 := rfl
theorem f76_13 : jfind c76_0 13 = some c76_13 := rfl
theorem f76_15 : jfind c76_0 15 = some c76_15 := rfl
theorem f76_63 : jfind c76_0 63 = some c76_63 := rfl
theorem f77_0 : jfind c77_0 0 = some c77_0 := rfl
theorem f77_20 : jfind c77_0 20 = some c77_20 := rfl
theorem f77_26 : jfind c77_0 26 = some c77_26 := rfl
theorem f77_60 : jfind c77_0 60 = some c77_60 := rfl
theorem f77_66 : jfind c77_0 66 = some c77_66 := rfl
theorem f78_0 : jfind c78_0 0 = some c78_0 := rfl
theorem f78_25 : jfind c78_0 25 = some c78_25 := rfl
theorem f78_88 : jfind c78_0 88 = some c78_88 := rfl
theorem f78_100 : jfind c78_0 100 = some c78_100 := rfl
theorem f78_117 : jfind c78_0 117 = some c78_117 := rfl
theorem f78_119 : jfind c78_0 119 = some c78_119 := rfl
theorem f79_0 : jfind c79_0 0 = some c79_0 := rfl
theorem f79_37 : jfind c79_0 37 = some c79_37 := rfl
theorem f79_43 : jfind c79_0 43 = some c79_43 := rfl
theorem f79_68 : jfind c79_0 68 = some c79_68 := rfl
theorem f79_97 : jfind c79_0 97 = some c79_97 := rfl
theorem f79_126 : jfind c79_0 126 = some c79_126 := rfl
theorem f79_144 : jfind c79_0 144 = some c79_144 := rfl
theorem f79_146 : jfind c79_0 146 = some c79_146 := rfl
theorem f80_0 : jfind c80_0 0 = some c80_0 := rfl
theorem f80_21 : jfind c80_0 21 = some c80_21 := rfl
theorem f80_22 : jfind c80_0 22 = some c80_22 := rfl
theorem f81_0 : jfind c81_0 0 = some c81_0 := rfl
theorem f81_21 : jfind c81_0 21 = some c81_21 := rfl
theorem f81_25 : jfind c81_0 25 = some c81_25 := rfl
theorem f81_26 : jfind c81_0 26 = some c81_26 := rfl
theorem f82_0 : jfind c82_0 0 = some c82_0 := rfl
theorem f82_24 : jfind c82_0 24 = some c82_24 := rfl
theorem f82_71 : jfind c82_0 71 = some c82_71 := rfl
theorem f82_73 : jfind c82_0 73 = some c82_73 := rfl
theorem f82_126 : jfind c82_0 126 = some c82_126 := rfl
theorem f83_0 : jfind c83_0 0 = some c83_0 := rfl
theorem f84_0 : jfind c84_0 0 = some c84_0 := rfl
theorem f85_0 : jfind c85_0 0 = some c85_0 := rfl
theorem f86_0 : jfind c86_0 0 = some c86_0 := rfl
theorem f87_0 : jfind c87_0 0 = some c87_0 := rfl
theorem f88_0 : jfind c88_0 0 = some c88_0 := rfl
theorem f89_0 : jfind c89_0 0 = some c89_0 := rfl
theorem f89_13 : jfind c89_0 13 = some c89_13 := rfl
theorem f89_14 : jfind c89_0 14 = some c89_14 := rfl
theorem f90_0 : jfind c90_0 0 = some c90_0 := rfl
theorem f90_2 : jfind c90_0 2 = some c90_2 := rfl
theorem f90_26 : jfind c90_0 26 = some c90_26 := rfl
theorem f90_44 : jfind c90_0 44 = some c90_44 := rfl
theorem f90_50 : jfind c90_0 50 = some c90_50 := rfl
theorem f90_94 : jfind c90_0 94 = some c90_94 := rfl
theorem f90_111 : jfind c90_0 111 = some c90_111 := rfl
theorem f91_0 : jfind c91_0 0 = some c91_0 := rfl
theorem f91_13 : jfind c91_0 13 = some c91_13 := rfl
theorem f91_22 : jfind c91_0 22 = some c91_22 := rfl
theorem f92_0 : jfind c92_0 0 = some c92_0 := rfl
theorem f92_12 : jfind c92_0 12 = some c92_12 := rfl
theorem f92_69 : jfind c92_0 69 = some c92_69 := rfl
theorem f92_84 : jfind c92_0 84 = some c92_84 := rfl
theorem f93_0 : jfind c93_0 0 = some c93_0 := rfl
theorem f94_0 : jfind c94_0 0 = some c94_0 := rfl
theorem f94_19 : jfind c94_0 19 = some c94_19 := rfl
theorem f95_0 : jfind c95_0 0 = some c95_0 := rfl
theorem f95_22 : jfind c95_0 22 = some c95_22 := rfl
theorem f95_23 : jfind c95_0 23 = some c95_23 := rfl
theorem f96_0 : jfind c96_0 0 = some c96_0 := rfl
theorem f97_0 : jfind c97_0 0 = some c97_0 := rfl
theorem f98_0 : jfind c98_0 0 = some c98_0 := rfl
theorem f99_0 : jfind c99_0 0 = some c99_0 := rfl
theorem f99_11 : jfind c99_0 11 = some c99_11 := rfl
theorem f99_17 : jfind c99_0 17 = some c99_17 := rfl
theorem f100_0 : jfind c100_0 0 = some c100_0 := rfl
theorem f101_0 : jfind c101_0 0 = some c101_0 := rfl
theorem f102_0 : jfind c102_0 0 = some c102_0 := rfl
theorem f103_0 : jfind c103_0 0 = some c103_0 := rfl
theorem f104_0 : jfind c104_0 0 = some c104_0 := rfl
theorem f104_11 : jfind c104_0 11 = some c104_11 := rfl
theorem f104_12 : jfind c104_0 12 = some c104_12 := rfl
theorem f105_0 : jfind c105_0 0 = some c105_0 := rfl
theorem f105_28 : jfind c105_0 28 = some c105_28 := rfl
theorem f105_29 : jfind c105_0 29 = some c105_29 := rfl
theorem f106_0 : jfind c106_0 0 = some c106_0 := rfl
theorem f107_0 : jfind c107_0 0 = some c107_0 := rfl
theorem f108_0 : jfind c108_0 0 = some c108_0 := rfl
theorem f108_5 : jfind c108_0 5 = some c108_5 := rfl
theorem f108_37 : jfind c108_0 37 = some c108_37 := rfl
theorem f108_38 : jfind c108_0 38 = some c108_38 := rfl
theorem f108_46 : jfind c108_0 46 = some c108_46 := rfl
theorem f108_49 : jfind c108_0 49 = some c108_49 := rfl
theorem f108_81 : jfind c108_0 81 = some c108_81 := rfl
theorem f108_82 : jfind c108_0 82 = some c108_82 := rfl
theorem f108_90 : jfind c108_0 90 = some c108_90 := rfl
theorem f109_0 : jfind c109_0 0 = some c109_0 := rfl
theorem f109_4 : jfind c109_0 4 = some c109_4 := rfl
theorem f109_15 : jfind c109_0 15 = some c109_15 := rfl
theorem f109_47 : jfind c109_0 47 = some c109_47 := rfl
theorem f109_50 : jfind c109_0 50 = some c109_50 := rfl
theorem f109_56 : jfind c109_0 56 = some c109_56 := rfl
theorem f109_62 : jfind c109_0 62 = some c109_62 := rfl
theorem f109_71 : jfind c109_0 71 = some c109_71 := rfl
theorem f109_72 : jfind c109_0 72 = some c109_72 := rfl
theorem f110_0 : jfind c110_0 0 = some c110_0 := rfl
theorem f110_20 : jfind c110_0 20 = some c110_20 := rfl
theorem f110_21 : jfind c110_0 21 = some c110_21 := rfl
theorem f110_24 : jfind c110_0 24 = some c110_24 := rfl
theorem f110_63 : jfind c110_0 63 = some c110_63 := rfl
theorem f110_64 : jfind c110_0 64 = some c110_64 := rfl
theorem f110_71 : jfind c110_0 71 = some c110_71 := rfl
theorem f111_0 : jfind c111_0 0 = some c111_0 := rfl
theorem f112_0 : jfind c112_0 0 = some c112_0 := rfl
theorem f113_0 : jfind c113_0 0 = some c113_0 := rfl
theorem f113_53 : jfind c113_0 53 = some c113_53 := rfl
theorem f113_57 : jfind c113_0 57 = some c113_57 := rfl
theorem f113_58 : jfind c113_0 58 = some c113_58 := rfl
theorem f114_0 : jfind c114_0 0 = some c114_0 := rfl
theorem f114_15 : jfind c114_0 15 = some c114_15 := rfl
theorem f114_47 : jfind c114_0 47 = some c114_47 := rfl
theorem f115_0 : jfind c115_0 0 = some c115_0 := rfl
theorem f115_11 : jfind c115_0 11 = some c115_11 := rfl
theorem f115_16 : jfind c115_0 16 = some c115_16 := rfl
theorem f116_0 : jfind c116_0 0 = some c116_0 := rfl
theorem f116_21 : jfind c116_0 21 = some c116_21 := rfl
theorem f116_54 : jfind c116_0 54 = some c116_54 := rfl
theorem f116_73 : jfind c116_0 73 = some c116_73 := rfl
theorem f116_79 : jfind c116_0 79 = some c116_79 := rfl
theorem f116_81 : jfind c116_0 81 = some c116_81 := rfl
theorem f116_87 : jfind c116_0 87 = some c116_87 := rfl
theorem f116_95 : jfind c116_0 95 = some c116_95 := rfl
theorem f116_96 : jfind c116_0 96 = some c116_96 := rfl
theorem f117_0 : jfind c117_0 0 = some c117_0 := rfl
theorem f117_3 : jfind c117_0 3 = some c117_3 := rfl
theorem f117_12 : jfind c117_0 12 = some c117_12 := rfl
theorem f117_61 : jfind c117_0 61 = some c117_61 := rfl
theorem f117_67 : jfind c117_0 67 = some c117_67 := rfl
theorem f117_73 : jfind c117_0 73 = some c117_73 := rfl
theorem f118_0 : jfind c118_0 0 = some c118_0 := rfl
theorem f118_3 : jfind c118_0 3 = some c118_3 := rfl
theorem f118_35 : jfind c118_0 35 = some c118_35 := rfl
theorem f118_43 : jfind c118_0 43 = some c118_43 := rfl
theorem f118_61 : jfind c118_0 61 = some c118_61 := rfl
theorem f118_69 : jfind c118_0 69 = some c118_69 := rfl
theorem f118_80 : jfind c118_0 80 = some c118_80 := rfl
theorem f118_86 : jfind c118_0 86 = some c118_86 := rfl
theorem f119_0 : jfind c119_0 0 = some c119_0 := rfl
theorem f119_11 : jfind c119_0 11 = some c119_11 := rfl
theorem f120_0 : jfind c120_0 0 = some c120_0 := rfl
theorem f120_2 : jfind c120_0 2 = some c120_2 := rfl
theorem f120_22 : jfind c120_0 22 = some c120_22 := rfl
theorem f120_28 : jfind c120_0 28 = some c120_28 := rfl
theorem f120_39 : jfind c120_0 39 = some c120_39 := rfl
theorem f121_0 : jfind c121_0 0 = some c121_0 := rfl
theorem f122_0 : jfind c122_0 0 = some c122_0 := rfl
theorem f122_14 : jfind c122_0 14 = some c122_14 := rfl
theorem f122_17 : jfind c122_0 17 = some c122_17 := rfl
theorem f122_22 : jfind c122_0 22 = some c122_22 := rfl
theorem f122_78 : jfind c122_0 78 = some c122_78 := rfl
theorem f122_80 : jfind c122_0 80 = some c122_80 := rfl
theorem f122_81 : jfind c122_0 81 = some c122_81 := rfl
theorem f122_84 : jfind c122_0 84 = some c122_84 := rfl
theorem f122_90 : jfind c122_0 90 = some c122_90 := rfl
theorem f122_98 : jfind c122_0 98 = some c122_98 := rfl
theorem f122_100 : jfind c122_0 100 = some c122_100 := rfl
theorem f123_0 : jfind c123_0 0 = some c123_0 := rfl
theorem f124_0 : jfind c124_0 0 = some c124_0 := rfl
theorem f124_2 : jfind c124_0 2 = some c124_2 := rfl
theorem f124_25 : jfind c124_0 25 = some c124_25 := rfl
theorem f124_31 : jfind c124_0 31 = some c124_31 := rfl
theorem f125_0 : jfind c125_0 0 = some c125_0 := rfl
theorem f125_5 : jfind c125_0 5 = some c125_5 := rfl
theorem f125_23 : jfind c125_0 23 = some c125_23 := rfl
theorem f125_76 : jfind c125_0 76 = some c125_76 := rfl
theorem f125_82 : jfind c125_0 82 = some c125_82 := rfl
theorem f125_107 : jfind c125_0 107 = some c125_107 := rfl
theorem f125_111 : jfind c125_0 111 = some c125_111 := rfl
theorem f125_132 : jfind c125_0 132 = some c125_132 := rfl
theorem f125_133 : jfind c125_0 133 = some c125_133 := rfl
theorem f125_148 : jfind c125_0 148 = some c125_148 := rfl
theorem f125_149 : jfind c125_0 149 = some c125_149 := rfl
theorem f125_157 : jfind c125_0 157 = some c125_157 := rfl
theorem f126_0 : jfind c126_0 0 = some c126_0 := rfl
theorem f126_9 : jfind c126_0 9 = some c126_9 := rfl
theorem f126_34 : jfind c126_0 34 = some c126_34 := rfl
theorem f127_0 : jfind c127_0 0 = some c127_0 := rfl
theorem f127_18 : jfind c127_0 18 = some c127_18 := rfl
theorem f127_31 : jfind c127_0 31 = some c127_31 := rfl
theorem f128_0 : jfind c128_0 0 = some c128_0 := rfl
theorem f128_2 : jfind c128_0 2 = some c128_2 := rfl
theorem f128_27 : jfind c128_0 27 = some c128_27 := rfl
theorem f128_51 : jfind c128_0 51 = some c128_51 := rfl
theorem f128_57 : jfind c128_0 57 = some c128_57 := rfl
theorem f128_63 : jfind c128_0 63 = some c128_63 := rfl
theorem f129_0 : jfind c129_0 0 = some c129_0 := rfl
theorem f129_11 : jfind c129_0 11 = some c129_11 := rfl
theorem f130_0 : jfind c130_0 0 = some c130_0 := rfl
theorem f131_0 : jfind c131_0 0 = some c131_0 := rfl
theorem f131_8 : jfind c131_0 8 = some c131_8 := rfl
theorem f131_54 : jfind c131_0 54 = some c131_54 := rfl
theorem f131_61 : jfind c131_0 61 = some c131_61 := rfl
theorem f131_67 : jfind c131_0 67 = some c131_67 := rfl
theorem f132_0 : jfind c132_0 0 = some c132_0 := rfl
theorem f133_0 : jfind c133_0 0 = some c133_0 := rfl
theorem f133_4 : jfind c133_0 4 = some c133_4 := rfl
theorem f133_27 : jfind c133_0 27 = some c133_27 := rfl
theorem f133_33 : jfind c133_0 33 = some c133_33 := rfl
theorem f134_0 : jfind c134_0 0 = some c134_0 := rfl
theorem f134_35 : jfind c134_0 35 = some c134_35 := rfl
theorem f134_36 : jfind c134_0 36 = some c134_36 := rfl
theorem f135_0 : jfind c135_0 0 = some c135_0 := rfl
theorem f135_32 : jfind c135_0 32 = some c135_32 := rfl
theorem f136_0 : jfind c136_0 0 = some c136_0 := rfl
theorem f136_18 : jfind c136_0 18 = some c136_18 := rfl
theorem f136_105 : jfind c136_0 105 = some c136_105 := rfl
theorem f137_0 : jfind c137_0 0 = some c137_0 := rfl
theorem f137_10 : jfind c137_0 10 = some c137_10 := rfl
theorem f137_14 : jfind c137_0 14 = some c137_14 := rfl
theorem f138_0 : jfind c138_0 0 = some c138_0 := rfl
theorem f139_0 : jfind c139_0 0 = some c139_0 := rfl
theorem f139_11 : jfind c139_0 11 = some c139_11 := rfl
theorem f140_0 : jfind c140_0 0 = some c140_0 := rfl
theorem f140_16 : jfind c140_0 16 = some c140_16 := rfl
theorem f140_17 : jfind c140_0 17 = some c140_17 := rfl
theorem f141_0 : jfind c141_0 0 = some c141_0 := rfl
theorem f141_17 : jfind c141_0 17 = some c141_17 := rfl
theorem f141_18 : jfind c141_0 18 = some c141_18 := rfl
theorem f142_0 : jfind c142_0 0 = some c142_0 := rfl
theorem f142_21 : jfind c142_0 21 = some c142_21 := rfl
theorem f142_22 : jfind c142_0 22 = some c142_22 := rfl
theorem f143_0 : jfind c143_0 0 = some c143_0 := rfl
theorem f143_33 : jfind c143_0 33 = some c143_33 := rfl
theorem f144_0 : jfind c144_0 0 = some c144_0 := rfl
theorem f144_7 : jfind c144_0 7 = some c144_7 := rfl
theorem f144_38 : jfind c144_0 38 = some c144_38 := rfl
theorem f145_0 : jfind c145_0 0 = some c145_0 := rfl
theorem f145_13 : jfind c145_0 13 = some c145_13 := rfl
theorem f145_24 : jfind c145_0 24 = some c145_24 := rfl
theorem f146_0 : jfind c146_0 0 = some c146_0 := rfl
theorem f146_39 : jfind c146_0 39 = some c146_39 := rfl
theorem f146_40 : jfind c146_0 40 = some c146_40 := rfl
theorem f147_0 : jfind c147_0 0 = some c147_0 := rfl
theorem f148_0 : jfind c148_0 0 = some c148_0 := rfl
theorem f148_10 : jfind c148_0 10 = some c148_10 := rfl
theorem f148_14 : jfind c148_0 14 = some c148_14 := rfl
theorem f148_20 : jfind c148_0 20 = some c148_20 := rfl
theorem f149_0 : jfind c149_0 0 = some c149_0 := rfl
theorem f149_32 : jfind c149_0 32 = some c149_32 := rfl
theorem f150_0 : jfind c150_0 0 = some c150_0 := rfl
theorem f150_5 : jfind c150_0 5 = some c150_5 := rfl
theorem f150_37 : jfind c150_0 37 = some c150_37 := rfl
theorem f151_0 : jfind c151_0 0 = some c151_0 := rfl
theorem f151_5 : jfind c151_0 5 = some c151_5 := rfl
theorem f151_44 : jfind c151_0 44 = some c151_44 := rfl
theorem f151_51 : jfind c151_0 51 = some c151_51 := rfl
theorem f151_58 : jfind c151_0 58 = some c151_58 := rfl
theorem f152_0 : jfind c152_0 0 = some c152_0 := rfl
theorem f152_4 : jfind c152_0 4 = some c152_4 := rfl
theorem f152_37 : jfind c152_0 37 = some c152_37 := rfl
theorem f152_39 : jfind c152_0 39 = some c152_39 := rfl
theorem f152_50 : jfind c152_0 50 = some c152_50 := rfl
theorem f153_0 : jfind c153_0 0 = some c153_0 := rfl
theorem f153_33 : jfind c153_0 33 = some c153_33 := rfl
theorem f153_46 : jfind c153_0 46 = some c153_46 := rfl
theorem f153_47 : jfind c153_0 47 = some c153_47 := rfl
theorem f154_0 : jfind c154_0 0 = some c154_0 := rfl
theorem f154_2 : jfind c154_0 2 = some c154_2 := rfl
theorem f154_19 : jfind c154_0 19 = some c154_19 := rfl
theorem f154_58 : jfind c154_0 58 = some c154_58 := rfl
theorem f154_63 : jfind c154_0 63 = some c154_63 := rfl
theorem f154_70 : jfind c154_0 70 = some c154_70 := rfl
theorem f154_76 : jfind c154_0 76 = some c154_76 := rfl
theorem f154_85 : jfind c154_0 85 = some c154_85 := rfl
theorem f154_104 : jfind c154_0 104 = some c154_104 := rfl
theorem f154_106 : jfind c154_0 106 = some c154_106 := rfl
theorem f154_125 : jfind c154_0 125 = some c154_125 := rfl
theorem f155_0 : jfind c155_0 0 = some c155_0 := rfl
theorem f155_2 : jfind c155_0 2 = some c155_2 := rfl
theorem f155_31 : jfind c155_0 31 = some c155_31 := rfl
theorem f155_45 : jfind c155_0 45 = some c155_45 := rfl
theorem f155_50 : jfind c155_0 50 = some c155_50 := rfl
theorem f155_82 : jfind c155_0 82 = some c155_82 := rfl
theorem f155_83 : jfind c155_0 83 = some c155_83 := rfl
theorem f155_135 : jfind c155_0 135 = some c155_135 := rfl
theorem f155_136 : jfind c155_0 136 = some c155_136 := rfl
theorem f155_143 : jfind c155_0 143 = some c155_143 := rfl
theorem f155_156 : jfind c155_0 156 = some c155_156 := rfl
theorem f156_0 : jfind c156_0 0 = some c156_0 := rfl
theorem f156_8 : jfind c156_0 8 = some c156_8 := rfl
theorem f156_19 : jfind c156_0 19 = some c156_19 := rfl
theorem f156_33 : jfind c156_0 33 = some c156_33 := rfl
theorem f156_67 : jfind c156_0 67 = some c156_67 := rfl
theorem f156_82 : jfind c156_0 82 = some c156_82 := rfl
theorem f156_91 : jfind c156_0 91 = some c156_91 := rfl
theorem f157_0 : jfind c157_0 0 = some c157_0 := rfl
theorem f158_0 : jfind c158_0 0 = some c158_0 := rfl
theorem f158_12 : jfind c158_0 12 = some c158_12 := rfl
theorem f158_14 : jfind c158_0 14 = some c158_14 := rfl
theorem f158_16 : jfind c158_0 16 = some c158_16 := rfl
theorem f158_42 : jfind c158_0 42 = some c158_42 := rfl
theorem f158_48 : jfind c158_0 48 = some c158_48 := rfl
theorem f159_0 : jfind c159_0 0 = some c159_0 := rfl
theorem f159_12 : jfind c159_0 12 = some c159_12 := rfl
theorem f159_14 : jfind c159_0 14 = some c159_14 := rfl
theorem f159_16 : jfind c159_0 16 = some c159_16 := rfl
theorem f159_42 : jfind c159_0 42 = some c159_42 := rfl
theorem f159_48 : jfind c159_0 48 = some c159_48 := rfl
theorem f160_0 : jfind c160_0 0 = some c160_0 := rfl
theorem f161_0 : jfind c161_0 0 = some c161_0 := rfl
theorem f161_12 : jfind c161_0 12 = some c161_12 := rfl
theorem f161_16 : jfind c161_0 16 = some c161_16 := rfl
theorem f161_22 : jfind c161_0 22 = some c161_22 := rfl
theorem f162_0 : jfind c162_0 0 = some c162_0 := rfl
theorem f163_0 : jfind c163_0 0 = some c163_0 := rfl
theorem f163_20 : jfind c163_0 20 = some c163_20 := rfl
theorem f163_27 : jfind c163_0 27 = some c163_27 := rfl
theorem f164_0 : jfind c164_0 0 = some c164_0 := rfl
theorem f164_13 : jfind c164_0 13 = some c164_13 := rfl
theorem f164_25 : jfind c164_0 25 = some c164_25 := rfl
theorem f164_46 : jfind c164_0 46 = some c164_46 := rfl
theorem f164_50 : jfind c164_0 50 = some c164_50 := rfl
theorem f164_55 : jfind c164_0 55 = some c164_55 := rfl
theorem f164_94 : jfind c164_0 94 = some c164_94 := rfl
theorem f164_100 : jfind c164_0 100 = some c164_100 := rfl
theorem f165_0 : jfind c165_0 0 = some c165_0 := rfl
theorem f166_0 : jfind c166_0 0 = some c166_0 := rfl
theorem f166_10 : jfind c166_0 10 = some c166_10 := rfl
theorem f166_12 : jfind c166_0 12 = some c166_12 := rfl
theorem f166_22 : jfind c166_0 22 = some c166_22 := rfl
theorem f166_38 : jfind c166_0 38 = some c166_38 := rfl
theorem f166_46 : jfind c166_0 46 = some c166_46 := rfl
theorem f167_0 : jfind c167_0 0 = some c167_0 := rfl
theorem f167_20 : jfind c167_0 20 = some c167_20 := rfl
theorem f167_22 : jfind c167_0 22 = some c167_22 := rfl
theorem f167_40 : jfind c167_0 40 = some c167_40 := rfl
theorem f167_43 : jfind c167_0 43 = some c167_43 := rfl
theorem f168_0 : jfind c168_0 0 = some c168_0 := rfl
theorem f168_26 : jfind c168_0 26 = some c168_26 := rfl
theorem f168_28 : jfind c168_0 28 = some c168_28 := rfl
theorem f169_0 : jfind c169_0 0 = some c169_0 := rfl
theorem f169_20 : jfind c169_0 20 = some c169_20 := rfl
theorem f169_23 : jfind c169_0 23 = some c169_23 := rfl
theorem f170_0 : jfind c170_0 0 = some c170_0 := rfl
theorem f170_15 : jfind c170_0 15 = some c170_15 := rfl
theorem f170_43 : jfind c170_0 43 = some c170_43 := rfl
theorem f170_46 : jfind c170_0 46 = some c170_46 := rfl
theorem f171_0 : jfind c171_0 0 = some c171_0 := rfl
theorem f171_29 : jfind c171_0 29 = some c171_29 := rfl
theorem f171_33 : jfind c171_0 33 = some c171_33 := rfl
theorem f171_47 : jfind c171_0 47 = some c171_47 := rfl
theorem f172_0 : jfind c172_0 0 = some c172_0 := rfl
theorem f172_10 : jfind c172_0 10 = some c172_10 := rfl
theorem f172_12 : jfind c172_0 12 = some c172_12 := rfl
theorem f172_35 : jfind c172_0 35 = some c172_35 := rfl
theorem f172_37 : jfind c172_0 37 = some c172_37 := rfl
theorem f173_0 : jfind c173_0 0 = some c173_0 := rfl
theorem f173_12 : jfind c173_0 12 = some c173_12 := rfl
theorem f173_42 : jfind c173_0 42 = some c173_42 := rfl
theorem f173_61 : jfind c173_0 61 = some c173_61 := rfl
theorem f173_93 : jfind c173_0 93 = some c173_93 := rfl
theorem f174_0 : jfind c174_0 0 = some c174_0 := rfl
theorem f174_15 : jfind c174_0 15 = some c174_15 := rfl
theorem f174_26 : jfind c174_0 26 = some c174_26 := rfl
theorem f174_38 : jfind c174_0 38 = some c174_38 := rfl
theorem f174_49 : jfind c174_0 49 = some c174_49 := rfl
theorem f174_73 : jfind c174_0 73 = some c174_73 := rfl
theorem f174_79 : jfind c174_0 79 = some c174_79 := rfl
theorem f174_80 : jfind c174_0 80 = some c174_80 := rfl
theorem f174_110 : jfind c174_0 110 = some c174_110 := rfl
theorem f174_142 : jfind c174_0 142 = some c174_142 := rfl
theorem f174_144 : jfind c174_0 144 = some c174_144 := rfl
theorem f175_0 : jfind c175_0 0 = some c175_0 := rfl
theorem f175_33 : jfind c175_0 33 = some c175_33 := rfl
theorem f175_36 : jfind c175_0 36 = some c175_36 := rfl
theorem f176_0 : jfind c176_0 0 = some c176_0 := rfl
theorem f176_10 : jfind c176_0 10 = some c176_10 := rfl
theorem f177_0 : jfind c177_0 0 = some c177_0 := rfl
theorem f177_16 : jfind c177_0 16 = some c177_16 := rfl
theorem f177_19 : jfind c177_0 19 = some c177_19 := rfl
theorem f178_0 : jfind c178_0 0 = some c178_0 := rfl
theorem f178_10 : jfind c178_0 10 = some c178_10 := rfl
theorem f178_14 : jfind c178_0 14 = some c178_14 := rfl
theorem f178_15 : jfind c178_0 15 = some c178_15 := rfl
theorem f178_39 : jfind c178_0 39 = some c178_39 := rfl
theorem f178_41 : jfind c178_0 41 = some c178_41 := rfl
theorem f178_53 : jfind c178_0 53 = some c178_53 := rfl
theorem f178_75 : jfind c178_0 75 = some c178_75 := rfl
theorem f178_76 : jfind c178_0 76 = some c178_76 := rfl
theorem f179_0 : jfind c179_0 0 = some c179_0 := rfl
theorem f179_24 : jfind c179_0 24 = some c179_24 := rfl
theorem f179_26 : jfind c179_0 26 = some c179_26 := rfl
theorem f179_51 : jfind c179_0 51 = some c179_51 := rfl
theorem f179_53 : jfind c179_0 53 = some c179_53 := rfl
theorem f180_0 : jfind c180_0 0 = some c180_0 := rfl
theorem f180_24 : jfind c180_0 24 = some c180_24 := rfl
theorem f180_27 : jfind c180_0 27 = some c180_27 := rfl
theorem f181_0 : jfind c181_0 0 = some c181_0 := rfl
theorem f181_43 : jfind c181_0 43 = some c181_43 := rfl
theorem f181_47 : jfind c181_0 47 = some c181_47 := rfl
theorem f181_73 : jfind c181_0 73 = some c181_73 := rfl
theorem f182_0 : jfind c182_0 0 = some c182_0 := rfl
theorem f182_28 : jfind c182_0 28 = some c182_28 := rfl
theorem f182_29 : jfind c182_0 29 = some c182_29 := rfl
theorem f182_35 : jfind c182_0 35 = some c182_35 := rfl
theorem f182_37 : jfind c182_0 37 = some c182_37 := rfl
theorem f182_56 : jfind c182_0 56 = some c182_56 := rfl
theorem f183_0 : jfind c183_0 0 = some c183_0 := rfl
theorem f183_41 : jfind c183_0 41 = some c183_41 := rfl
theorem f183_45 : jfind c183_0 45 = some c183_45 := rfl
theorem f184_0 : jfind c184_0 0 = some c184_0 := rfl
theorem f184_22 : jfind c184_0 22 = some c184_22 := rfl
theorem f184_24 : jfind c184_0 24 = some c184_24 := rfl
theorem f184_47 : jfind c184_0 47 = some c184_47 := rfl
theorem f184_49 : jfind c184_0 49 = some c184_49 := rfl
theorem f185_0 : jfind c185_0 0 = some c185_0 := rfl
theorem f185_40 : jfind c185_0 40 = some c185_40 := rfl
theorem f185_44 : jfind c185_0 44 = some c185_44 := rfl
theorem f186_0 : jfind c186_0 0 = some c186_0 := rfl
theorem f186_15 : jfind c186_0 15 = some c186_15 := rfl
theorem f186_19 : jfind c186_0 19 = some c186_19 := rfl
theorem f186_24 : jfind c186_0 24 = some c186_24 := rfl
theorem f187_0 : jfind c187_0 0 = some c187_0 := rfl
theorem f187_28 : jfind c187_0 28 = some c187_28 := rfl
theorem f187_45 : jfind c187_0 45 = some c187_45 := rfl
theorem f187_49 : jfind c187_0 49 = some c187_49 := rfl
theorem f187_85 : jfind c187_0 85 = some c187_85 := rfl
theorem f187_100 : jfind c187_0 100 = some c187_100 := rfl
theorem f188_0 : jfind c188_0 0 = some c188_0 := rfl
theorem f188_57 : jfind c188_0 57 = some c188_57 := rfl
theorem f188_61 : jfind c188_0 61 = some c188_61 := rfl
theorem f189_0 : jfind c189_0 0 = some c189_0 := rfl
theorem f189_20 : jfind c189_0 20 = some c189_20 := rfl
theorem f189_22 : jfind c189_0 22 = some c189_22 := rfl
theorem f189_35 : jfind c189_0 35 = some c189_35 := rfl
theorem f189_56 : jfind c189_0 56 = some c189_56 := rfl
theorem f189_100 : jfind c189_0 100 = some c189_100 := rfl
theorem f189_106 : jfind c189_0 106 = some c189_106 := rfl
theorem f190_0 : jfind c190_0 0 = some c190_0 := rfl
theorem f190_50 : jfind c190_0 50 = some c190_50 := rfl
theorem f190_52 : jfind c190_0 52 = some c190_52 := rfl
theorem f190_65 : jfind c190_0 65 = some c190_65 := rfl
theorem f190_78 : jfind c190_0 78 = some c190_78 := rfl
theorem f190_103 : jfind c190_0 103 = some c190_103 := rfl
theorem f191_0 : jfind c191_0 0 = some c191_0 := rfl
theorem f191_33 : jfind c191_0 33 = some c191_33 := rfl
theorem f191_35 : jfind c191_0 35 = some c191_35 := rfl
theorem f191_48 : jfind c191_0 48 = some c191_48 := rfl
theorem f191_90 : jfind c191_0 90 = some c191_90 := rfl
theorem f191_92 : jfind c191_0 92 = some c191_92 := rfl
theorem f192_0 : jfind c192_0 0 = some c192_0 := rfl
theorem f192_12 : jfind c192_0 12 = some c192_12 := rfl
theorem f192_25 : jfind c192_0 25 = some c192_25 := rfl
theorem f192_49 : jfind c192_0 49 = some c192_49 := rfl
theorem f192_61 : jfind c192_0 61 = some c192_61 := rfl
theorem f192_107 : jfind c192_0 107 = some c192_107 := rfl
theorem f192_113 : jfind c192_0 113 = some c192_113 := rfl
theorem f192_119 : jfind c192_0 119 = some c192_119 := rfl
theorem f193_0 : jfind c193_0 0 = some c193_0 := rfl
theorem f193_29 : jfind c193_0 29 = some c193_29 := rfl
theorem f193_31 : jfind c193_0 31 = some c193_31 := rfl
theorem f193_43 : jfind c193_0 43 = some c193_43 := rfl
theorem f193_79 : jfind c193_0 79 = some c193_79 := rfl
theorem f193_88 : jfind c193_0 88 = some c193_88 := rfl
theorem f194_0 : jfind c194_0 0 = some c194_0 := rfl
theorem f194_38 : jfind c194_0 38 = some c194_38 := rfl
theorem f194_42 : jfind c194_0 42 = some c194_42 := rfl
theorem f195_0 : jfind c195_0 0 = some c195_0 := rfl
theorem f195_20 : jfind c195_0 20 = some c195_20 := rfl
theorem f195_22 : jfind c195_0 22 = some c195_22 := rfl
theorem f196_0 : jfind c196_0 0 = some c196_0 := rfl
theorem f196_43 : jfind c196_0 43 = some c196_43 := rfl
theorem f196_46 : jfind c196_0 46 = some c196_46 := rfl
theorem f197_0 : jfind c197_0 0 = some c197_0 := rfl
theorem f197_15 : jfind c197_0 15 = some c197_15 := rfl
theorem f197_19 : jfind c197_0 19 = some c197_19 := rfl
theorem f197_27 : jfind c197_0 27 = some c197_27 := rfl
theorem f198_0 : jfind c198_0 0 = some c198_0 := rfl
theorem f198_10 : jfind c198_0 10 = some c198_10 := rfl
theorem f198_23 : jfind c198_0 23 = some c198_23 := rfl
theorem f198_59 : jfind c198_0 59 = some c198_59 := rfl
theorem f198_66 : jfind c198_0 66 = some c198_66 := rfl
theorem f199_0 : jfind c199_0 0 = some c199_0 := rfl
theorem f199_17 : jfind c199_0 17 = some c199_17 := rfl
theorem f199_21 : jfind c199_0 21 = some c199_21 := rfl
theorem f199_29 : jfind c199_0 29 = some c199_29 := rfl
theorem f200_0 : jfind c200_0 0 = some c200_0 := rfl
theorem f200_31 : jfind c200_0 31 = some c200_31 := rfl
theorem f200_33 : jfind c200_0 33 = some c200_33 := rfl
theorem f201_0 : jfind c201_0 0 = some c201_0 := rfl
theorem f201_10 : jfind c201_0 10 = some c201_10 := rfl
theorem f201_14 : jfind c201_0 14 = some c201_14 := rfl
theorem f201_22 : jfind c201_0 22 = some c201_22 := rfl
theorem f202_0 : jfind c202_0 0 = some c202_0 := rfl
theorem f202_19 : jfind c202_0 19 = some c202_19 := rfl
theorem f202_23 : jfind c202_0 23 = some c202_23 := rfl
theorem f202_32 : jfind c202_0 32 = some c202_32 := rfl
theorem f203_0 : jfind c203_0 0 = some c203_0 := rfl
theorem f204_0 : jfind c204_0 0 = some c204_0 := rfl
theorem f204_20 : jfind c204_0 20 = some c204_20 := rfl
theorem f204_24 : jfind c204_0 24 = some c204_24 := rfl
theorem f204_33 : jfind c204_0 33 = some c204_33 := rfl
theorem f205_0 : jfind c205_0 0 = some c205_0 := rfl
theorem f205_21 : jfind c205_0 21 = some c205_21 := rfl
theorem f205_23 : jfind c205_0 23 = some c205_23 := rfl
theorem f205_36 : jfind c205_0 36 = some c205_36 := rfl
theorem f205_50 : jfind c205_0 50 = some c205_50 := rfl
theorem f205_65 : jfind c205_0 65 = some c205_65 := rfl
theorem f205_82 : jfind c205_0 82 = some c205_82 := rfl
theorem f205_102 : jfind c205_0 102 = some c205_102 := rfl
theorem f206_0 : jfind c206_0 0 = some c206_0 := rfl
theorem f206_20 : jfind c206_0 20 = some c206_20 := rfl
theorem f206_22 : jfind c206_0 22 = some c206_22 := rfl
theorem f207_0 : jfind c207_0 0 = some c207_0 := rfl
theorem f207_18 : jfind c207_0 18 = some c207_18 := rfl
theorem f207_20 : jfind c207_0 20 = some c207_20 := rfl
theorem f207_32 : jfind c207_0 32 = some c207_32 := rfl
theorem f207_52 : jfind c207_0 52 = some c207_52 := rfl
theorem f207_54 : jfind c207_0 54 = some c207_54 := rfl
theorem f208_0 : jfind c208_0 0 = some c208_0 := rfl
theorem f208_53 : jfind c208_0 53 = some c208_53 := rfl
theorem f208_57 : jfind c208_0 57 = some c208_57 := rfl
theorem f208_78 : jfind c208_0 78 = some c208_78 := rfl
theorem f208_92 : jfind c208_0 92 = some c208_92 := rfl
theorem f209_0 : jfind c209_0 0 = some c209_0 := rfl
theorem f209_24 : jfind c209_0 24 = some c209_24 := rfl
theorem f209_27 : jfind c209_0 27 = some c209_27 := rfl
theorem f209_41 : jfind c209_0 41 = some c209_41 := rfl
theorem f209_53 : jfind c209_0 53 = some c209_53 := rfl
theorem f209_109 : jfind c209_0 109 = some c209_109 := rfl
theorem f209_127 : jfind c209_0 127 = some c209_127 := rfl
theorem f210_0 : jfind c210_0 0 = some c210_0 := rfl
theorem f210_28 : jfind c210_0 28 = some c210_28 := rfl
theorem f210_30 : jfind c210_0 30 = some c210_30 := rfl
theorem f210_56 : jfind c210_0 56 = some c210_56 := rfl
theorem f210_63 : jfind c210_0 63 = some c210_63 := rfl
theorem f210_70 : jfind c210_0 70 = some c210_70 := rfl
theorem f210_77 : jfind c210_0 77 = some c210_77 := rfl
theorem f211_0 : jfind c211_0 0 = some c211_0 := rfl
theorem f211_22 : jfind c211_0 22 = some c211_22 := rfl
theorem f211_23 : jfind c211_0 23 = some c211_23 := rfl
theorem f212_0 : jfind c212_0 0 = some c212_0 := rfl
theorem f212_20 : jfind c212_0 20 = some c212_20 := rfl
theorem f212_22 : jfind c212_0 22 = some c212_22 := rfl
theorem f212_36 : jfind c212_0 36 = some c212_36 := rfl
theorem f212_40 : jfind c212_0 40 = some c212_40 := rfl
theorem f213_0 : jfind c213_0 0 = some c213_0 := rfl
theorem f213_22 : jfind c213_0 22 = some c213_22 := rfl
theorem f213_24 : jfind c213_0 24 = some c213_24 := rfl
theorem f213_31 : jfind c213_0 31 = some c213_31 := rfl
theorem f213_48 : jfind c213_0 48 = some c213_48 := rfl
theorem f213_73 : jfind c213_0 73 = some c213_73 := rfl
theorem f214_0 : jfind c214_0 0 = some c214_0 := rfl
theorem f214_16 : jfind c214_0 16 = some c214_16 := rfl
theorem f215_0 : jfind c215_0 0 = some c215_0 := rfl
theorem f215_15 : jfind c215_0 15 = some c215_15 := rfl
theorem f215_26 : jfind c215_0 26 = some c215_26 := rfl
theorem f216_0 : jfind c216_0 0 = some c216_0 := rfl
theorem f216_14 : jfind c216_0 14 = some c216_14 := rfl
theorem f216_16 : jfind c216_0 16 = some c216_16 := rfl
theorem f216_36 : jfind c216_0 36 = some c216_36 := rfl
theorem f216_39 : jfind c216_0 39 = some c216_39 := rfl
theorem f216_65 : jfind c216_0 65 = some c216_65 := rfl
theorem f216_68 : jfind c216_0 68 = some c216_68 := rfl
theorem f216_109 : jfind c216_0 109 = some c216_109 := rfl
theorem f216_112 : jfind c216_0 112 = some c216_112 := rfl
theorem f217_0 : jfind c217_0 0 = some c217_0 := rfl
theorem f217_16 : jfind c217_0 16 = some c217_16 := rfl
theorem f217_18 : jfind c217_0 18 = some c217_18 := rfl
theorem f217_31 : jfind c217_0 31 = some c217_31 := rfl
theorem f217_57 : jfind c217_0 57 = some c217_57 := rfl
theorem f217_62 : jfind c217_0 62 = some c217_62 := rfl
theorem f217_66 : jfind c217_0 66 = some c217_66 := rfl
theorem f218_0 : jfind c218_0 0 = some c218_0 := rfl
theorem f218_40 : jfind c218_0 40 = some c218_40 := rfl
theorem f218_48 : jfind c218_0 48 = some c218_48 := rfl
theorem f218_53 : jfind c218_0 53 = some c218_53 := rfl
theorem f218_61 : jfind c218_0 61 = some c218_61 := rfl
theorem f218_66 : jfind c218_0 66 = some c218_66 := rfl
theorem f218_71 : jfind c218_0 71 = some c218_71 := rfl
theorem f218_79 : jfind c218_0 79 = some c218_79 := rfl
theorem f219_0 : jfind c219_0 0 = some c219_0 := rfl
theorem f219_12 : jfind c219_0 12 = some c219_12 := rfl
theorem f219_16 : jfind c219_0 16 = some c219_16 := rfl
theorem f219_22 : jfind c219_0 22 = some c219_22 := rfl
theorem f220_0 : jfind c220_0 0 = some c220_0 := rfl
theorem f220_12 : jfind c220_0 12 = some c220_12 := rfl
theorem f220_16 : jfind c220_0 16 = some c220_16 := rfl
theorem f220_22 : jfind c220_0 22 = some c220_22 := rfl
theorem f221_0 : jfind c221_0 0 = some c221_0 := rfl
theorem f221_9 : jfind c221_0 9 = some c221_9 := rfl
theorem f221_13 : jfind c221_0 13 = some c221_13 := rfl
theorem f221_14 : jfind c221_0 14 = some c221_14 := rfl
theorem f222_0 : jfind c222_0 0 = some c222_0 := rfl
theorem f222_14 : jfind c222_0 14 = some c222_14 := rfl
theorem f222_15 : jfind c222_0 15 = some c222_15 := rfl
theorem f223_0 : jfind c223_0 0 = some c223_0 := rfl
theorem f223_11 : jfind c223_0 11 = some c223_11 := rfl
theorem f223_12 : jfind c223_0 12 = some c223_12 := rfl
theorem f223_27 : jfind c223_0 27 = some c223_27 := rfl
theorem f223_28 : jfind c223_0 28 = some c223_28 := rfl
theorem f223_42 : jfind c223_0 42 = some c223_42 := rfl
theorem f223_47 : jfind c223_0 47 = some c223_47 := rfl
theorem f224_0 : jfind c224_0 0 = some c224_0 := rfl
theorem f224_9 : jfind c224_0 9 = some c224_9 := rfl
theorem f224_45 : jfind c224_0 45 = some c224_45 := rfl
theorem f225_0 : jfind c225_0 0 = some c225_0 := rfl
theorem f225_36 : jfind c225_0 36 = some c225_36 := rfl
theorem f225_50 : jfind c225_0 50 = some c225_50 := rfl
theorem f225_64 : jfind c225_0 64 = some c225_64 := rfl
theorem f225_78 : jfind c225_0 78 = some c225_78 := rfl
theorem f225_92 : jfind c225_0 92 = some c225_92 := rfl
theorem f225_106 : jfind c225_0 106 = some c225_106 := rfl
theorem f226_0 : jfind c226_0 0 = some c226_0 := rfl
theorem f226_36 : jfind c226_0 36 = some c226_36 := rfl
theorem f226_38 : jfind c226_0 38 = some c226_38 := rfl
theorem f226_43 : jfind c226_0 43 = some c226_43 := rfl
theorem f226_48 : jfind c226_0 48 = some c226_48 := rfl
theorem f226_53 : jfind c226_0 53 = some c226_53 := rfl
theorem f226_58 : jfind c226_0 58 = some c226_58 := rfl
theorem f227_0 : jfind c227_0 0 = some c227_0 := rfl
theorem f227_17 : jfind c227_0 17 = some c227_17 := rfl
theorem f227_36 : jfind c227_0 36 = some c227_36 := rfl
theorem f227_37 : jfind c227_0 37 = some c227_37 := rfl
theorem f228_0 : jfind c228_0 0 = some c228_0 := rfl
theorem f229_0 : jfind c229_0 0 = some c229_0 := rfl
theorem f229_30 : jfind c229_0 30 = some c229_30 := rfl
theorem f230_0 : jfind c230_0 0 = some c230_0 := rfl
theorem f230_16 : jfind c230_0 16 = some c230_16 := rfl
theorem f230_74 : jfind c230_0 74 = some c230_74 := rfl
theorem f231_0 : jfind c231_0 0 = some c231_0 := rfl
theorem f231_53 : jfind c231_0 53 = some c231_53 := rfl
theorem f231_57 : jfind c231_0 57 = some c231_57 := rfl
theorem f231_65 : jfind c231_0 65 = some c231_65 := rfl
theorem f231_97 : jfind c231_0 97 = some c231_97 := rfl
theorem f231_102 : jfind c231_0 102 = some c231_102 := rfl
theorem f231_118 : jfind c231_0 118 = some c231_118 := rfl
theorem f231_149 : jfind c231_0 149 = some c231_149 := rfl
theorem f231_155 : jfind c231_0 155 = some c231_155 := rfl
theorem f232_0 : jfind c232_0 0 = some c232_0 := rfl
theorem f232_58 : jfind c232_0 58 = some c232_58 := rfl
theorem f232_59 : jfind c232_0 59 = some c232_59 := rfl
theorem f233_0 : jfind c233_0 0 = some c233_0 := rfl
theorem f233_45 : jfind c233_0 45 = some c233_45 := rfl
theorem f233_46 : jfind c233_0 46 = some c233_46 := rfl
theorem f234_0 : jfind c234_0 0 = some c234_0 := rfl
theorem f234_9 : jfind c234_0 9 = some c234_9 := rfl
theorem f234_66 : jfind c234_0 66 = some c234_66 := rfl
theorem f234_72 : jfind c234_0 72 = some c234_72 := rfl
theorem f235_0 : jfind c235_0 0 = some c235_0 := rfl
theorem f235_9 : jfind c235_0 9 = some c235_9 := rfl
theorem f235_82 : jfind c235_0 82 = some c235_82 := rfl
theorem f235_88 : jfind c235_0 88 = some c235_88 := rfl
theorem f235_94 : jfind c235_0 94 = some c235_94 := rfl
theorem f235_122 : jfind c235_0 122 = some c235_122 := rfl
theorem f235_128 : jfind c235_0 128 = some c235_128 := rfl
theorem f236_0 : jfind c236_0 0 = some c236_0 := rfl
theorem f236_2 : jfind c236_0 2 = some c236_2 := rfl
theorem f236_12 : jfind c236_0 12 = some c236_12 := rfl
theorem f236_49 : jfind c236_0 49 = some c236_49 := rfl
theorem f236_50 : jfind c236_0 50 = some c236_50 := rfl
theorem f236_58 : jfind c236_0 58 = some c236_58 := rfl
theorem f236_74 : jfind c236_0 74 = some c236_74 := rfl
theorem f236_80 : jfind c236_0 80 = some c236_80 := rfl
theorem f237_0 : jfind c237_0 0 = some c237_0 := rfl
theorem f237_15 : jfind c237_0 15 = some c237_15 := rfl
theorem f237_100 : jfind c237_0 100 = some c237_100 := rfl
theorem f237_117 : jfind c237_0 117 = some c237_117 := rfl
theorem f237_123 : jfind c237_0 123 = some c237_123 := rfl
theorem f238_0 : jfind c238_0 0 = some c238_0 := rfl
theorem f238_6 : jfind c238_0 6 = some c238_6 := rfl
theorem f238_88 : jfind c238_0 88 = some c238_88 := rfl
theorem f238_112 : jfind c238_0 112 = some c238_112 := rfl
theorem f239_0 : jfind c239_0 0 = some c239_0 := rfl
theorem f239_9 : jfind c239_0 9 = some c239_9 := rfl
theorem f239_22 : jfind c239_0 22 = some c239_22 := rfl
theorem f239_36 : jfind c239_0 36 = some c239_36 := rfl
theorem f239_50 : jfind c239_0 50 = some c239_50 := rfl
theorem f239_55 : jfind c239_0 55 = some c239_55 := rfl
theorem f239_56 : jfind c239_0 56 = some c239_56 := rfl
theorem f240_0 : jfind c240_0 0 = some c240_0 := rfl
theorem f240_32 : jfind c240_0 32 = some c240_32 := rfl
theorem f240_37 : jfind c240_0 37 = some c240_37 := rfl
theorem f240_42 : jfind c240_0 42 = some c240_42 := rfl
theorem f240_46 : jfind c240_0 46 = some c240_46 := rfl
theorem f240_48 : jfind c240_0 48 = some c240_48 := rfl
theorem f240_58 : jfind c240_0 58 = some c240_58 := rfl
theorem f240_59 : jfind c240_0 59 = some c240_59 := rfl
set_option maxRecDepth 100000 in
theorem f241_0 : jfind c241_0 0 = some c241_0 := rfl
theorem f242_0 : jfind c242_0 0 = some c242_0 := rfl
theorem f242_14 : jfind c242_0 14 = some c242_14 := rfl
theorem f242_15 : jfind c242_0 15 = some c242_15 := rfl
theorem f243_0 : jfind c243_0 0 = some c243_0 := rfl
theorem f243_11 : jfind c243_0 11 = some c243_11 := rfl
theorem f243_12 : jfind c243_0 12 = some c243_12 := rfl
theorem f243_17 : jfind c243_0 17 = some c243_17 := rfl
theorem f243_42 : jfind c243_0 42 = some c243_42 := rfl
theorem f243_53 : jfind c243_0 53 = some c243_53 := rfl
theorem f243_55 : jfind c243_0 55 = some c243_55 := rfl
theorem f244_0 : jfind c244_0 0 = some c244_0 := rfl
theorem f244_19 : jfind c244_0 19 = some c244_19 := rfl
theorem f244_23 : jfind c244_0 23 = some c244_23 := rfl
theorem f245_0 : jfind c245_0 0 = some c245_0 := rfl
theorem f246_0 : jfind c246_0 0 = some c246_0 := rfl
theorem f246_13 : jfind c246_0 13 = some c246_13 := rfl
theorem f246_24 : jfind c246_0 24 = some c246_24 := rfl
theorem f247_0 : jfind c247_0 0 = some c247_0 := rfl
theorem f247_11 : jfind c247_0 11 = some c247_11 := rfl
theorem f247_21 : jfind c247_0 21 = some c247_21 := rfl
theorem f247_32 : jfind c247_0 32 = some c247_32 := rfl
theorem f247_50 : jfind c247_0 50 = some c247_50 := rfl
theorem f247_77 : jfind c247_0 77 = some c247_77 := rfl
theorem f248_0 : jfind c248_0 0 = some c248_0 := rfl
theorem f248_19 : jfind c248_0 19 = some c248_19 := rfl
theorem f248_21 : jfind c248_0 21 = some c248_21 := rfl
theorem f248_37 : jfind c248_0 37 = some c248_37 := rfl
theorem f248_40 : jfind c248_0 40 = some c248_40 := rfl
theorem f248_52 : jfind c248_0 52 = some c248_52 := rfl
theorem f248_76 : jfind c248_0 76 = some c248_76 := rfl
theorem f249_0 : jfind c249_0 0 = some c249_0 := rfl
theorem f249_43 : jfind c249_0 43 = some c249_43 := rfl
theorem f249_44 : jfind c249_0 44 = some c249_44 := rfl
theorem f250_0 : jfind c250_0 0 = some c250_0 := rfl
theorem f250_21 : jfind c250_0 21 = some c250_21 := rfl
theorem f250_23 : jfind c250_0 23 = some c250_23 := rfl
theorem f250_62 : jfind c250_0 62 = some c250_62 := rfl
theorem f251_0 : jfind c251_0 0 = some c251_0 := rfl
theorem f251_5 : jfind c251_0 5 = some c251_5 := rfl
theorem f251_41 : jfind c251_0 41 = some c251_41 := rfl
theorem f252_0 : jfind c252_0 0 = some c252_0 := rfl
theorem f252_5 : jfind c252_0 5 = some c252_5 := rfl
theorem f252_45 : jfind c252_0 45 = some c252_45 := rfl
theorem f253_0 : jfind c253_0 0 = some c253_0 := rfl
theorem f253_4 : jfind c253_0 4 = some c253_4 := rfl
theorem f253_34 : jfind c253_0 34 = some c253_34 := rfl
theorem f253_45 : jfind c253_0 45 = some c253_45 := rfl
theorem f254_0 : jfind c254_0 0 = some c254_0 := rfl
theorem f255_0 : jfind c255_0 0 = some c255_0 := rfl
theorem f255_5 : jfind c255_0 5 = some c255_5 := rfl
theorem f255_28 : jfind c255_0 28 = some c255_28 := rfl
theorem f255_44 : jfind c255_0 44 = some c255_44 := rfl
theorem f255_100 : jfind c255_0 100 = some c255_100 := rfl
theorem f256_0 : jfind c256_0 0 = some c256_0 := rfl
theorem f256_19 : jfind c256_0 19 = some c256_19 := rfl
theorem f256_26 : jfind c256_0 26 = some c256_26 := rfl
theorem f256_55 : jfind c256_0 55 = some c256_55 := rfl
theorem f256_57 : jfind c256_0 57 = some c256_57 := rfl
theorem f256_69 : jfind c256_0 69 = some c256_69 := rfl
theorem f256_110 : jfind c256_0 110 = some c256_110 := rfl
theorem f256_127 : jfind c256_0 127 = some c256_127 := rfl
theorem f257_0 : jfind c257_0 0 = some c257_0 := rfl
theorem f257_15 : jfind c257_0 15 = some c257_15 := rfl
theorem f257_19 : jfind c257_0 19 = some c257_19 := rfl
theorem f257_26 : jfind c257_0 26 = some c257_26 := rfl
theorem f257_61 : jfind c257_0 61 = some c257_61 := rfl
theorem f257_84 : jfind c257_0 84 = some c257_84 := rfl
theorem f257_100 : jfind c257_0 100 = some c257_100 := rfl
theorem f257_103 : jfind c257_0 103 = some c257_103 := rfl
theorem f258_0 : jfind c258_0 0 = some c258_0 := rfl
theorem f258_15 : jfind c258_0 15 = some c258_15 := rfl
theorem f258_17 : jfind c258_0 17 = some c258_17 := rfl
theorem f258_19 : jfind c258_0 19 = some c258_19 := rfl
theorem f258_45 : jfind c258_0 45 = some c258_45 := rfl
theorem f258_51 : jfind c258_0 51 = some c258_51 := rfl
theorem f259_0 : jfind c259_0 0 = some c259_0 := rfl
theorem f259_2 : jfind c259_0 2 = some c259_2 := rfl
theorem f259_43 : jfind c259_0 43 = some c259_43 := rfl
theorem f259_49 : jfind c259_0 49 = some c259_49 := rfl
theorem f260_0 : jfind c260_0 0 = some c260_0 := rfl
theorem f260_25 : jfind c260_0 25 = some c260_25 := rfl
theorem f260_29 : jfind c260_0 29 = some c260_29 := rfl
theorem f260_40 : jfind c260_0 40 = some c260_40 := rfl
theorem f260_49 : jfind c260_0 49 = some c260_49 := rfl
theorem f260_71 : jfind c260_0 71 = some c260_71 := rfl
theorem f260_105 : jfind c260_0 105 = some c260_105 := rfl
theorem f260_111 : jfind c260_0 111 = some c260_111 := rfl
theorem f261_0 : jfind c261_0 0 = some c261_0 := rfl
theorem f262_0 : jfind c262_0 0 = some c262_0 := rfl
theorem f262_28 : jfind c262_0 28 = some c262_28 := rfl
theorem f262_29 : jfind c262_0 29 = some c262_29 := rfl
theorem f263_0 : jfind c263_0 0 = some c263_0 := rfl
theorem f263_11 : jfind c263_0 11 = some c263_11 := rfl
theorem f263_26 : jfind c263_0 26 = some c263_26 := rfl
theorem f263_28 : jfind c263_0 28 = some c263_28 := rfl
theorem f263_65 : jfind c263_0 65 = some c263_65 := rfl
theorem f264_0 : jfind c264_0 0 = some c264_0 := rfl
theorem f264_17 : jfind c264_0 17 = some c264_17 := rfl
theorem f264_18 : jfind c264_0 18 = some c264_18 := rfl
theorem f265_0 : jfind c265_0 0 = some c265_0 := rfl
theorem f266_0 : jfind c266_0 0 = some c266_0 := rfl
theorem f267_0 : jfind c267_0 0 = some c267_0 := rfl
theorem f267_6 : jfind c267_0 6 = some c267_6 := rfl
theorem f267_27 : jfind c267_0 27 = some c267_27 := rfl
theorem f267_71 : jfind c267_0 71 = some c267_71 := rfl
theorem f267_109 : jfind c267_0 109 = some c267_109 := rfl
theorem f268_0 : jfind c268_0 0 = some c268_0 := rfl
theorem f268_5 : jfind c268_0 5 = some c268_5 := rfl
theorem f269_0 : jfind c269_0 0 = some c269_0 := rfl
theorem f269_16 : jfind c269_0 16 = some c269_16 := rfl
theorem f269_17 : jfind c269_0 17 = some c269_17 := rfl
theorem f269_27 : jfind c269_0 27 = some c269_27 := rfl
theorem f269_41 : jfind c269_0 41 = some c269_41 := rfl
theorem f269_47 : jfind c269_0 47 = some c269_47 := rfl
theorem f269_86 : jfind c269_0 86 = some c269_86 := rfl
theorem f269_100 : jfind c269_0 100 = some c269_100 := rfl
theorem f269_114 : jfind c269_0 114 = some c269_114 := rfl
theorem f269_116 : jfind c269_0 116 = some c269_116 := rfl
set_option maxRecDepth 100000 in
theorem f270_0 : jfind c270_0 0 = some c270_0 := rfl
set_option maxRecDepth 100000 in
theorem f270_22 : jfind c270_0 22 = some c270_22 := rfl
set_option maxRecDepth 100000 in
theorem f270_29 : jfind c270_0 29 = some c270_29 := rfl
set_option maxRecDepth 100000 in
theorem f270_45 : jfind c270_0 45 = some c270_45 := rfl
set_option maxRecDepth 100000 in
theorem f270_51 : jfind c270_0 51 = some c270_51 := rfl
set_option maxRecDepth 100000 in
theorem f270_92 : jfind c270_0 92 = some c270_92 := rfl
set_option maxRecDepth 100000 in
theorem f270_108 : jfind c270_0 108 = some c270_108 := rfl
set_option maxRecDepth 100000 in
theorem f270_115 : jfind c270_0 115 = some c270_115 := rfl
set_option maxRecDepth 100000 in
theorem f270_148 : jfind c270_0 148 = some c270_148 := rfl
set_option maxRecDepth 100000 in
theorem f270_165 : jfind c270_0 165 = some c270_165 := rfl
set_option maxRecDepth 100000 in
theorem f270_182 : jfind c270_0 182 = some c270_182 := rfl
set_option maxRecDepth 100000 in
theorem f270_189 : jfind c270_0 189 = some c270_189 := rfl
set_option maxRecDepth 100000 in
theorem f270_195 : jfind c270_0 195 = some c270_195 := rfl
set_option maxRecDepth 100000 in
theorem f270_209 : jfind c270_0 209 = some c270_209 := rfl
set_option maxRecDepth 100000 in
theorem f271_0 : jfind c271_0 0 = some c271_0 := rfl
set_option maxRecDepth 100000 in
theorem f271_31 : jfind c271_0 31 = some c271_31 := rfl
set_option maxRecDepth 100000 in
theorem f271_39 : jfind c271_0 39 = some c271_39 := rfl
set_option maxRecDepth 100000 in
theorem f271_61 : jfind c271_0 61 = some c271_61 := rfl
set_option maxRecDepth 100000 in
theorem f271_68 : jfind c271_0 68 = some c271_68 := rfl
set_option maxRecDepth 100000 in
theorem f271_85 : jfind c271_0 85 = some c271_85 := rfl
set_option maxRecDepth 100000 in
theorem f271_132 : jfind c271_0 132 = some c271_132 := rfl
set_option maxRecDepth 100000 in
theorem f271_157 : jfind c271_0 157 = some c271_157 := rfl
set_option maxRecDepth 100000 in
theorem f271_159 : jfind c271_0 159 = some c271_159 := rfl
set_option maxRecDepth 100000 in
theorem f271_169 : jfind c271_0 169 = some c271_169 := rfl
set_option maxRecDepth 100000 in
theorem f271_178 : jfind c271_0 178 = some c271_178 := rfl
theorem f272_0 : jfind c272_0 0 = some c272_0 := rfl
theorem f272_24 : jfind c272_0 24 = some c272_24 := rfl
theorem f272_41 : jfind c272_0 41 = some c272_41 := rfl
theorem f272_56 : jfind c272_0 56 = some c272_56 := rfl
theorem f272_64 : jfind c272_0 64 = some c272_64 := rfl
theorem f272_92 : jfind c272_0 92 = some c272_92 := rfl
theorem f272_116 : jfind c272_0 116 = some c272_116 := rfl
theorem f273_0 : jfind c273_0 0 = some c273_0 := rfl
theorem f273_7 : jfind c273_0 7 = some c273_7 := rfl
theorem f273_51 : jfind c273_0 51 = some c273_51 := rfl
theorem f273_70 : jfind c273_0 70 = some c273_70 := rfl
theorem f273_86 : jfind c273_0 86 = some c273_86 := rfl
theorem f273_112 : jfind c273_0 112 = some c273_112 := rfl
theorem f273_129 : jfind c273_0 129 = some c273_129 := rfl
theorem f273_145 : jfind c273_0 145 = some c273_145 := rfl
theorem f273_146 : jfind c273_0 146 = some c273_146 := rfl
theorem f274_0 : jfind c274_0 0 = some c274_0 := rfl
theorem f274_12 : jfind c274_0 12 = some c274_12 := rfl
theorem f274_44 : jfind c274_0 44 = some c274_44 := rfl
theorem f274_56 : jfind c274_0 56 = some c274_56 := rfl
theorem f275_0 : jfind c275_0 0 = some c275_0 := rfl
theorem f275_12 : jfind c275_0 12 = some c275_12 := rfl
theorem f275_24 : jfind c275_0 24 = some c275_24 := rfl
theorem f275_37 : jfind c275_0 37 = some c275_37 := rfl
theorem f275_57 : jfind c275_0 57 = some c275_57 := rfl
theorem f275_70 : jfind c275_0 70 = some c275_70 := rfl
theorem f275_107 : jfind c275_0 107 = some c275_107 := rfl
theorem f275_149 : jfind c275_0 149 = some c275_149 := rfl
theorem f275_152 : jfind c275_0 152 = some c275_152 := rfl
theorem f276_0 : jfind c276_0 0 = some c276_0 := rfl
theorem f276_19 : jfind c276_0 19 = some c276_19 := rfl
theorem f276_43 : jfind c276_0 43 = some c276_43 := rfl
theorem f276_44 : jfind c276_0 44 = some c276_44 := rfl
theorem f277_0 : jfind c277_0 0 = some c277_0 := rfl
theorem f277_28 : jfind c277_0 28 = some c277_28 := rfl
theorem f277_29 : jfind c277_0 29 = some c277_29 := rfl
theorem f278_0 : jfind c278_0 0 = some c278_0 := rfl
theorem f278_32 : jfind c278_0 32 = some c278_32 := rfl
theorem f278_36 : jfind c278_0 36 = some c278_36 := rfl
theorem f278_70 : jfind c278_0 70 = some c278_70 := rfl
theorem f278_71 : jfind c278_0 71 = some c278_71 := rfl
theorem f279_0 : jfind c279_0 0 = some c279_0 := rfl
theorem f279_17 : jfind c279_0 17 = some c279_17 := rfl
theorem f279_94 : jfind c279_0 94 = some c279_94 := rfl
theorem f279_104 : jfind c279_0 104 = some c279_104 := rfl
theorem f280_0 : jfind c280_0 0 = some c280_0 := rfl
theorem f280_14 : jfind c280_0 14 = some c280_14 := rfl
theorem f280_28 : jfind c280_0 28 = some c280_28 := rfl
theorem f280_35 : jfind c280_0 35 = some c280_35 := rfl
theorem f281_0 : jfind c281_0 0 = some c281_0 := rfl
theorem f281_31 : jfind c281_0 31 = some c281_31 := rfl
theorem f281_42 : jfind c281_0 42 = some c281_42 := rfl
theorem f281_46 : jfind c281_0 46 = some c281_46 := rfl
theorem f281_54 : jfind c281_0 54 = some c281_54 := rfl
theorem f281_55 : jfind c281_0 55 = some c281_55 := rfl
theorem f281_70 : jfind c281_0 70 = some c281_70 := rfl
theorem f281_80 : jfind c281_0 80 = some c281_80 := rfl
theorem f281_96 : jfind c281_0 96 = some c281_96 := rfl
theorem f281_103 : jfind c281_0 103 = some c281_103 := rfl
theorem f281_124 : jfind c281_0 124 = some c281_124 := rfl
theorem f282_0 : jfind c282_0 0 = some c282_0 := rfl
theorem f282_10 : jfind c282_0 10 = some c282_10 := rfl
theorem f283_0 : jfind c283_0 0 = some c283_0 := rfl
theorem f283_10 : jfind c283_0 10 = some c283_10 := rfl
theorem f284_0 : jfind c284_0 0 = some c284_0 := rfl
theorem f285_0 : jfind c285_0 0 = some c285_0 := rfl
theorem f285_24 : jfind c285_0 24 = some c285_24 := rfl
theorem f285_26 : jfind c285_0 26 = some c285_26 := rfl
theorem f285_38 : jfind c285_0 38 = some c285_38 := rfl
theorem f285_65 : jfind c285_0 65 = some c285_65 := rfl
theorem f285_66 : jfind c285_0 66 = some c285_66 := rfl
theorem f286_0 : jfind c286_0 0 = some c286_0 := rfl
theorem f286_23 : jfind c286_0 23 = some c286_23 := rfl
theorem f286_25 : jfind c286_0 25 = some c286_25 := rfl
theorem f286_37 : jfind c286_0 37 = some c286_37 := rfl
theorem f287_0 : jfind c287_0 0 = some c287_0 := rfl
theorem f287_4 : jfind c287_0 4 = some c287_4 := rfl
theorem f287_41 : jfind c287_0 41 = some c287_41 := rfl
theorem f287_43 : jfind c287_0 43 = some c287_43 := rfl
theorem f287_49 : jfind c287_0 49 = some c287_49 := rfl
theorem f287_58 : jfind c287_0 58 = some c287_58 := rfl
theorem f287_67 : jfind c287_0 67 = some c287_67 := rfl
theorem f288_0 : jfind c288_0 0 = some c288_0 := rfl
theorem f288_4 : jfind c288_0 4 = some c288_4 := rfl
theorem f288_23 : jfind c288_0 23 = some c288_23 := rfl
theorem f288_25 : jfind c288_0 25 = some c288_25 := rfl
theorem f288_44 : jfind c288_0 44 = some c288_44 := rfl
theorem f289_0 : jfind c289_0 0 = some c289_0 := rfl
theorem f289_10 : jfind c289_0 10 = some c289_10 := rfl
theorem f289_16 : jfind c289_0 16 = some c289_16 := rfl
theorem f289_30 : jfind c289_0 30 = some c289_30 := rfl
theorem f289_37 : jfind c289_0 37 = some c289_37 := rfl
theorem f289_40 : jfind c289_0 40 = some c289_40 := rfl
theorem f290_0 : jfind c290_0 0 = some c290_0 := rfl
theorem f290_41 : jfind c290_0 41 = some c290_41 := rfl
theorem f290_44 : jfind c290_0 44 = some c290_44 := rfl
theorem f291_0 : jfind c291_0 0 = some c291_0 := rfl
theorem f291_24 : jfind c291_0 24 = some c291_24 := rfl
theorem f291_44 : jfind c291_0 44 = some c291_44 := rfl
theorem f292_0 : jfind c292_0 0 = some c292_0 := rfl
theorem f292_2 : jfind c292_0 2 = some c292_2 := rfl
theorem f292_40 : jfind c292_0 40 = some c292_40 := rfl
theorem f292_46 : jfind c292_0 46 = some c292_46 := rfl
theorem f293_0 : jfind c293_0 0 = some c293_0 := rfl
theorem f293_4 : jfind c293_0 4 = some c293_4 := rfl
theorem f293_29 : jfind c293_0 29 = some c293_29 := rfl
theorem f293_35 : jfind c293_0 35 = some c293_35 := rfl
set_option maxRecDepth 100000 in
theorem f294_0 : jfind c294_0 0 = some c294_0 := rfl
set_option maxRecDepth 100000 in
theorem f294_55 : jfind c294_0 55 = some c294_55 := rfl
set_option maxRecDepth 100000 in
theorem f294_63 : jfind c294_0 63 = some c294_63 := rfl
set_option maxRecDepth 100000 in
theorem f294_64 : jfind c294_0 64 = some c294_64 := rfl
set_option maxRecDepth 100000 in
theorem f294_81 : jfind c294_0 81 = some c294_81 := rfl
set_option maxRecDepth 100000 in
theorem f294_125 : jfind c294_0 125 = some c294_125 := rfl
set_option maxRecDepth 100000 in
theorem f294_131 : jfind c294_0 131 = some c294_131 := rfl
set_option maxRecDepth 100000 in
theorem f294_188 : jfind c294_0 188 = some c294_188 := rfl
set_option maxRecDepth 100000 in
theorem f294_201 : jfind c294_0 201 = some c294_201 := rfl
set_option maxRecDepth 100000 in
theorem f294_207 : jfind c294_0 207 = some c294_207 := rfl
theorem f295_0 : jfind c295_0 0 = some c295_0 := rfl
theorem f295_24 : jfind c295_0 24 = some c295_24 := rfl
theorem f295_50 : jfind c295_0 50 = some c295_50 := rfl
theorem f295_92 : jfind c295_0 92 = some c295_92 := rfl
theorem f295_110 : jfind c295_0 110 = some c295_110 := rfl
theorem f295_112 : jfind c295_0 112 = some c295_112 := rfl
theorem f295_117 : jfind c295_0 117 = some c295_117 := rfl
theorem f295_123 : jfind c295_0 123 = some c295_123 := rfl
theorem f296_0 : jfind c296_0 0 = some c296_0 := rfl
theorem f296_31 : jfind c296_0 31 = some c296_31 := rfl
theorem f296_75 : jfind c296_0 75 = some c296_75 := rfl
theorem f296_81 : jfind c296_0 81 = some c296_81 := rfl
theorem f296_138 : jfind c296_0 138 = some c296_138 := rfl
theorem f296_142 : jfind c296_0 142 = some c296_142 := rfl
theorem f296_148 : jfind c296_0 148 = some c296_148 := rfl
theorem f297_0 : jfind c297_0 0 = some c297_0 := rfl
theorem f297_10 : jfind c297_0 10 = some c297_10 := rfl
theorem f297_14 : jfind c297_0 14 = some c297_14 := rfl
theorem f297_50 : jfind c297_0 50 = some c297_50 := rfl
theorem f298_0 : jfind c298_0 0 = some c298_0 := rfl
theorem f299_0 : jfind c299_0 0 = some c299_0 := rfl
theorem f299_11 : jfind c299_0 11 = some c299_11 := rfl
theorem f299_19 : jfind c299_0 19 = some c299_19 := rfl
theorem f300_0 : jfind c300_0 0 = some c300_0 := rfl
theorem f300_2 : jfind c300_0 2 = some c300_2 := rfl
theorem f300_44 : jfind c300_0 44 = some c300_44 := rfl
theorem f300_50 : jfind c300_0 50 = some c300_50 := rfl
theorem f301_0 : jfind c301_0 0 = some c301_0 := rfl
theorem f301_25 : jfind c301_0 25 = some c301_25 := rfl
theorem f301_29 : jfind c301_0 29 = some c301_29 := rfl
theorem f301_40 : jfind c301_0 40 = some c301_40 := rfl
theorem f301_82 : jfind c301_0 82 = some c301_82 := rfl
theorem f302_0 : jfind c302_0 0 = some c302_0 := rfl
theorem f302_30 : jfind c302_0 30 = some c302_30 := rfl
theorem f302_32 : jfind c302_0 32 = some c302_32 := rfl
theorem f302_62 : jfind c302_0 62 = some c302_62 := rfl
theorem f303_0 : jfind c303_0 0 = some c303_0 := rfl
theorem f303_25 : jfind c303_0 25 = some c303_25 := rfl
theorem f303_29 : jfind c303_0 29 = some c303_29 := rfl
theorem f303_71 : jfind c303_0 71 = some c303_71 := rfl
theorem f303_74 : jfind c303_0 74 = some c303_74 := rfl
set_option maxRecDepth 100000 in
theorem f304_0 : jfind c304_0 0 = some c304_0 := rfl
set_option maxRecDepth 100000 in
theorem f304_16 : jfind c304_0 16 = some c304_16 := rfl
set_option maxRecDepth 100000 in
theorem f304_18 : jfind c304_0 18 = some c304_18 := rfl
set_option maxRecDepth 100000 in
theorem f304_28 : jfind c304_0 28 = some c304_28 := rfl
set_option maxRecDepth 100000 in
theorem f304_50 : jfind c304_0 50 = some c304_50 := rfl
set_option maxRecDepth 100000 in
theorem f304_84 : jfind c304_0 84 = some c304_84 := rfl
set_option maxRecDepth 100000 in
theorem f304_99 : jfind c304_0 99 = some c304_99 := rfl
set_option maxRecDepth 100000 in
theorem f304_153 : jfind c304_0 153 = some c304_153 := rfl
set_option maxRecDepth 100000 in
theorem f304_154 : jfind c304_0 154 = some c304_154 := rfl
set_option maxRecDepth 100000 in
theorem f304_162 : jfind c304_0 162 = some c304_162 := rfl
set_option maxRecDepth 100000 in
theorem f304_180 : jfind c304_0 180 = some c304_180 := rfl
set_option maxRecDepth 100000 in
theorem f304_186 : jfind c304_0 186 = some c304_186 := rfl
theorem f305_0 : jfind c305_0 0 = some c305_0 := rfl
theorem f305_7 : jfind c305_0 7 = some c305_7 := rfl
theorem f305_20 : jfind c305_0 20 = some c305_20 := rfl
theorem f305_53 : jfind c305_0 53 = some c305_53 := rfl
theorem f305_74 : jfind c305_0 74 = some c305_74 := rfl
theorem f305_80 : jfind c305_0 80 = some c305_80 := rfl
theorem f305_102 : jfind c305_0 102 = some c305_102 := rfl
theorem f306_0 : jfind c306_0 0 = some c306_0 := rfl
theorem f306_40 : jfind c306_0 40 = some c306_40 := rfl
theorem f306_44 : jfind c306_0 44 = some c306_44 := rfl
theorem f306_55 : jfind c306_0 55 = some c306_55 := rfl
theorem f306_76 : jfind c306_0 76 = some c306_76 := rfl
theorem f307_0 : jfind c307_0 0 = some c307_0 := rfl
theorem f307_17 : jfind c307_0 17 = some c307_17 := rfl
theorem f307_53 : jfind c307_0 53 = some c307_53 := rfl
theorem f307_84 : jfind c307_0 84 = some c307_84 := rfl
theorem f307_87 : jfind c307_0 87 = some c307_87 := rfl
theorem f307_125 : jfind c307_0 125 = some c307_125 := rfl
theorem f308_0 : jfind c308_0 0 = some c308_0 := rfl
theorem f308_13 : jfind c308_0 13 = some c308_13 := rfl
theorem f308_15 : jfind c308_0 15 = some c308_15 := rfl
theorem f308_42 : jfind c308_0 42 = some c308_42 := rfl
theorem f308_57 : jfind c308_0 57 = some c308_57 := rfl
theorem f308_58 : jfind c308_0 58 = some c308_58 := rfl
theorem f309_0 : jfind c309_0 0 = some c309_0 := rfl
theorem f309_6 : jfind c309_0 6 = some c309_6 := rfl
theorem f309_25 : jfind c309_0 25 = some c309_25 := rfl
theorem f309_31 : jfind c309_0 31 = some c309_31 := rfl
theorem f309_36 : jfind c309_0 36 = some c309_36 := rfl
theorem f309_71 : jfind c309_0 71 = some c309_71 := rfl
theorem f309_88 : jfind c309_0 88 = some c309_88 := rfl
theorem f309_94 : jfind c309_0 94 = some c309_94 := rfl
theorem f310_0 : jfind c310_0 0 = some c310_0 := rfl
theorem f311_0 : jfind c311_0 0 = some c311_0 := rfl
theorem f311_15 : jfind c311_0 15 = some c311_15 := rfl
theorem f311_56 : jfind c311_0 56 = some c311_56 := rfl
theorem f312_0 : jfind c312_0 0 = some c312_0 := rfl
theorem f312_21 : jfind c312_0 21 = some c312_21 := rfl
theorem f312_30 : jfind c312_0 30 = some c312_30 := rfl
theorem f312_34 : jfind c312_0 34 = some c312_34 := rfl
theorem f312_45 : jfind c312_0 45 = some c312_45 := rfl
theorem f312_57 : jfind c312_0 57 = some c312_57 := rfl
theorem f312_63 : jfind c312_0 63 = some c312_63 := rfl
theorem f313_0 : jfind c313_0 0 = some c313_0 := rfl
theorem f313_39 : jfind c313_0 39 = some c313_39 := rfl
theorem f313_43 : jfind c313_0 43 = some c313_43 := rfl
theorem f313_54 : jfind c313_0 54 = some c313_54 := rfl
theorem f314_0 : jfind c314_0 0 = some c314_0 := rfl
theorem f314_15 : jfind c314_0 15 = some c314_15 := rfl
theorem f314_17 : jfind c314_0 17 = some c314_17 := rfl
theorem f314_27 : jfind c314_0 27 = some c314_27 := rfl
theorem f314_31 : jfind c314_0 31 = some c314_31 := rfl
theorem f314_57 : jfind c314_0 57 = some c314_57 := rfl
theorem f314_63 : jfind c314_0 63 = some c314_63 := rfl
theorem f315_0 : jfind c315_0 0 = some c315_0 := rfl
theorem f315_2 : jfind c315_0 2 = some c315_2 := rfl
theorem f315_29 : jfind c315_0 29 = some c315_29 := rfl
theorem f315_35 : jfind c315_0 35 = some c315_35 := rfl
theorem f316_0 : jfind c316_0 0 = some c316_0 := rfl
theorem f316_12 : jfind c316_0 12 = some c316_12 := rfl
theorem f316_22 : jfind c316_0 22 = some c316_22 := rfl
theorem f317_0 : jfind c317_0 0 = some c317_0 := rfl
theorem f317_13 : jfind c317_0 13 = some c317_13 := rfl
theorem f317_26 : jfind c317_0 26 = some c317_26 := rfl
theorem f317_32 : jfind c317_0 32 = some c317_32 := rfl
theorem f318_0 : jfind c318_0 0 = some c318_0 := rfl
theorem f318_24 : jfind c318_0 24 = some c318_24 := rfl
theorem f318_26 : jfind c318_0 26 = some c318_26 := rfl
theorem f318_27 : jfind c318_0 27 = some c318_27 := rfl
theorem f318_43 : jfind c318_0 43 = some c318_43 := rfl
theorem f318_53 : jfind c318_0 53 = some c318_53 := rfl
theorem f318_54 : jfind c318_0 54 = some c318_54 := rfl
theorem f318_66 : jfind c318_0 66 = some c318_66 := rfl
theorem f318_68 : jfind c318_0 68 = some c318_68 := rfl
theorem f318_77 : jfind c318_0 77 = some c318_77 := rfl
theorem f318_103 : jfind c318_0 103 = some c318_103 := rfl
theorem f318_108 : jfind c318_0 108 = some c318_108 := rfl
theorem f318_125 : jfind c318_0 125 = some c318_125 := rfl
theorem f318_150 : jfind c318_0 150 = some c318_150 := rfl
theorem f318_161 : jfind c318_0 161 = some c318_161 := rfl
theorem f318_167 : jfind c318_0 167 = some c318_167 := rfl
theorem f319_0 : jfind c319_0 0 = some c319_0 := rfl
theorem f319_43 : jfind c319_0 43 = some c319_43 := rfl
theorem f319_45 : jfind c319_0 45 = some c319_45 := rfl
theorem f319_57 : jfind c319_0 57 = some c319_57 := rfl
theorem f320_0 : jfind c320_0 0 = some c320_0 := rfl
theorem f320_20 : jfind c320_0 20 = some c320_20 := rfl
theorem f320_22 : jfind c320_0 22 = some c320_22 := rfl
theorem f320_34 : jfind c320_0 34 = some c320_34 := rfl
theorem f320_55 : jfind c320_0 55 = some c320_55 := rfl
theorem f320_73 : jfind c320_0 73 = some c320_73 := rfl
theorem f321_0 : jfind c321_0 0 = some c321_0 := rfl
theorem f321_10 : jfind c321_0 10 = some c321_10 := rfl
theorem f321_22 : jfind c321_0 22 = some c321_22 := rfl
theorem f321_30 : jfind c321_0 30 = some c321_30 := rfl
theorem f321_59 : jfind c321_0 59 = some c321_59 := rfl
theorem f321_62 : jfind c321_0 62 = some c321_62 := rfl
theorem f321_103 : jfind c321_0 103 = some c321_103 := rfl
theorem f321_109 : jfind c321_0 109 = some c321_109 := rfl
theorem f321_115 : jfind c321_0 115 = some c321_115 := rfl
theorem f321_121 : jfind c321_0 121 = some c321_121 := rfl
theorem f322_0 : jfind c322_0 0 = some c322_0 := rfl
theorem f322_62 : jfind c322_0 62 = some c322_62 := rfl
theorem f322_63 : jfind c322_0 63 = some c322_63 := rfl
theorem f323_0 : jfind c323_0 0 = some c323_0 := rfl
theorem f323_17 : jfind c323_0 17 = some c323_17 := rfl
theorem f323_52 : jfind c323_0 52 = some c323_52 := rfl
theorem f323_53 : jfind c323_0 53 = some c323_53 := rfl
theorem f323_61 : jfind c323_0 61 = some c323_61 := rfl
theorem f324_0 : jfind c324_0 0 = some c324_0 := rfl
theorem f324_17 : jfind c324_0 17 = some c324_17 := rfl
theorem f324_66 : jfind c324_0 66 = some c324_66 := rfl
theorem f324_67 : jfind c324_0 67 = some c324_67 := rfl
theorem f324_76 : jfind c324_0 76 = some c324_76 := rfl
theorem f325_0 : jfind c325_0 0 = some c325_0 := rfl
theorem f325_3 : jfind c325_0 3 = some c325_3 := rfl
theorem f325_63 : jfind c325_0 63 = some c325_63 := rfl
theorem f325_69 : jfind c325_0 69 = some c325_69 := rfl
set_option maxRecDepth 100000 in
theorem f326_0 : jfind c326_0 0 = some c326_0 := rfl
set_option maxRecDepth 100000 in
theorem f326_14 : jfind c326_0 14 = some c326_14 := rfl
set_option maxRecDepth 100000 in
theorem f326_49 : jfind c326_0 49 = some c326_49 := rfl
set_option maxRecDepth 100000 in
theorem f326_88 : jfind c326_0 88 = some c326_88 := rfl
set_option maxRecDepth 100000 in
theorem f326_94 : jfind c326_0 94 = some c326_94 := rfl
set_option maxRecDepth 100000 in
theorem f326_114 : jfind c326_0 114 = some c326_114 := rfl
set_option maxRecDepth 100000 in
theorem f326_127 : jfind c326_0 127 = some c326_127 := rfl
set_option maxRecDepth 100000 in
theorem f326_152 : jfind c326_0 152 = some c326_152 := rfl
set_option maxRecDepth 100000 in
theorem f326_153 : jfind c326_0 153 = some c326_153 := rfl
set_option maxRecDepth 100000 in
theorem f326_162 : jfind c326_0 162 = some c326_162 := rfl
set_option maxRecDepth 100000 in
theorem f326_172 : jfind c326_0 172 = some c326_172 := rfl
set_option maxRecDepth 100000 in
theorem f326_180 : jfind c326_0 180 = some c326_180 := rfl
set_option maxRecDepth 100000 in
theorem f326_186 : jfind c326_0 186 = some c326_186 := rfl
set_option maxRecDepth 100000 in
theorem f326_189 : jfind c326_0 189 = some c326_189 := rfl
set_option maxRecDepth 100000 in
theorem f326_243 : jfind c326_0 243 = some c326_243 := rfl
set_option maxRecDepth 100000 in
theorem f326_249 : jfind c326_0 249 = some c326_249 := rfl
theorem f327_0 : jfind c327_0 0 = some c327_0 := rfl
theorem f327_20 : jfind c327_0 20 = some c327_20 := rfl
theorem f327_22 : jfind c327_0 22 = some c327_22 := rfl
theorem f327_41 : jfind c327_0 41 = some c327_41 := rfl
theorem f327_63 : jfind c327_0 63 = some c327_63 := rfl
theorem f327_77 : jfind c327_0 77 = some c327_77 := rfl
theorem f328_0 : jfind c328_0 0 = some c328_0 := rfl
theorem f328_36 : jfind c328_0 36 = some c328_36 := rfl
theorem f328_37 : jfind c328_0 37 = some c328_37 := rfl
theorem f328_38 : jfind c328_0 38 = some c328_38 := rfl
theorem f328_70 : jfind c328_0 70 = some c328_70 := rfl
theorem f328_88 : jfind c328_0 88 = some c328_88 := rfl
theorem f328_89 : jfind c328_0 89 = some c328_89 := rfl
theorem f328_90 : jfind c328_0 90 = some c328_90 := rfl
theorem f329_0 : jfind c329_0 0 = some c329_0 := rfl
theorem f329_20 : jfind c329_0 20 = some c329_20 := rfl
theorem f329_24 : jfind c329_0 24 = some c329_24 := rfl
theorem f329_44 : jfind c329_0 44 = some c329_44 := rfl
theorem f329_67 : jfind c329_0 67 = some c329_67 := rfl
theorem f329_132 : jfind c329_0 132 = some c329_132 := rfl
theorem f329_146 : jfind c329_0 146 = some c329_146 := rfl
theorem f329_152 : jfind c329_0 152 = some c329_152 := rfl
theorem f330_0 : jfind c330_0 0 = some c330_0 := rfl
theorem f330_18 : jfind c330_0 18 = some c330_18 := rfl
theorem f330_20 : jfind c330_0 20 = some c330_20 := rfl
theorem f330_32 : jfind c330_0 32 = some c330_32 := rfl
theorem f330_51 : jfind c330_0 51 = some c330_51 := rfl
theorem f331_0 : jfind c331_0 0 = some c331_0 := rfl
theorem f331_46 : jfind c331_0 46 = some c331_46 := rfl
theorem f331_50 : jfind c331_0 50 = some c331_50 := rfl
theorem f332_0 : jfind c332_0 0 = some c332_0 := rfl
theorem f332_2 : jfind c332_0 2 = some c332_2 := rfl
theorem f332_35 : jfind c332_0 35 = some c332_35 := rfl
theorem f332_41 : jfind c332_0 41 = some c332_41 := rfl
theorem f332_43 : jfind c332_0 43 = some c332_43 := rfl
theorem f332_82 : jfind c332_0 82 = some c332_82 := rfl
theorem f332_88 : jfind c332_0 88 = some c332_88 := rfl
theorem f333_0 : jfind c333_0 0 = some c333_0 := rfl
theorem f333_12 : jfind c333_0 12 = some c333_12 := rfl
theorem f333_14 : jfind c333_0 14 = some c333_14 := rfl
theorem f333_18 : jfind c333_0 18 = some c333_18 := rfl
theorem f333_29 : jfind c333_0 29 = some c333_29 := rfl
theorem f333_51 : jfind c333_0 51 = some c333_51 := rfl
theorem f333_64 : jfind c333_0 64 = some c333_64 := rfl
theorem f333_67 : jfind c333_0 67 = some c333_67 := rfl
theorem f333_73 : jfind c333_0 73 = some c333_73 := rfl
theorem f333_79 : jfind c333_0 79 = some c333_79 := rfl
theorem f333_87 : jfind c333_0 87 = some c333_87 := rfl
theorem f333_88 : jfind c333_0 88 = some c333_88 := rfl
theorem f334_0 : jfind c334_0 0 = some c334_0 := rfl
theorem f334_9 : jfind c334_0 9 = some c334_9 := rfl
theorem f334_10 : jfind c334_0 10 = some c334_10 := rfl
theorem f335_0 : jfind c335_0 0 = some c335_0 := rfl
theorem f335_9 : jfind c335_0 9 = some c335_9 := rfl
theorem f335_10 : jfind c335_0 10 = some c335_10 := rfl
set_option maxRecDepth 100000 in
theorem f336_0 : jfind c336_0 0 = some c336_0 := rfl
set_option maxRecDepth 100000 in
theorem f336_13 : jfind c336_0 13 = some c336_13 := rfl
set_option maxRecDepth 100000 in
theorem f336_29 : jfind c336_0 29 = some c336_29 := rfl
set_option maxRecDepth 100000 in
theorem f336_32 : jfind c336_0 32 = some c336_32 := rfl
set_option maxRecDepth 100000 in
theorem f336_34 : jfind c336_0 34 = some c336_34 := rfl
set_option maxRecDepth 100000 in
theorem f336_41 : jfind c336_0 41 = some c336_41 := rfl
set_option maxRecDepth 100000 in
theorem f336_76 : jfind c336_0 76 = some c336_76 := rfl
set_option maxRecDepth 100000 in
theorem f336_82 : jfind c336_0 82 = some c336_82 := rfl
set_option maxRecDepth 100000 in
theorem f336_88 : jfind c336_0 88 = some c336_88 := rfl
set_option maxRecDepth 100000 in
theorem f336_169 : jfind c336_0 169 = some c336_169 := rfl
set_option maxRecDepth 100000 in
theorem f336_209 : jfind c336_0 209 = some c336_209 := rfl
set_option maxRecDepth 100000 in
theorem f336_221 : jfind c336_0 221 = some c336_221 := rfl
set_option maxRecDepth 100000 in
theorem f337_0 : jfind c337_0 0 = some c337_0 := rfl
set_option maxRecDepth 100000 in
theorem f337_11 : jfind c337_0 11 = some c337_11 := rfl
set_option maxRecDepth 100000 in
theorem f337_15 : jfind c337_0 15 = some c337_15 := rfl
set_option maxRecDepth 100000 in
theorem f337_20 : jfind c337_0 20 = some c337_20 := rfl
set_option maxRecDepth 100000 in
theorem f337_41 : jfind c337_0 41 = some c337_41 := rfl
set_option maxRecDepth 100000 in
theorem f337_43 : jfind c337_0 43 = some c337_43 := rfl
set_option maxRecDepth 100000 in
theorem f337_54 : jfind c337_0 54 = some c337_54 := rfl
set_option maxRecDepth 100000 in
theorem f337_60 : jfind c337_0 60 = some c337_60 := rfl
set_option maxRecDepth 100000 in
theorem f337_80 : jfind c337_0 80 = some c337_80 := rfl
set_option maxRecDepth 100000 in
theorem f337_81 : jfind c337_0 81 = some c337_81 := rfl
set_option maxRecDepth 100000 in
theorem f337_92 : jfind c337_0 92 = some c337_92 := rfl
set_option maxRecDepth 100000 in
theorem f337_126 : jfind c337_0 126 = some c337_126 := rfl
set_option maxRecDepth 100000 in
theorem f337_130 : jfind c337_0 130 = some c337_130 := rfl
set_option maxRecDepth 100000 in
theorem f337_166 : jfind c337_0 166 = some c337_166 := rfl
set_option maxRecDepth 100000 in
theorem f337_167 : jfind c337_0 167 = some c337_167 := rfl
set_option maxRecDepth 100000 in
theorem f337_169 : jfind c337_0 169 = some c337_169 := rfl
set_option maxRecDepth 100000 in
theorem f337_175 : jfind c337_0 175 = some c337_175 := rfl
set_option maxRecDepth 100000 in
theorem f337_182 : jfind c337_0 182 = some c337_182 := rfl
set_option maxRecDepth 100000 in
theorem f337_188 : jfind c337_0 188 = some c337_188 := rfl
set_option maxRecDepth 100000 in
theorem f338_0 : jfind c338_0 0 = some c338_0 := rfl
set_option maxRecDepth 100000 in
theorem f338_16 : jfind c338_0 16 = some c338_16 := rfl
set_option maxRecDepth 100000 in
theorem f338_18 : jfind c338_0 18 = some c338_18 := rfl
set_option maxRecDepth 100000 in
theorem f338_39 : jfind c338_0 39 = some c338_39 := rfl
set_option maxRecDepth 100000 in
theorem f338_50 : jfind c338_0 50 = some c338_50 := rfl
set_option maxRecDepth 100000 in
theorem f338_88 : jfind c338_0 88 = some c338_88 := rfl
set_option maxRecDepth 100000 in
theorem f338_100 : jfind c338_0 100 = some c338_100 := rfl
set_option maxRecDepth 100000 in
theorem f338_106 : jfind c338_0 106 = some c338_106 := rfl
set_option maxRecDepth 100000 in
theorem f338_109 : jfind c338_0 109 = some c338_109 := rfl
set_option maxRecDepth 100000 in
theorem f338_147 : jfind c338_0 147 = some c338_147 := rfl
set_option maxRecDepth 100000 in
theorem f338_159 : jfind c338_0 159 = some c338_159 := rfl
set_option maxRecDepth 100000 in
theorem f338_165 : jfind c338_0 165 = some c338_165 := rfl
set_option maxRecDepth 100000 in
theorem f338_168 : jfind c338_0 168 = some c338_168 := rfl
set_option maxRecDepth 100000 in
theorem f338_176 : jfind c338_0 176 = some c338_176 := rfl
set_option maxRecDepth 100000 in
theorem f338_177 : jfind c338_0 177 = some c338_177 := rfl
theorem f339_0 : jfind c339_0 0 = some c339_0 := rfl
theorem f339_30 : jfind c339_0 30 = some c339_30 := rfl
theorem f339_32 : jfind c339_0 32 = some c339_32 := rfl
theorem f339_43 : jfind c339_0 43 = some c339_43 := rfl
theorem f340_0 : jfind c340_0 0 = some c340_0 := rfl
theorem f340_12 : jfind c340_0 12 = some c340_12 := rfl
theorem f340_14 : jfind c340_0 14 = some c340_14 := rfl
theorem f340_34 : jfind c340_0 34 = some c340_34 := rfl
theorem f340_40 : jfind c340_0 40 = some c340_40 := rfl
theorem f340_51 : jfind c340_0 51 = some c340_51 := rfl
theorem f341_0 : jfind c341_0 0 = some c341_0 := rfl
theorem f341_18 : jfind c341_0 18 = some c341_18 := rfl
theorem f341_31 : jfind c341_0 31 = some c341_31 := rfl
theorem f342_0 : jfind c342_0 0 = some c342_0 := rfl
theorem f342_13 : jfind c342_0 13 = some c342_13 := rfl
theorem f342_58 : jfind c342_0 58 = some c342_58 := rfl
theorem f342_90 : jfind c342_0 90 = some c342_90 := rfl
theorem f342_96 : jfind c342_0 96 = some c342_96 := rfl
theorem f342_118 : jfind c342_0 118 = some c342_118 := rfl
theorem f342_122 : jfind c342_0 122 = some c342_122 := rfl
theorem f342_145 : jfind c342_0 145 = some c342_145 := rfl
theorem f342_146 : jfind c342_0 146 = some c342_146 := rfl
theorem f343_0 : jfind c343_0 0 = some c343_0 := rfl
theorem f343_3 : jfind c343_0 3 = some c343_3 := rfl
theorem f343_40 : jfind c343_0 40 = some c343_40 := rfl
theorem f343_43 : jfind c343_0 43 = some c343_43 := rfl
theorem f343_75 : jfind c343_0 75 = some c343_75 := rfl
theorem f343_81 : jfind c343_0 81 = some c343_81 := rfl
theorem f343_87 : jfind c343_0 87 = some c343_87 := rfl
theorem f343_90 : jfind c343_0 90 = some c343_90 := rfl
theorem f343_121 : jfind c343_0 121 = some c343_121 := rfl
theorem f343_122 : jfind c343_0 122 = some c343_122 := rfl
theorem f343_127 : jfind c343_0 127 = some c343_127 := rfl
theorem f343_133 : jfind c343_0 133 = some c343_133 := rfl
theorem f344_0 : jfind c344_0 0 = some c344_0 := rfl
theorem f344_4 : jfind c344_0 4 = some c344_4 := rfl
theorem f344_31 : jfind c344_0 31 = some c344_31 := rfl
theorem f345_0 : jfind c345_0 0 = some c345_0 := rfl
theorem f345_19 : jfind c345_0 19 = some c345_19 := rfl
theorem f345_21 : jfind c345_0 21 = some c345_21 := rfl
theorem f345_35 : jfind c345_0 35 = some c345_35 := rfl
theorem f345_38 : jfind c345_0 38 = some c345_38 := rfl
theorem f345_43 : jfind c345_0 43 = some c345_43 := rfl
theorem f345_59 : jfind c345_0 59 = some c345_59 := rfl
theorem f345_85 : jfind c345_0 85 = some c345_85 := rfl
theorem f345_106 : jfind c345_0 106 = some c345_106 := rfl
theorem f345_108 : jfind c345_0 108 = some c345_108 := rfl
theorem f345_109 : jfind c345_0 109 = some c345_109 := rfl
theorem f345_112 : jfind c345_0 112 = some c345_112 := rfl
theorem f345_118 : jfind c345_0 118 = some c345_118 := rfl
theorem f345_124 : jfind c345_0 124 = some c345_124 := rfl
theorem f345_132 : jfind c345_0 132 = some c345_132 := rfl
theorem f345_134 : jfind c345_0 134 = some c345_134 := rfl
theorem f346_0 : jfind c346_0 0 = some c346_0 := rfl
theorem f347_0 : jfind c347_0 0 = some c347_0 := rfl
theorem f347_20 : jfind c347_0 20 = some c347_20 := rfl
theorem f347_22 : jfind c347_0 22 = some c347_22 := rfl
theorem f347_33 : jfind c347_0 33 = some c347_33 := rfl
theorem f348_0 : jfind c348_0 0 = some c348_0 := rfl
theorem f348_8 : jfind c348_0 8 = some c348_8 := rfl
theorem f348_57 : jfind c348_0 57 = some c348_57 := rfl
theorem f348_64 : jfind c348_0 64 = some c348_64 := rfl
theorem f348_70 : jfind c348_0 70 = some c348_70 := rfl
theorem f349_0 : jfind c349_0 0 = some c349_0 := rfl
theorem f349_20 : jfind c349_0 20 = some c349_20 := rfl
theorem f349_22 : jfind c349_0 22 = some c349_22 := rfl
theorem f349_39 : jfind c349_0 39 = some c349_39 := rfl
theorem f349_50 : jfind c349_0 50 = some c349_50 := rfl
theorem f349_58 : jfind c349_0 58 = some c349_58 := rfl
theorem f349_97 : jfind c349_0 97 = some c349_97 := rfl
theorem f349_104 : jfind c349_0 104 = some c349_104 := rfl
theorem f349_110 : jfind c349_0 110 = some c349_110 := rfl
theorem f349_123 : jfind c349_0 123 = some c349_123 := rfl
theorem f349_129 : jfind c349_0 129 = some c349_129 := rfl
theorem f349_130 : jfind c349_0 130 = some c349_130 := rfl
theorem f350_0 : jfind c350_0 0 = some c350_0 := rfl
theorem f350_35 : jfind c350_0 35 = some c350_35 := rfl
theorem f350_36 : jfind c350_0 36 = some c350_36 := rfl
theorem f351_0 : jfind c351_0 0 = some c351_0 := rfl
theorem f351_20 : jfind c351_0 20 = some c351_20 := rfl
theorem f351_22 : jfind c351_0 22 = some c351_22 := rfl
set_option maxRecDepth 100000 in
theorem f352_0 : jfind c352_0 0 = some c352_0 := rfl
set_option maxRecDepth 100000 in
theorem f352_17 : jfind c352_0 17 = some c352_17 := rfl
set_option maxRecDepth 100000 in
theorem f352_19 : jfind c352_0 19 = some c352_19 := rfl
set_option maxRecDepth 100000 in
theorem f352_43 : jfind c352_0 43 = some c352_43 := rfl
set_option maxRecDepth 100000 in
theorem f352_55 : jfind c352_0 55 = some c352_55 := rfl
set_option maxRecDepth 100000 in
theorem f352_58 : jfind c352_0 58 = some c352_58 := rfl
set_option maxRecDepth 100000 in
theorem f352_98 : jfind c352_0 98 = some c352_98 := rfl
set_option maxRecDepth 100000 in
theorem f352_101 : jfind c352_0 101 = some c352_101 := rfl
set_option maxRecDepth 100000 in
theorem f352_148 : jfind c352_0 148 = some c352_148 := rfl
set_option maxRecDepth 100000 in
theorem f352_203 : jfind c352_0 203 = some c352_203 := rfl
set_option maxRecDepth 100000 in
theorem f353_0 : jfind c353_0 0 = some c353_0 := rfl
set_option maxRecDepth 100000 in
theorem f353_56 : jfind c353_0 56 = some c353_56 := rfl
set_option maxRecDepth 100000 in
theorem f353_60 : jfind c353_0 60 = some c353_60 := rfl
set_option maxRecDepth 100000 in
theorem f353_77 : jfind c353_0 77 = some c353_77 := rfl
set_option maxRecDepth 100000 in
theorem f353_128 : jfind c353_0 128 = some c353_128 := rfl
set_option maxRecDepth 100000 in
theorem f353_130 : jfind c353_0 130 = some c353_130 := rfl
set_option maxRecDepth 100000 in
theorem f353_172 : jfind c353_0 172 = some c353_172 := rfl
set_option maxRecDepth 100000 in
theorem f353_180 : jfind c353_0 180 = some c353_180 := rfl
set_option maxRecDepth 100000 in
theorem f353_203 : jfind c353_0 203 = some c353_203 := rfl
set_option maxRecDepth 100000 in
theorem f353_218 : jfind c353_0 218 = some c353_218 := rfl
set_option maxRecDepth 100000 in
theorem f353_220 : jfind c353_0 220 = some c353_220 := rfl
set_option maxRecDepth 100000 in
theorem f354_0 : jfind c354_0 0 = some c354_0 := rfl
set_option maxRecDepth 100000 in
theorem f354_19 : jfind c354_0 19 = some c354_19 := rfl
set_option maxRecDepth 100000 in
theorem f354_23 : jfind c354_0 23 = some c354_23 := rfl
set_option maxRecDepth 100000 in
theorem f354_32 : jfind c354_0 32 = some c354_32 := rfl
set_option maxRecDepth 100000 in
theorem f354_41 : jfind c354_0 41 = some c354_41 := rfl
set_option maxRecDepth 100000 in
theorem f354_64 : jfind c354_0 64 = some c354_64 := rfl
set_option maxRecDepth 100000 in
theorem f354_76 : jfind c354_0 76 = some c354_76 := rfl
set_option maxRecDepth 100000 in
theorem f354_109 : jfind c354_0 109 = some c354_109 := rfl
set_option maxRecDepth 100000 in
theorem f354_161 : jfind c354_0 161 = some c354_161 := rfl
set_option maxRecDepth 100000 in
theorem f354_176 : jfind c354_0 176 = some c354_176 := rfl
set_option maxRecDepth 100000 in
theorem f354_182 : jfind c354_0 182 = some c354_182 := rfl
set_option maxRecDepth 100000 in
theorem f354_213 : jfind c354_0 213 = some c354_213 := rfl
set_option maxRecDepth 100000 in
theorem f354_225 : jfind c354_0 225 = some c354_225 := rfl
set_option maxRecDepth 100000 in
theorem f354_266 : jfind c354_0 266 = some c354_266 := rfl
set_option maxRecDepth 100000 in
theorem f354_284 : jfind c354_0 284 = some c354_284 := rfl
theorem f355_0 : jfind c355_0 0 = some c355_0 := rfl
theorem f355_19 : jfind c355_0 19 = some c355_19 := rfl
theorem f355_29 : jfind c355_0 29 = some c355_29 := rfl
theorem f355_33 : jfind c355_0 33 = some c355_33 := rfl
theorem f355_34 : jfind c355_0 34 = some c355_34 := rfl
theorem f356_0 : jfind c356_0 0 = some c356_0 := rfl
theorem f356_19 : jfind c356_0 19 = some c356_19 := rfl
theorem f357_0 : jfind c357_0 0 = some c357_0 := rfl
theorem f358_0 : jfind c358_0 0 = some c358_0 := rfl
theorem f359_0 : jfind c359_0 0 = some c359_0 := rfl
theorem f359_24 : jfind c359_0 24 = some c359_24 := rfl
theorem f359_43 : jfind c359_0 43 = some c359_43 := rfl
theorem f359_49 : jfind c359_0 49 = some c359_49 := rfl
theorem f360_0 : jfind c360_0 0 = some c360_0 := rfl
theorem f361_0 : jfind c361_0 0 = some c361_0 := rfl
theorem f362_0 : jfind c362_0 0 = some c362_0 := rfl
theorem f362_32 : jfind c362_0 32 = some c362_32 := rfl
theorem f362_51 : jfind c362_0 51 = some c362_51 := rfl
theorem f362_57 : jfind c362_0 57 = some c362_57 := rfl
theorem f363_0 : jfind c363_0 0 = some c363_0 := rfl
theorem f364_0 : jfind c364_0 0 = some c364_0 := rfl
theorem f364_25 : jfind c364_0 25 = some c364_25 := rfl
theorem f364_57 : jfind c364_0 57 = some c364_57 := rfl
theorem f365_0 : jfind c365_0 0 = some c365_0 := rfl
theorem f366_0 : jfind c366_0 0 = some c366_0 := rfl
theorem f366_25 : jfind c366_0 25 = some c366_25 := rfl
theorem f367_0 : jfind c367_0 0 = some c367_0 := rfl
theorem f367_22 : jfind c367_0 22 = some c367_22 := rfl
theorem f367_24 : jfind c367_0 24 = some c367_24 := rfl
theorem f367_37 : jfind c367_0 37 = some c367_37 := rfl
theorem f367_51 : jfind c367_0 51 = some c367_51 := rfl
theorem f367_65 : jfind c367_0 65 = some c367_65 := rfl
theorem f367_71 : jfind c367_0 71 = some c367_71 := rfl
theorem f368_0 : jfind c368_0 0 = some c368_0 := rfl
theorem f368_27 : jfind c368_0 27 = some c368_27 := rfl
theorem f368_28 : jfind c368_0 28 = some c368_28 := rfl
theorem f369_0 : jfind c369_0 0 = some c369_0 := rfl
theorem f369_40 : jfind c369_0 40 = some c369_40 := rfl
theorem f369_45 : jfind c369_0 45 = some c369_45 := rfl
theorem f369_50 : jfind c369_0 50 = some c369_50 := rfl
theorem f369_55 : jfind c369_0 55 = some c369_55 := rfl
theorem f369_60 : jfind c369_0 60 = some c369_60 := rfl
theorem f369_65 : jfind c369_0 65 = some c369_65 := rfl
theorem f369_70 : jfind c369_0 70 = some c369_70 := rfl
theorem f370_0 : jfind c370_0 0 = some c370_0 := rfl
theorem f371_0 : jfind c371_0 0 = some c371_0 := rfl
theorem f371_20 : jfind c371_0 20 = some c371_20 := rfl
theorem f371_22 : jfind c371_0 22 = some c371_22 := rfl
theorem f372_0 : jfind c372_0 0 = some c372_0 := rfl
theorem f372_22 : jfind c372_0 22 = some c372_22 := rfl
theorem f372_24 : jfind c372_0 24 = some c372_24 := rfl
theorem f372_31 : jfind c372_0 31 = some c372_31 := rfl
theorem f372_54 : jfind c372_0 54 = some c372_54 := rfl
theorem f372_80 : jfind c372_0 80 = some c372_80 := rfl
theorem f373_0 : jfind c373_0 0 = some c373_0 := rfl
theorem f373_9 : jfind c373_0 9 = some c373_9 := rfl
theorem f373_22 : jfind c373_0 22 = some c373_22 := rfl
theorem f373_34 : jfind c373_0 34 = some c373_34 := rfl
theorem f373_54 : jfind c373_0 54 = some c373_54 := rfl
theorem f373_56 : jfind c373_0 56 = some c373_56 := rfl
theorem f374_0 : jfind c374_0 0 = some c374_0 := rfl
theorem f374_16 : jfind c374_0 16 = some c374_16 := rfl
theorem f374_49 : jfind c374_0 49 = some c374_49 := rfl
theorem f374_62 : jfind c374_0 62 = some c374_62 := rfl
theorem f374_74 : jfind c374_0 74 = some c374_74 := rfl
theorem f374_84 : jfind c374_0 84 = some c374_84 := rfl
theorem f374_94 : jfind c374_0 94 = some c374_94 := rfl
theorem f374_95 : jfind c374_0 95 = some c374_95 := rfl
theorem f375_0 : jfind c375_0 0 = some c375_0 := rfl
theorem f375_15 : jfind c375_0 15 = some c375_15 := rfl
theorem f375_26 : jfind c375_0 26 = some c375_26 := rfl
set_option maxRecDepth 100000 in
theorem f376_0 : jfind c376_0 0 = some c376_0 := rfl
set_option maxRecDepth 100000 in
theorem f376_14 : jfind c376_0 14 = some c376_14 := rfl
set_option maxRecDepth 100000 in
theorem f376_16 : jfind c376_0 16 = some c376_16 := rfl
set_option maxRecDepth 100000 in
theorem f376_36 : jfind c376_0 36 = some c376_36 := rfl
set_option maxRecDepth 100000 in
theorem f376_39 : jfind c376_0 39 = some c376_39 := rfl
set_option maxRecDepth 100000 in
theorem f376_63 : jfind c376_0 63 = some c376_63 := rfl
set_option maxRecDepth 100000 in
theorem f376_66 : jfind c376_0 66 = some c376_66 := rfl
set_option maxRecDepth 100000 in
theorem f376_107 : jfind c376_0 107 = some c376_107 := rfl
set_option maxRecDepth 100000 in
theorem f376_110 : jfind c376_0 110 = some c376_110 := rfl
set_option maxRecDepth 100000 in
theorem f376_113 : jfind c376_0 113 = some c376_113 := rfl
set_option maxRecDepth 100000 in
theorem f376_147 : jfind c376_0 147 = some c376_147 := rfl
set_option maxRecDepth 100000 in
theorem f376_150 : jfind c376_0 150 = some c376_150 := rfl
set_option maxRecDepth 100000 in
theorem f376_185 : jfind c376_0 185 = some c376_185 := rfl
theorem f377_0 : jfind c377_0 0 = some c377_0 := rfl
theorem f377_16 : jfind c377_0 16 = some c377_16 := rfl
theorem f377_18 : jfind c377_0 18 = some c377_18 := rfl
theorem f377_31 : jfind c377_0 31 = some c377_31 := rfl
theorem f377_72 : jfind c377_0 72 = some c377_72 := rfl
theorem f377_74 : jfind c377_0 74 = some c377_74 := rfl
theorem f378_0 : jfind c378_0 0 = some c378_0 := rfl
theorem f378_27 : jfind c378_0 27 = some c378_27 := rfl
theorem f379_0 : jfind c379_0 0 = some c379_0 := rfl
theorem f379_9 : jfind c379_0 9 = some c379_9 := rfl
theorem f379_10 : jfind c379_0 10 = some c379_10 := rfl
theorem f380_0 : jfind c380_0 0 = some c380_0 := rfl
theorem f380_10 : jfind c380_0 10 = some c380_10 := rfl
theorem f380_11 : jfind c380_0 11 = some c380_11 := rfl
theorem f381_0 : jfind c381_0 0 = some c381_0 := rfl
theorem f381_9 : jfind c381_0 9 = some c381_9 := rfl
theorem f381_10 : jfind c381_0 10 = some c381_10 := rfl
theorem f382_0 : jfind c382_0 0 = some c382_0 := rfl
theorem f382_10 : jfind c382_0 10 = some c382_10 := rfl
theorem f382_11 : jfind c382_0 11 = some c382_11 := rfl
theorem f383_0 : jfind c383_0 0 = some c383_0 := rfl
theorem f383_5 : jfind c383_0 5 = some c383_5 := rfl
theorem f383_20 : jfind c383_0 20 = some c383_20 := rfl
