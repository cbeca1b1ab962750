theorem ft0_0 : jsk (jfty 0 0) = 2 := by decide +kernel
theorem nz0_0 : ¬ jfty 0 0 = 3 := by decide +kernel
theorem ft0_1 : jsk (jfty 0 1) = 0 := by decide +kernel
theorem nz0_1 : ¬ jfty 0 1 = 3 := by decide +kernel
theorem ft4_0 : jsk (jfty 4 0) = 0 := by decide +kernel
theorem nz4_0 : ¬ jfty 4 0 = 3 := by decide +kernel
theorem ft4_1 : jsk (jfty 4 1) = 0 := by decide +kernel
theorem nz4_1 : ¬ jfty 4 1 = 3 := by decide +kernel
theorem ft7_0 : jsk (jfty 7 0) = 2 := by decide +kernel
theorem nz7_0 : ¬ jfty 7 0 = 3 := by decide +kernel
theorem ft7_1 : jsk (jfty 7 1) = 2 := by decide +kernel
theorem nz7_1 : ¬ jfty 7 1 = 3 := by decide +kernel
theorem ft7_2 : jsk (jfty 7 2) = 2 := by decide +kernel
theorem nz7_2 : ¬ jfty 7 2 = 3 := by decide +kernel
theorem ft7_4 : jsk (jfty 7 4) = 0 := by decide +kernel
theorem nz7_4 : ¬ jfty 7 4 = 3 := by decide +kernel
theorem ft7_5 : jsk (jfty 7 5) = 0 := by decide +kernel
theorem nz7_5 : ¬ jfty 7 5 = 3 := by decide +kernel
theorem ft9_0 : jsk (jfty 9 0) = 0 := by decide +kernel
theorem nz9_0 : ¬ jfty 9 0 = 3 := by decide +kernel
theorem ft9_1 : jsk (jfty 9 1) = 0 := by decide +kernel
theorem nz9_1 : ¬ jfty 9 1 = 3 := by decide +kernel
theorem ft9_2 : jsk (jfty 9 2) = 2 := by decide +kernel
theorem nz9_2 : ¬ jfty 9 2 = 3 := by decide +kernel
theorem ft9_3 : jsk (jfty 9 3) = 0 := by decide +kernel
theorem nz9_3 : ¬ jfty 9 3 = 3 := by decide +kernel
theorem ft9_4 : jsk (jfty 9 4) = 2 := by decide +kernel
theorem nz9_4 : ¬ jfty 9 4 = 3 := by decide +kernel
theorem ft9_5 : jsk (jfty 9 5) = 2 := by decide +kernel
theorem nz9_5 : ¬ jfty 9 5 = 3 := by decide +kernel
theorem ft9_6 : jsk (jfty 9 6) = 2 := by decide +kernel
theorem nz9_6 : ¬ jfty 9 6 = 3 := by decide +kernel
theorem ft9_7 : jsk (jfty 9 7) = 0 := by decide +kernel
theorem nz9_7 : ¬ jfty 9 7 = 3 := by decide +kernel
theorem ft9_8 : jsk (jfty 9 8) = 2 := by decide +kernel
theorem nz9_8 : ¬ jfty 9 8 = 3 := by decide +kernel
theorem ft9_9 : jsk (jfty 9 9) = 0 := by decide +kernel
theorem nz9_9 : ¬ jfty 9 9 = 3 := by decide +kernel
theorem ft9_10 : jsk (jfty 9 10) = 2 := by decide +kernel
theorem nz9_10 : ¬ jfty 9 10 = 3 := by decide +kernel
theorem ft9_11 : jsk (jfty 9 11) = 2 := by decide +kernel
theorem nz9_11 : ¬ jfty 9 11 = 3 := by decide +kernel
theorem ft9_12 : jsk (jfty 9 12) = 2 := by decide +kernel
theorem nz9_12 : ¬ jfty 9 12 = 3 := by decide +kernel
theorem ft9_13 : jsk (jfty 9 13) = 2 := by decide +kernel
theorem nz9_13 : ¬ jfty 9 13 = 3 := by decide +kernel
theorem ft9_14 : jsk (jfty 9 14) = 2 := by decide +kernel
theorem nz9_14 : ¬ jfty 9 14 = 3 := by decide +kernel
theorem ft10_0 : jsk (jfty 10 0) = 0 := by decide +kernel
theorem nz10_0 : ¬ jfty 10 0 = 3 := by decide +kernel
theorem ft10_2 : jsk (jfty 10 2) = 0 := by decide +kernel
theorem ft10_3 : jsk (jfty 10 3) = 2 := by decide +kernel
theorem nz10_3 : ¬ jfty 10 3 = 3 := by decide +kernel
theorem ft10_4 : jsk (jfty 10 4) = 2 := by decide +kernel
theorem nz10_4 : ¬ jfty 10 4 = 3 := by decide +kernel
theorem ft10_5 : jsk (jfty 10 5) = 2 := by decide +kernel
theorem nz10_5 : ¬ jfty 10 5 = 3 := by decide +kernel
theorem ft10_6 : jsk (jfty 10 6) = 2 := by decide +kernel
theorem nz10_6 : ¬ jfty 10 6 = 3 := by decide +kernel
theorem ft10_7 : jsk (jfty 10 7) = 2 := by decide +kernel
theorem nz10_7 : ¬ jfty 10 7 = 3 := by decide +kernel
theorem ml5 : jML 5 = 2 := by decide +kernel
theorem pp5 : jP 5 = c5_0 := rfl
theorem ml7 : jML 7 = 2 := by decide +kernel
theorem pp7 : jP 7 = c7_0 := rfl
theorem ml91 : jML 91 = 2 := by decide +kernel
theorem pp91 : jP 91 = c91_0 := rfl
theorem ml92 : jML 92 = 7 := by decide +kernel
theorem pp92 : jP 92 = c92_0 := rfl
theorem ml94 : jML 94 = 2 := by decide +kernel
theorem pp94 : jP 94 = c94_0 := rfl
theorem ml106 : jML 106 = 4 := by decide +kernel
theorem pp106 : jP 106 = c106_0 := rfl
theorem ml108 : jML 108 = 5 := by decide +kernel
theorem pp108 : jP 108 = c108_0 := rfl
theorem ml109 : jML 109 = 5 := by decide +kernel
theorem pp109 : jP 109 = c109_0 := rfl
theorem ml110 : jML 110 = 3 := by decide +kernel
theorem pp110 : jP 110 = c110_0 := rfl
theorem ml111 : jML 111 = 1 := by decide +kernel
theorem pp111 : jP 111 = c111_0 := rfl
theorem ml112 : jML 112 = 1 := by decide +kernel
theorem pp112 : jP 112 = c112_0 := rfl
theorem ml113 : jML 113 = 2 := by decide +kernel
theorem pp113 : jP 113 = c113_0 := rfl
theorem ml114 : jML 114 = 1 := by decide +kernel
theorem pp114 : jP 114 = c114_0 := rfl
theorem ml115 : jML 115 = 1 := by decide +kernel
theorem pp115 : jP 115 = c115_0 := rfl
theorem ml116 : jML 116 = 7 := by decide +kernel
theorem pp116 : jP 116 = c116_0 := rfl
theorem ml117 : jML 117 = 6 := by decide +kernel
theorem pp117 : jP 117 = c117_0 := rfl
theorem ml118 : jML 118 = 8 := by decide +kernel
theorem pp118 : jP 118 = c118_0 := rfl
theorem ml119 : jML 119 = 4 := by decide +kernel
theorem pp119 : jP 119 = c119_0 := rfl
theorem ml120 : jML 120 = 3 := by decide +kernel
theorem pp120 : jP 120 = c120_0 := rfl
theorem ml122 : jML 122 = 6 := by decide +kernel
theorem pp122 : jP 122 = c122_0 := rfl
theorem ml123 : jML 123 = 3 := by decide +kernel
theorem pp123 : jP 123 = c123_0 := rfl
theorem ml124 : jML 124 = 3 := by decide +kernel
theorem pp124 : jP 124 = c124_0 := rfl
theorem ml125 : jML 125 = 8 := by decide +kernel
theorem pp125 : jP 125 = c125_0 := rfl
theorem ml126 : jML 126 = 3 := by decide +kernel
theorem pp126 : jP 126 = c126_0 := rfl
theorem ml127 : jML 127 = 4 := by decide +kernel
theorem pp127 : jP 127 = c127_0 := rfl
theorem ml128 : jML 128 = 6 := by decide +kernel
theorem pp128 : jP 128 = c128_0 := rfl
theorem ml131 : jML 131 = 7 := by decide +kernel
theorem pp131 : jP 131 = c131_0 := rfl
theorem ml132 : jML 132 = 3 := by decide +kernel
theorem pp132 : jP 132 = c132_0 := rfl
theorem ml133 : jML 133 = 4 := by decide +kernel
theorem pp133 : jP 133 = c133_0 := rfl
theorem ml136 : jML 136 = 11 := by decide +kernel
theorem pp136 : jP 136 = c136_0 := rfl
theorem ml137 : jML 137 = 6 := by decide +kernel
theorem pp137 : jP 137 = c137_0 := rfl
theorem ml139 : jML 139 = 2 := by decide +kernel
theorem pp139 : jP 139 = c139_0 := rfl
theorem ml140 : jML 140 = 2 := by decide +kernel
theorem pp140 : jP 140 = c140_0 := rfl
theorem ml143 : jML 143 = 3 := by decide +kernel
theorem pp143 : jP 143 = c143_0 := rfl
theorem ml144 : jML 144 = 3 := by decide +kernel
theorem pp144 : jP 144 = c144_0 := rfl
theorem ml145 : jML 145 = 2 := by decide +kernel
theorem pp145 : jP 145 = c145_0 := rfl
theorem ml147 : jML 147 = 3 := by decide +kernel
theorem pp147 : jP 147 = c147_0 := rfl
theorem ml150 : jML 150 = 5 := by decide +kernel
theorem pp150 : jP 150 = c150_0 := rfl
theorem ml151 : jML 151 = 9 := by decide +kernel
theorem pp151 : jP 151 = c151_0 := rfl
theorem ml152 : jML 152 = 6 := by decide +kernel
theorem pp152 : jP 152 = c152_0 := rfl
theorem ml155 : jML 155 = 8 := by decide +kernel
theorem pp155 : jP 155 = c155_0 := rfl
theorem ml157 : jML 157 = 1 := by decide +kernel
theorem pp157 : jP 157 = c157_0 := rfl
theorem ml158 : jML 158 = 3 := by decide +kernel
theorem pp158 : jP 158 = c158_0 := rfl
theorem ml159 : jML 159 = 3 := by decide +kernel
theorem pp159 : jP 159 = c159_0 := rfl
theorem ml223 : jML 223 = 9 := by decide +kernel
theorem pp223 : jP 223 = c223_0 := rfl
theorem ml224 : jML 224 = 11 := by decide +kernel
theorem pp224 : jP 224 = c224_0 := rfl
theorem ml378 : jML 378 = 6 := by decide +kernel
theorem pp378 : jP 378 = c378_0 := rfl
theorem ml379 : jML 379 = 2 := by decide +kernel
theorem pp379 : jP 379 = c379_0 := rfl
theorem ml380 : jML 380 = 4 := by decide +kernel
theorem pp380 : jP 380 = c380_0 := rfl
theorem ml381 : jML 381 = 2 := by decide +kernel
theorem pp381 : jP 381 = c381_0 := rfl
theorem ml382 : jML 382 = 4 := by decide +kernel
theorem pp382 : jP 382 = c382_0 := rfl
theorem f5_0 : jfind c5_0 0 = some c5_0 := rfl
theorem f7_0 : jfind c7_0 0 = some c7_0 := rfl
theorem f91_0 : jfind c91_0 0 = some c91_0 := rfl
theorem f91_13 : jfind c91_0 13 = some c91_13 := rfl
theorem f91_22 : jfind c91_0 22 = some c91_22 := rfl
theorem f92_0 : jfind c92_0 0 = some c92_0 := rfl
theorem f92_12 : jfind c92_0 12 = some c92_12 := rfl
theorem f92_69 : jfind c92_0 69 = some c92_69 := rfl
theorem f92_84 : jfind c92_0 84 = some c92_84 := rfl
theorem f94_0 : jfind c94_0 0 = some c94_0 := rfl
theorem f94_19 : jfind c94_0 19 = some c94_19 := rfl
theorem f106_0 : jfind c106_0 0 = some c106_0 := rfl
theorem f108_0 : jfind c108_0 0 = some c108_0 := rfl
theorem f108_5 : jfind c108_0 5 = some c108_5 := rfl
theorem f108_37 : jfind c108_0 37 = some c108_37 := rfl
theorem f108_38 : jfind c108_0 38 = some c108_38 := rfl
theorem f108_46 : jfind c108_0 46 = some c108_46 := rfl
theorem f108_49 : jfind c108_0 49 = some c108_49 := rfl
theorem f108_81 : jfind c108_0 81 = some c108_81 := rfl
theorem f108_82 : jfind c108_0 82 = some c108_82 := rfl
theorem f108_90 : jfind c108_0 90 = some c108_90 := rfl
theorem f109_0 : jfind c109_0 0 = some c109_0 := rfl
theorem f109_4 : jfind c109_0 4 = some c109_4 := rfl
theorem f109_15 : jfind c109_0 15 = some c109_15 := rfl
theorem f109_47 : jfind c109_0 47 = some c109_47 := rfl
theorem f109_50 : jfind c109_0 50 = some c109_50 := rfl
theorem f109_56 : jfind c109_0 56 = some c109_56 := rfl
theorem f109_62 : jfind c109_0 62 = some c109_62 := rfl
theorem f109_71 : jfind c109_0 71 = some c109_71 := rfl
theorem f109_72 : jfind c109_0 72 = some c109_72 := rfl
theorem f110_0 : jfind c110_0 0 = some c110_0 := rfl
theorem f110_20 : jfind c110_0 20 = some c110_20 := rfl
theorem f110_21 : jfind c110_0 21 = some c110_21 := rfl
theorem f110_24 : jfind c110_0 24 = some c110_24 := rfl
theorem f110_63 : jfind c110_0 63 = some c110_63 := rfl
theorem f110_64 : jfind c110_0 64 = some c110_64 := rfl
theorem f110_71 : jfind c110_0 71 = some c110_71 := rfl
theorem f111_0 : jfind c111_0 0 = some c111_0 := rfl
theorem f112_0 : jfind c112_0 0 = some c112_0 := rfl
theorem f113_0 : jfind c113_0 0 = some c113_0 := rfl
theorem f113_53 : jfind c113_0 53 = some c113_53 := rfl
theorem f113_57 : jfind c113_0 57 = some c113_57 := rfl
theorem f113_58 : jfind c113_0 58 = some c113_58 := rfl
theorem f114_0 : jfind c114_0 0 = some c114_0 := rfl
theorem f114_15 : jfind c114_0 15 = some c114_15 := rfl
theorem f114_47 : jfind c114_0 47 = some c114_47 := rfl
theorem f115_0 : jfind c115_0 0 = some c115_0 := rfl
theorem f115_11 : jfind c115_0 11 = some c115_11 := rfl
theorem f115_16 : jfind c115_0 16 = some c115_16 := rfl
theorem f116_0 : jfind c116_0 0 = some c116_0 := rfl
theorem f116_21 : jfind c116_0 21 = some c116_21 := rfl
theorem f116_54 : jfind c116_0 54 = some c116_54 := rfl
theorem f116_73 : jfind c116_0 73 = some c116_73 := rfl
theorem f116_79 : jfind c116_0 79 = some c116_79 := rfl
theorem f116_81 : jfind c116_0 81 = some c116_81 := rfl
theorem f116_87 : jfind c116_0 87 = some c116_87 := rfl
theorem f116_95 : jfind c116_0 95 = some c116_95 := rfl
theorem f116_96 : jfind c116_0 96 = some c116_96 := rfl
theorem f117_0 : jfind c117_0 0 = some c117_0 := rfl
theorem f117_3 : jfind c117_0 3 = some c117_3 := rfl
theorem f117_12 : jfind c117_0 12 = some c117_12 := rfl
theorem f117_61 : jfind c117_0 61 = some c117_61 := rfl
theorem f117_67 : jfind c117_0 67 = some c117_67 := rfl
theorem f117_73 : jfind c117_0 73 = some c117_73 := rfl
theorem f118_0 : jfind c118_0 0 = some c118_0 := rfl
theorem f118_3 : jfind c118_0 3 = some c118_3 := rfl
theorem f118_35 : jfind c118_0 35 = some c118_35 := rfl
theorem f118_43 : jfind c118_0 43 = some c118_43 := rfl
theorem f118_61 : jfind c118_0 61 = some c118_61 := rfl
theorem f118_69 : jfind c118_0 69 = some c118_69 := rfl
theorem f118_80 : jfind c118_0 80 = some c118_80 := rfl
theorem f118_86 : jfind c118_0 86 = some c118_86 := rfl
theorem f119_0 : jfind c119_0 0 = some c119_0 := rfl
theorem f119_11 : jfind c119_0 11 = some c119_11 := rfl
theorem f120_0 : jfind c120_0 0 = some c120_0 := rfl
theorem f120_2 : jfind c120_0 2 = some c120_2 := rfl
theorem f120_22 : jfind c120_0 22 = some c120_22 := rfl
theorem f120_28 : jfind c120_0 28 = some c120_28 := rfl
theorem f120_39 : jfind c120_0 39 = some c120_39 := rfl
theorem f122_0 : jfind c122_0 0 = some c122_0 := rfl
theorem f122_14 : jfind c122_0 14 = some c122_14 := rfl
theorem f122_17 : jfind c122_0 17 = some c122_17 := rfl
theorem f122_22 : jfind c122_0 22 = some c122_22 := rfl
theorem f122_78 : jfind c122_0 78 = some c122_78 := rfl
theorem f122_80 : jfind c122_0 80 = some c122_80 := rfl
theorem f122_81 : jfind c122_0 81 = some c122_81 := rfl
theorem f122_84 : jfind c122_0 84 = some c122_84 := rfl
theorem f122_90 : jfind c122_0 90 = some c122_90 := rfl
theorem f122_98 : jfind c122_0 98 = some c122_98 := rfl
theorem f122_100 : jfind c122_0 100 = some c122_100 := rfl
theorem f123_0 : jfind c123_0 0 = some c123_0 := rfl
theorem f124_0 : jfind c124_0 0 = some c124_0 := rfl
theorem f124_2 : jfind c124_0 2 = some c124_2 := rfl
theorem f124_25 : jfind c124_0 25 = some c124_25 := rfl
theorem f124_31 : jfind c124_0 31 = some c124_31 := rfl
theorem f125_0 : jfind c125_0 0 = some c125_0 := rfl
theorem f125_5 : jfind c125_0 5 = some c125_5 := rfl
theorem f125_23 : jfind c125_0 23 = some c125_23 := rfl
theorem f125_76 : jfind c125_0 76 = some c125_76 := rfl
theorem f125_82 : jfind c125_0 82 = some c125_82 := rfl
theorem f125_107 : jfind c125_0 107 = some c125_107 := rfl
theorem f125_111 : jfind c125_0 111 = some c125_111 := rfl
theorem f125_132 : jfind c125_0 132 = some c125_132 := rfl
theorem f125_133 : jfind c125_0 133 = some c125_133 := rfl
theorem f125_148 : jfind c125_0 148 = some c125_148 := rfl
theorem f125_149 : jfind c125_0 149 = some c125_149 := rfl
theorem f125_157 : jfind c125_0 157 = some c125_157 := rfl
theorem f126_0 : jfind c126_0 0 = some c126_0 := rfl
theorem f126_9 : jfind c126_0 9 = some c126_9 := rfl
theorem f126_34 : jfind c126_0 34 = some c126_34 := rfl
theorem f127_0 : jfind c127_0 0 = some c127_0 := rfl
theorem f127_18 : jfind c127_0 18 = some c127_18 := rfl
theorem f127_31 : jfind c127_0 31 = some c127_31 := rfl
theorem f128_0 : jfind c128_0 0 = some c128_0 := rfl
theorem f128_2 : jfind c128_0 2 = some c128_2 := rfl
theorem f128_27 : jfind c128_0 27 = some c128_27 := rfl
theorem f128_51 : jfind c128_0 51 = some c128_51 := rfl
theorem f128_57 : jfind c128_0 57 = some c128_57 := rfl
theorem f128_63 : jfind c128_0 63 = some c128_63 := rfl
theorem f131_0 : jfind c131_0 0 = some c131_0 := rfl
theorem f131_8 : jfind c131_0 8 = some c131_8 := rfl
theorem f131_54 : jfind c131_0 54 = some c131_54 := rfl
theorem f131_61 : jfind c131_0 61 = some c131_61 := rfl
theorem f131_67 : jfind c131_0 67 = some c131_67 := rfl
theorem f132_0 : jfind c132_0 0 = some c132_0 := rfl
theorem f133_0 : jfind c133_0 0 = some c133_0 := rfl
theorem f133_4 : jfind c133_0 4 = some c133_4 := rfl
theorem f133_27 : jfind c133_0 27 = some c133_27 := rfl
theorem f133_33 : jfind c133_0 33 = some c133_33 := rfl
theorem f136_0 : jfind c136_0 0 = some c136_0 := rfl
theorem f136_18 : jfind c136_0 18 = some c136_18 := rfl
theorem f136_105 : jfind c136_0 105 = some c136_105 := rfl
theorem f137_0 : jfind c137_0 0 = some c137_0 := rfl
theorem f137_10 : jfind c137_0 10 = some c137_10 := rfl
theorem f137_14 : jfind c137_0 14 = some c137_14 := rfl
theorem f139_0 : jfind c139_0 0 = some c139_0 := rfl
theorem f139_11 : jfind c139_0 11 = some c139_11 := rfl
theorem f140_0 : jfind c140_0 0 = some c140_0 := rfl
theorem f140_16 : jfind c140_0 16 = some c140_16 := rfl
theorem f140_17 : jfind c140_0 17 = some c140_17 := rfl
theorem f143_0 : jfind c143_0 0 = some c143_0 := rfl
theorem f143_33 : jfind c143_0 33 = some c143_33 := rfl
theorem f144_0 : jfind c144_0 0 = some c144_0 := rfl
theorem f144_7 : jfind c144_0 7 = some c144_7 := rfl
theorem f144_38 : jfind c144_0 38 = some c144_38 := rfl
theorem f145_0 : jfind c145_0 0 = some c145_0 := rfl
theorem f145_13 : jfind c145_0 13 = some c145_13 := rfl
theorem f145_24 : jfind c145_0 24 = some c145_24 := rfl
theorem f147_0 : jfind c147_0 0 = some c147_0 := rfl
theorem f150_0 : jfind c150_0 0 = some c150_0 := rfl
theorem f150_5 : jfind c150_0 5 = some c150_5 := rfl
theorem f150_37 : jfind c150_0 37 = some c150_37 := rfl
theorem f151_0 : jfind c151_0 0 = some c151_0 := rfl
theorem f151_5 : jfind c151_0 5 = some c151_5 := rfl
theorem f151_44 : jfind c151_0 44 = some c151_44 := rfl
theorem f151_51 : jfind c151_0 51 = some c151_51 := rfl
theorem f151_58 : jfind c151_0 58 = some c151_58 := rfl
theorem f152_0 : jfind c152_0 0 = some c152_0 := rfl
theorem f152_4 : jfind c152_0 4 = some c152_4 := rfl
theorem f152_37 : jfind c152_0 37 = some c152_37 := rfl
theorem f152_39 : jfind c152_0 39 = some c152_39 := rfl
theorem f152_50 : jfind c152_0 50 = some c152_50 := rfl
theorem f155_0 : jfind c155_0 0 = some c155_0 := rfl
theorem f155_2 : jfind c155_0 2 = some c155_2 := rfl
theorem f155_31 : jfind c155_0 31 = some c155_31 := rfl
theorem f155_45 : jfind c155_0 45 = some c155_45 := rfl
theorem f155_50 : jfind c155_0 50 = some c155_50 := rfl
theorem f155_82 : jfind c155_0 82 = some c155_82 := rfl
theorem f155_83 : jfind c155_0 83 = some c155_83 := rfl
theorem f155_135 : jfind c155_0 135 = some c155_135 := rfl
theorem f155_136 : jfind c155_0 136 = some c155_136 := rfl
theorem f155_143 : jfind c155_0 143 = some c155_143 := rfl
theorem f155_156 : jfind c155_0 156 = some c155_156 := rfl
theorem f157_0 : jfind c157_0 0 = some c157_0 := rfl
theorem f158_0 : jfind c158_0 0 = some c158_0 := rfl
theorem f158_12 : jfind c158_0 12 = some c158_12 := rfl
theorem f158_14 : jfind c158_0 14 = some c158_14 := rfl
theorem f158_16 : jfind c158_0 16 = some c158_16 := rfl
theorem f158_42 : jfind c158_0 42 = some c158_42 := rfl
theorem f158_48 : jfind c158_0 48 = some c158_48 := rfl
theorem f159_0 : jfind c159_0 0 = some c159_0 := rfl
theorem f159_12 : jfind c159_0 12 = some c159_12 := rfl
theorem f159_14 : jfind c159_0 14 = some c159_14 := rfl
theorem f159_16 : jfind c159_0 16 = some c159_16 := rfl
theorem f159_42 : jfind c159_0 42 = some c159_42 := rfl
theorem f159_48 : jfind c159_0 48 = some c159_48 := rfl
theorem f164_13 : jfind c164_0 13 = some c164_13 := rfl
theorem f223_0 : jfind c223_0 0 = some c223_0 := rfl
theorem f223_11 : jfind c223_0 11 = some c223_11 := rfl
theorem f223_12 : jfind c223_0 12 = some c223_12 := rfl
theorem f223_27 : jfind c223_0 27 = some c223_27 := rfl
theorem f223_28 : jfind c223_0 28 = some c223_28 := rfl
theorem f223_42 : jfind c223_0 42 = some c223_42 := rfl
theorem f223_47 : jfind c223_0 47 = some c223_47 := rfl
theorem f224_0 : jfind c224_0 0 = some c224_0 := rfl
theorem f224_9 : jfind c224_0 9 = some c224_9 := rfl
theorem f224_45 : jfind c224_0 45 = some c224_45 := rfl
theorem f378_0 : jfind c378_0 0 = some c378_0 := rfl
theorem f378_27 : jfind c378_0 27 = some c378_27 := rfl
theorem f379_0 : jfind c379_0 0 = some c379_0 := rfl
theorem f379_9 : jfind c379_0 9 = some c379_9 := rfl
theorem f379_10 : jfind c379_0 10 = some c379_10 := rfl
theorem f380_0 : jfind c380_0 0 = some c380_0 := rfl
theorem f380_10 : jfind c380_0 10 = some c380_10 := rfl
theorem f380_11 : jfind c380_0 11 = some c380_11 := rfl
theorem f381_0 : jfind c381_0 0 = some c381_0 := rfl
theorem f381_9 : jfind c381_0 9 = some c381_9 := rfl
theorem f381_10 : jfind c381_0 10 = some c381_10 := rfl
theorem f382_0 : jfind c382_0 0 = some c382_0 := rfl
theorem f382_10 : jfind c382_0 10 = some c382_10 := rfl
theorem f382_11 : jfind c382_0 11 = some c382_11 := rfl
