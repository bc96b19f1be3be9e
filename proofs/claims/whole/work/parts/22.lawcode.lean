def cd_252_0 : List tm_E := [(0, .new 7, 3, 10, 14, 0), (3, .dup, 1, 0, 0, 0), (4, .invokespecial 9, 3, 12, 0, 40), (7, .astore_n 1, 1, 0, 0, 0), (8, .new 10, 3, 11, 86, 0), (11, .dup, 1, 0, 0, 0), (12, .invokespecial 12, 3, 13, 0, 44), (15, .astore_n 2, 1, 0, 0, 0), (16, .iconst 0, 1, 0, 0, 0), (17, .istore_n 3, 1, 0, 0, 0), (18, .iload_n 3, 1, 0, 0, 0), (19, .aload_n 0, 1, 0, 0, 0), (20, .arraylength, 1, 0, 0, 0), (21, .bipush 7, 2, 0, 0, 0), (23, .isub, 1, 0, 0, 0), (24, .if_icmp .gt 1142, 3, 1166, 0, 0), (27, .aload_n 0, 1, 0, 0, 0), (28, .iload_n 3, 1, 0, 0, 0), (29, .iaload, 1, 0, 0, 0), (30, .bipush 31, 2, 0, 0, 0), (32, .iand, 1, 0, 0, 0), (33, .tableswitch 1127 0 27 #[127, 190, 213, 226, 239, 262, 321, 344, 377, 390, 413, 446, 479, 502, 545, 578, 621, 684, 697, 720, 743, 786, 809, 832, 875, 966, 1045, 1104], 127, 0, 0, 0), (160, .aload_n 1, 1, 0, 0, 0), (161, .aload_n 0, 1, 0, 0, 0), (162, .iload_n 3, 1, 0, 0, 0), (163, .iconst 1, 1, 0, 0, 0), (164, .iadd, 1, 0, 0, 0), (165, .iaload, 1, 0, 0, 0), (166, .aload_n 0, 1, 0, 0, 0), (167, .iload_n 3, 1, 0, 0, 0), (168, .iconst 2, 1, 0, 0, 0), (169, .iadd, 1, 0, 0, 0), (170, .iaload, 1, 0, 0, 0), (171, .aload_n 0, 1, 0, 0, 0), (172, .iload_n 3, 1, 0, 0, 0), (173, .iconst 3, 1, 0, 0, 0), (174, .iadd, 1, 0, 0, 0), (175, .iaload, 1, 0, 0, 0), (176, .aload_n 0, 1, 0, 0, 0), (177, .iload_n 3, 1, 0, 0, 0), (178, .iconst 4, 1, 0, 0, 0), (179, .iadd, 1, 0, 0, 0), (180, .iaload, 1, 0, 0, 0), (181, .aload_n 0, 1, 0, 0, 0), (182, .iload_n 3, 1, 0, 0, 0), (183, .iconst 5, 1, 0, 0, 0), (184, .iadd, 1, 0, 0, 0), (185, .iaload, 1, 0, 0, 0), (186, .invokevirtual 13, 3, 15, 5, 41), (189, .aload_n 2, 1, 0, 0, 0), (190, .aload_n 0, 1, 0, 0, 0), (191, .iload_n 3, 1, 0, 0, 0), (192, .iconst 1, 1, 0, 0, 0), (193, .iadd, 1, 0, 0, 0), (194, .iaload, 1, 0, 0, 0), (195, .aload_n 0, 1, 0, 0, 0), (196, .iload_n 3, 1, 0, 0, 0), (197, .iconst 2, 1, 0, 0, 0), (198, .iadd, 1, 0, 0, 0), (199, .iaload, 1, 0, 0, 0)]
def cd_252_1 : List tm_E := [(200, .aload_n 0, 1, 0, 0, 0), (201, .iload_n 3, 1, 0, 0, 0), (202, .iconst 3, 1, 0, 0, 0), (203, .iadd, 1, 0, 0, 0), (204, .iaload, 1, 0, 0, 0), (205, .aload_n 0, 1, 0, 0, 0), (206, .iload_n 3, 1, 0, 0, 0), (207, .iconst 4, 1, 0, 0, 0), (208, .iadd, 1, 0, 0, 0), (209, .iaload, 1, 0, 0, 0), (210, .aload_n 0, 1, 0, 0, 0), (211, .iload_n 3, 1, 0, 0, 0), (212, .iconst 5, 1, 0, 0, 0), (213, .iadd, 1, 0, 0, 0), (214, .iaload, 1, 0, 0, 0), (215, .invokevirtual 17, 3, 16, 5, 45), (218, .if_icmp .eq 942, 3, 1160, 0, 0), (221, .iconst 0, 1, 0, 0, 0), (222, .ireturn, 1, 0, 0, 0), (223, .aload_n 1, 1, 0, 0, 0), (224, .aload_n 0, 1, 0, 0, 0), (225, .iload_n 3, 1, 0, 0, 0), (226, .iconst 1, 1, 0, 0, 0), (227, .iadd, 1, 0, 0, 0), (228, .iaload, 1, 0, 0, 0), (229, .invokevirtual 18, 3, 17, 1, 41), (232, .aload_n 2, 1, 0, 0, 0), (233, .aload_n 0, 1, 0, 0, 0), (234, .iload_n 3, 1, 0, 0, 0), (235, .iconst 1, 1, 0, 0, 0), (236, .iadd, 1, 0, 0, 0), (237, .iaload, 1, 0, 0, 0), (238, .invokevirtual 22, 3, 18, 1, 45), (241, .if_icmp .eq 919, 3, 1160, 0, 0), (244, .iconst 0, 1, 0, 0, 0), (245, .ireturn, 1, 0, 0, 0), (246, .aload_n 1, 1, 0, 0, 0), (247, .invokevirtual 23, 3, 53, 0, 41), (250, .aload_n 2, 1, 0, 0, 0), (251, .invokevirtual 27, 3, 73, 0, 45), (254, .if_icmp .eq 906, 3, 1160, 0, 0), (257, .iconst 0, 1, 0, 0, 0), (258, .ireturn, 1, 0, 0, 0), (259, .aload_n 1, 1, 0, 0, 0), (260, .invokevirtual 28, 3, 79, 0, 41), (263, .aload_n 2, 1, 0, 0, 0), (264, .invokevirtual 31, 3, 81, 0, 45), (267, .if_icmp .eq 893, 3, 1160, 0, 0), (270, .iconst 0, 1, 0, 0, 0), (271, .ireturn, 1, 0, 0, 0), (272, .aload_n 1, 1, 0, 0, 0), (273, .aload_n 0, 1, 0, 0, 0), (274, .iload_n 3, 1, 0, 0, 0), (275, .iconst 1, 1, 0, 0, 0), (276, .iadd, 1, 0, 0, 0), (277, .iaload, 1, 0, 0, 0), (278, .invokevirtual 32, 3, 82, 1, 41), (281, .aload_n 2, 1, 0, 0, 0), (282, .aload_n 0, 1, 0, 0, 0), (283, .iload_n 3, 1, 0, 0, 0)]
def cd_252_2 : List tm_E := [(284, .iconst 1, 1, 0, 0, 0), (285, .iadd, 1, 0, 0, 0), (286, .iaload, 1, 0, 0, 0), (287, .invokevirtual 35, 3, 83, 1, 45), (290, .if_icmp .eq 870, 3, 1160, 0, 0), (293, .iconst 0, 1, 0, 0, 0), (294, .ireturn, 1, 0, 0, 0), (295, .aload_n 1, 1, 0, 0, 0), (296, .aload_n 0, 1, 0, 0, 0), (297, .iload_n 3, 1, 0, 0, 0), (298, .iconst 1, 1, 0, 0, 0), (299, .iadd, 1, 0, 0, 0), (300, .iaload, 1, 0, 0, 0), (301, .aload_n 0, 1, 0, 0, 0), (302, .iload_n 3, 1, 0, 0, 0), (303, .iconst 2, 1, 0, 0, 0), (304, .iadd, 1, 0, 0, 0), (305, .iaload, 1, 0, 0, 0), (306, .ifCond .eq 7, 3, 313, 0, 0), (309, .iconst 1, 1, 0, 0, 0), (310, .goto 4, 3, 314, 0, 0), (313, .iconst 0, 1, 0, 0, 0), (314, .aload_n 0, 1, 0, 0, 0), (315, .iload_n 3, 1, 0, 0, 0), (316, .iconst 3, 1, 0, 0, 0), (317, .iadd, 1, 0, 0, 0), (318, .iaload, 1, 0, 0, 0), (319, .invokevirtual 36, 3, 92, 3, 41), (322, .aload_n 2, 1, 0, 0, 0), (323, .aload_n 0, 1, 0, 0, 0), (324, .iload_n 3, 1, 0, 0, 0), (325, .iconst 1, 1, 0, 0, 0), (326, .iadd, 1, 0, 0, 0), (327, .iaload, 1, 0, 0, 0), (328, .aload_n 0, 1, 0, 0, 0), (329, .iload_n 3, 1, 0, 0, 0), (330, .iconst 2, 1, 0, 0, 0), (331, .iadd, 1, 0, 0, 0), (332, .iaload, 1, 0, 0, 0), (333, .ifCond .eq 7, 3, 340, 0, 0), (336, .iconst 1, 1, 0, 0, 0), (337, .goto 4, 3, 341, 0, 0), (340, .iconst 0, 1, 0, 0, 0), (341, .aload_n 0, 1, 0, 0, 0), (342, .iload_n 3, 1, 0, 0, 0), (343, .iconst 3, 1, 0, 0, 0), (344, .iadd, 1, 0, 0, 0), (345, .iaload, 1, 0, 0, 0), (346, .invokevirtual 40, 3, 101, 3, 45), (349, .if_icmp .eq 811, 3, 1160, 0, 0), (352, .iconst 0, 1, 0, 0, 0), (353, .ireturn, 1, 0, 0, 0), (354, .aload_n 1, 1, 0, 0, 0), (355, .aload_n 0, 1, 0, 0, 0), (356, .iload_n 3, 1, 0, 0, 0), (357, .iconst 1, 1, 0, 0, 0), (358, .iadd, 1, 0, 0, 0), (359, .iaload, 1, 0, 0, 0), (360, .invokevirtual 41, 3, 104, 1, 41), (363, .aload_n 2, 1, 0, 0, 0)]
def cd_252_3 : List tm_E := [(364, .aload_n 0, 1, 0, 0, 0), (365, .iload_n 3, 1, 0, 0, 0), (366, .iconst 1, 1, 0, 0, 0), (367, .iadd, 1, 0, 0, 0), (368, .iaload, 1, 0, 0, 0), (369, .invokevirtual 44, 3, 107, 1, 45), (372, .if_icmp .eq 788, 3, 1160, 0, 0), (375, .iconst 0, 1, 0, 0, 0), (376, .ireturn, 1, 0, 0, 0), (377, .aload_n 1, 1, 0, 0, 0), (378, .aload_n 0, 1, 0, 0, 0), (379, .iload_n 3, 1, 0, 0, 0), (380, .iconst 1, 1, 0, 0, 0), (381, .iadd, 1, 0, 0, 0), (382, .iaload, 1, 0, 0, 0), (383, .aload_n 0, 1, 0, 0, 0), (384, .iload_n 3, 1, 0, 0, 0), (385, .iconst 2, 1, 0, 0, 0), (386, .iadd, 1, 0, 0, 0), (387, .iaload, 1, 0, 0, 0), (388, .invokevirtual 45, 3, 108, 2, 41), (391, .aload_n 2, 1, 0, 0, 0), (392, .aload_n 0, 1, 0, 0, 0), (393, .iload_n 3, 1, 0, 0, 0), (394, .iconst 1, 1, 0, 0, 0), (395, .iadd, 1, 0, 0, 0), (396, .iaload, 1, 0, 0, 0), (397, .aload_n 0, 1, 0, 0, 0), (398, .iload_n 3, 1, 0, 0, 0), (399, .iconst 2, 1, 0, 0, 0), (400, .iadd, 1, 0, 0, 0), (401, .iaload, 1, 0, 0, 0), (402, .invokevirtual 49, 3, 109, 2, 45), (405, .if_icmp .eq 755, 3, 1160, 0, 0), (408, .iconst 0, 1, 0, 0, 0), (409, .ireturn, 1, 0, 0, 0), (410, .aload_n 1, 1, 0, 0, 0), (411, .invokevirtual 50, 3, 145, 0, 41), (414, .aload_n 2, 1, 0, 0, 0), (415, .invokevirtual 53, 3, 164, 0, 45), (418, .if_icmp .eq 742, 3, 1160, 0, 0), (421, .iconst 0, 1, 0, 0, 0), (422, .ireturn, 1, 0, 0, 0), (423, .aload_n 1, 1, 0, 0, 0), (424, .aload_n 0, 1, 0, 0, 0), (425, .iload_n 3, 1, 0, 0, 0), (426, .iconst 1, 1, 0, 0, 0), (427, .iadd, 1, 0, 0, 0), (428, .iaload, 1, 0, 0, 0), (429, .invokevirtual 54, 3, 165, 1, 41), (432, .aload_n 2, 1, 0, 0, 0), (433, .aload_n 0, 1, 0, 0, 0), (434, .iload_n 3, 1, 0, 0, 0), (435, .iconst 1, 1, 0, 0, 0), (436, .iadd, 1, 0, 0, 0), (437, .iaload, 1, 0, 0, 0), (438, .invokevirtual 57, 3, 166, 1, 45), (441, .if_icmp .eq 719, 3, 1160, 0, 0), (444, .iconst 0, 1, 0, 0, 0), (445, .ireturn, 1, 0, 0, 0)]
def cd_252_4 : List tm_E := [(446, .aload_n 1, 1, 0, 0, 0), (447, .aload_n 0, 1, 0, 0, 0), (448, .iload_n 3, 1, 0, 0, 0), (449, .iconst 1, 1, 0, 0, 0), (450, .iadd, 1, 0, 0, 0), (451, .iaload, 1, 0, 0, 0), (452, .aload_n 0, 1, 0, 0, 0), (453, .iload_n 3, 1, 0, 0, 0), (454, .iconst 2, 1, 0, 0, 0), (455, .iadd, 1, 0, 0, 0), (456, .iaload, 1, 0, 0, 0), (457, .invokevirtual 58, 3, 168, 2, 41), (460, .aload_n 2, 1, 0, 0, 0), (461, .aload_n 0, 1, 0, 0, 0), (462, .iload_n 3, 1, 0, 0, 0), (463, .iconst 1, 1, 0, 0, 0), (464, .iadd, 1, 0, 0, 0), (465, .iaload, 1, 0, 0, 0), (466, .aload_n 0, 1, 0, 0, 0), (467, .iload_n 3, 1, 0, 0, 0), (468, .iconst 2, 1, 0, 0, 0), (469, .iadd, 1, 0, 0, 0), (470, .iaload, 1, 0, 0, 0), (471, .invokevirtual 62, 3, 169, 2, 45), (474, .if_icmp .eq 686, 3, 1160, 0, 0), (477, .iconst 0, 1, 0, 0, 0), (478, .ireturn, 1, 0, 0, 0), (479, .aload_n 1, 1, 0, 0, 0), (480, .aload_n 0, 1, 0, 0, 0), (481, .iload_n 3, 1, 0, 0, 0), (482, .iconst 1, 1, 0, 0, 0), (483, .iadd, 1, 0, 0, 0), (484, .iaload, 1, 0, 0, 0), (485, .aload_n 0, 1, 0, 0, 0), (486, .iload_n 3, 1, 0, 0, 0), (487, .iconst 2, 1, 0, 0, 0), (488, .iadd, 1, 0, 0, 0), (489, .iaload, 1, 0, 0, 0), (490, .invokevirtual 63, 3, 171, 2, 41), (493, .aload_n 2, 1, 0, 0, 0), (494, .aload_n 0, 1, 0, 0, 0), (495, .iload_n 3, 1, 0, 0, 0), (496, .iconst 1, 1, 0, 0, 0), (497, .iadd, 1, 0, 0, 0), (498, .iaload, 1, 0, 0, 0), (499, .aload_n 0, 1, 0, 0, 0), (500, .iload_n 3, 1, 0, 0, 0), (501, .iconst 2, 1, 0, 0, 0), (502, .iadd, 1, 0, 0, 0), (503, .iaload, 1, 0, 0, 0), (504, .invokevirtual 66, 3, 172, 2, 45), (507, .if_icmp .eq 653, 3, 1160, 0, 0), (510, .iconst 0, 1, 0, 0, 0), (511, .ireturn, 1, 0, 0, 0), (512, .aload_n 1, 1, 0, 0, 0), (513, .aload_n 0, 1, 0, 0, 0), (514, .iload_n 3, 1, 0, 0, 0), (515, .iconst 1, 1, 0, 0, 0), (516, .iadd, 1, 0, 0, 0), (517, .iaload, 1, 0, 0, 0)]
def cd_252_5 : List tm_E := [(518, .invokevirtual 67, 3, 175, 1, 41), (521, .aload_n 2, 1, 0, 0, 0), (522, .aload_n 0, 1, 0, 0, 0), (523, .iload_n 3, 1, 0, 0, 0), (524, .iconst 1, 1, 0, 0, 0), (525, .iadd, 1, 0, 0, 0), (526, .iaload, 1, 0, 0, 0), (527, .invokevirtual 70, 3, 177, 1, 45), (530, .if_icmp .eq 630, 3, 1160, 0, 0), (533, .iconst 0, 1, 0, 0, 0), (534, .ireturn, 1, 0, 0, 0), (535, .aload_n 1, 1, 0, 0, 0), (536, .aload_n 0, 1, 0, 0, 0), (537, .iload_n 3, 1, 0, 0, 0), (538, .iconst 1, 1, 0, 0, 0), (539, .iadd, 1, 0, 0, 0), (540, .iaload, 1, 0, 0, 0), (541, .aload_n 0, 1, 0, 0, 0), (542, .iload_n 3, 1, 0, 0, 0), (543, .iconst 2, 1, 0, 0, 0), (544, .iadd, 1, 0, 0, 0), (545, .iaload, 1, 0, 0, 0), (546, .aload_n 0, 1, 0, 0, 0), (547, .iload_n 3, 1, 0, 0, 0), (548, .iconst 3, 1, 0, 0, 0), (549, .iadd, 1, 0, 0, 0), (550, .iaload, 1, 0, 0, 0), (551, .invokevirtual 71, 3, 179, 3, 41), (554, .aload_n 2, 1, 0, 0, 0), (555, .aload_n 0, 1, 0, 0, 0), (556, .iload_n 3, 1, 0, 0, 0), (557, .iconst 1, 1, 0, 0, 0), (558, .iadd, 1, 0, 0, 0), (559, .iaload, 1, 0, 0, 0), (560, .aload_n 0, 1, 0, 0, 0), (561, .iload_n 3, 1, 0, 0, 0), (562, .iconst 2, 1, 0, 0, 0), (563, .iadd, 1, 0, 0, 0), (564, .iaload, 1, 0, 0, 0), (565, .aload_n 0, 1, 0, 0, 0), (566, .iload_n 3, 1, 0, 0, 0), (567, .iconst 3, 1, 0, 0, 0), (568, .iadd, 1, 0, 0, 0), (569, .iaload, 1, 0, 0, 0), (570, .invokevirtual 75, 3, 181, 3, 45), (573, .if_icmp .eq 587, 3, 1160, 0, 0), (576, .iconst 0, 1, 0, 0, 0), (577, .ireturn, 1, 0, 0, 0), (578, .aload_n 1, 1, 0, 0, 0), (579, .aload_n 0, 1, 0, 0, 0), (580, .iload_n 3, 1, 0, 0, 0), (581, .iconst 1, 1, 0, 0, 0), (582, .iadd, 1, 0, 0, 0), (583, .iaload, 1, 0, 0, 0), (584, .aload_n 0, 1, 0, 0, 0), (585, .iload_n 3, 1, 0, 0, 0), (586, .iconst 2, 1, 0, 0, 0), (587, .iadd, 1, 0, 0, 0), (588, .iaload, 1, 0, 0, 0), (589, .invokevirtual 76, 3, 183, 2, 41)]
def cd_252_6 : List tm_E := [(592, .aload_n 2, 1, 0, 0, 0), (593, .aload_n 0, 1, 0, 0, 0), (594, .iload_n 3, 1, 0, 0, 0), (595, .iconst 1, 1, 0, 0, 0), (596, .iadd, 1, 0, 0, 0), (597, .iaload, 1, 0, 0, 0), (598, .aload_n 0, 1, 0, 0, 0), (599, .iload_n 3, 1, 0, 0, 0), (600, .iconst 2, 1, 0, 0, 0), (601, .iadd, 1, 0, 0, 0), (602, .iaload, 1, 0, 0, 0), (603, .invokevirtual 79, 3, 184, 2, 45), (606, .if_icmp .eq 554, 3, 1160, 0, 0), (609, .iconst 0, 1, 0, 0, 0), (610, .ireturn, 1, 0, 0, 0), (611, .aload_n 1, 1, 0, 0, 0), (612, .aload_n 0, 1, 0, 0, 0), (613, .iload_n 3, 1, 0, 0, 0), (614, .iconst 1, 1, 0, 0, 0), (615, .iadd, 1, 0, 0, 0), (616, .iaload, 1, 0, 0, 0), (617, .aload_n 0, 1, 0, 0, 0), (618, .iload_n 3, 1, 0, 0, 0), (619, .iconst 2, 1, 0, 0, 0), (620, .iadd, 1, 0, 0, 0), (621, .iaload, 1, 0, 0, 0), (622, .aload_n 0, 1, 0, 0, 0), (623, .iload_n 3, 1, 0, 0, 0), (624, .iconst 3, 1, 0, 0, 0), (625, .iadd, 1, 0, 0, 0), (626, .iaload, 1, 0, 0, 0), (627, .invokevirtual 80, 3, 197, 3, 41), (630, .aload_n 2, 1, 0, 0, 0), (631, .aload_n 0, 1, 0, 0, 0), (632, .iload_n 3, 1, 0, 0, 0), (633, .iconst 1, 1, 0, 0, 0), (634, .iadd, 1, 0, 0, 0), (635, .iaload, 1, 0, 0, 0), (636, .aload_n 0, 1, 0, 0, 0), (637, .iload_n 3, 1, 0, 0, 0), (638, .iconst 2, 1, 0, 0, 0), (639, .iadd, 1, 0, 0, 0), (640, .iaload, 1, 0, 0, 0), (641, .aload_n 0, 1, 0, 0, 0), (642, .iload_n 3, 1, 0, 0, 0), (643, .iconst 3, 1, 0, 0, 0), (644, .iadd, 1, 0, 0, 0), (645, .iaload, 1, 0, 0, 0), (646, .invokevirtual 83, 3, 205, 3, 45), (649, .if_icmp .eq 511, 3, 1160, 0, 0), (652, .iconst 0, 1, 0, 0, 0), (653, .ireturn, 1, 0, 0, 0), (654, .aload_n 1, 1, 0, 0, 0), (655, .aload_n 0, 1, 0, 0, 0), (656, .iload_n 3, 1, 0, 0, 0), (657, .iconst 1, 1, 0, 0, 0), (658, .iadd, 1, 0, 0, 0), (659, .iaload, 1, 0, 0, 0), (660, .aload_n 0, 1, 0, 0, 0), (661, .iload_n 3, 1, 0, 0, 0)]
def cd_252_7 : List tm_E := [(662, .iconst 2, 1, 0, 0, 0), (663, .iadd, 1, 0, 0, 0), (664, .iaload, 1, 0, 0, 0), (665, .aload_n 0, 1, 0, 0, 0), (666, .iload_n 3, 1, 0, 0, 0), (667, .iconst 3, 1, 0, 0, 0), (668, .iadd, 1, 0, 0, 0), (669, .iaload, 1, 0, 0, 0), (670, .aload_n 0, 1, 0, 0, 0), (671, .iload_n 3, 1, 0, 0, 0), (672, .iconst 4, 1, 0, 0, 0), (673, .iadd, 1, 0, 0, 0), (674, .iaload, 1, 0, 0, 0), (675, .aload_n 0, 1, 0, 0, 0), (676, .iload_n 3, 1, 0, 0, 0), (677, .iconst 5, 1, 0, 0, 0), (678, .iadd, 1, 0, 0, 0), (679, .iaload, 1, 0, 0, 0), (680, .invokevirtual 84, 3, 207, 5, 41), (683, .aload_n 2, 1, 0, 0, 0), (684, .aload_n 0, 1, 0, 0, 0), (685, .iload_n 3, 1, 0, 0, 0), (686, .iconst 1, 1, 0, 0, 0), (687, .iadd, 1, 0, 0, 0), (688, .iaload, 1, 0, 0, 0), (689, .aload_n 0, 1, 0, 0, 0), (690, .iload_n 3, 1, 0, 0, 0), (691, .iconst 2, 1, 0, 0, 0), (692, .iadd, 1, 0, 0, 0), (693, .iaload, 1, 0, 0, 0), (694, .aload_n 0, 1, 0, 0, 0), (695, .iload_n 3, 1, 0, 0, 0), (696, .iconst 3, 1, 0, 0, 0), (697, .iadd, 1, 0, 0, 0), (698, .iaload, 1, 0, 0, 0), (699, .aload_n 0, 1, 0, 0, 0), (700, .iload_n 3, 1, 0, 0, 0), (701, .iconst 4, 1, 0, 0, 0), (702, .iadd, 1, 0, 0, 0), (703, .iaload, 1, 0, 0, 0), (704, .aload_n 0, 1, 0, 0, 0), (705, .iload_n 3, 1, 0, 0, 0), (706, .iconst 5, 1, 0, 0, 0), (707, .iadd, 1, 0, 0, 0), (708, .iaload, 1, 0, 0, 0), (709, .invokevirtual 87, 3, 208, 5, 45), (712, .if_icmp .eq 448, 3, 1160, 0, 0), (715, .iconst 0, 1, 0, 0, 0), (716, .ireturn, 1, 0, 0, 0), (717, .aload_n 1, 1, 0, 0, 0), (718, .invokevirtual 88, 3, 212, 0, 41), (721, .aload_n 2, 1, 0, 0, 0), (722, .invokevirtual 91, 3, 214, 0, 45), (725, .if_icmp .eq 435, 3, 1160, 0, 0), (728, .iconst 0, 1, 0, 0, 0), (729, .ireturn, 1, 0, 0, 0), (730, .aload_n 1, 1, 0, 0, 0), (731, .aload_n 0, 1, 0, 0, 0), (732, .iload_n 3, 1, 0, 0, 0), (733, .iconst 1, 1, 0, 0, 0)]
def cd_252_8 : List tm_E := [(734, .iadd, 1, 0, 0, 0), (735, .iaload, 1, 0, 0, 0), (736, .invokevirtual 92, 3, 215, 1, 41), (739, .aload_n 2, 1, 0, 0, 0), (740, .aload_n 0, 1, 0, 0, 0), (741, .iload_n 3, 1, 0, 0, 0), (742, .iconst 1, 1, 0, 0, 0), (743, .iadd, 1, 0, 0, 0), (744, .iaload, 1, 0, 0, 0), (745, .invokevirtual 95, 3, 216, 1, 45), (748, .if_icmp .eq 412, 3, 1160, 0, 0), (751, .iconst 0, 1, 0, 0, 0), (752, .ireturn, 1, 0, 0, 0), (753, .aload_n 1, 1, 0, 0, 0), (754, .aload_n 0, 1, 0, 0, 0), (755, .iload_n 3, 1, 0, 0, 0), (756, .iconst 1, 1, 0, 0, 0), (757, .iadd, 1, 0, 0, 0), (758, .iaload, 1, 0, 0, 0), (759, .invokevirtual 96, 3, 218, 1, 41), (762, .aload_n 2, 1, 0, 0, 0), (763, .aload_n 0, 1, 0, 0, 0), (764, .iload_n 3, 1, 0, 0, 0), (765, .iconst 1, 1, 0, 0, 0), (766, .iadd, 1, 0, 0, 0), (767, .iaload, 1, 0, 0, 0), (768, .invokevirtual 99, 3, 220, 1, 45), (771, .if_icmp .eq 389, 3, 1160, 0, 0), (774, .iconst 0, 1, 0, 0, 0), (775, .ireturn, 1, 0, 0, 0), (776, .aload_n 1, 1, 0, 0, 0), (777, .aload_n 0, 1, 0, 0, 0), (778, .iload_n 3, 1, 0, 0, 0), (779, .iconst 1, 1, 0, 0, 0), (780, .iadd, 1, 0, 0, 0), (781, .iaload, 1, 0, 0, 0), (782, .aload_n 0, 1, 0, 0, 0), (783, .iload_n 3, 1, 0, 0, 0), (784, .iconst 2, 1, 0, 0, 0), (785, .iadd, 1, 0, 0, 0), (786, .iaload, 1, 0, 0, 0), (787, .aload_n 0, 1, 0, 0, 0), (788, .iload_n 3, 1, 0, 0, 0), (789, .iconst 3, 1, 0, 0, 0), (790, .iadd, 1, 0, 0, 0), (791, .iaload, 1, 0, 0, 0), (792, .invokevirtual 100, 3, 224, 3, 41), (795, .aload_n 2, 1, 0, 0, 0), (796, .aload_n 0, 1, 0, 0, 0), (797, .iload_n 3, 1, 0, 0, 0), (798, .iconst 1, 1, 0, 0, 0), (799, .iadd, 1, 0, 0, 0), (800, .iaload, 1, 0, 0, 0), (801, .aload_n 0, 1, 0, 0, 0), (802, .iload_n 3, 1, 0, 0, 0), (803, .iconst 2, 1, 0, 0, 0), (804, .iadd, 1, 0, 0, 0), (805, .iaload, 1, 0, 0, 0), (806, .aload_n 0, 1, 0, 0, 0), (807, .iload_n 3, 1, 0, 0, 0)]
def cd_252_9 : List tm_E := [(808, .iconst 3, 1, 0, 0, 0), (809, .iadd, 1, 0, 0, 0), (810, .iaload, 1, 0, 0, 0), (811, .invokevirtual 103, 3, 225, 3, 45), (814, .if_icmp .eq 346, 3, 1160, 0, 0), (817, .iconst 0, 1, 0, 0, 0), (818, .ireturn, 1, 0, 0, 0), (819, .aload_n 1, 1, 0, 0, 0), (820, .aload_n 0, 1, 0, 0, 0), (821, .iload_n 3, 1, 0, 0, 0), (822, .iconst 1, 1, 0, 0, 0), (823, .iadd, 1, 0, 0, 0), (824, .iaload, 1, 0, 0, 0), (825, .invokevirtual 104, 3, 227, 1, 41), (828, .aload_n 2, 1, 0, 0, 0), (829, .aload_n 0, 1, 0, 0, 0), (830, .iload_n 3, 1, 0, 0, 0), (831, .iconst 1, 1, 0, 0, 0), (832, .iadd, 1, 0, 0, 0), (833, .iaload, 1, 0, 0, 0), (834, .invokevirtual 108, 3, 228, 1, 45), (837, .if_icmp .eq 323, 3, 1160, 0, 0), (840, .iconst 0, 1, 0, 0, 0), (841, .ireturn, 1, 0, 0, 0), (842, .aload_n 1, 1, 0, 0, 0), (843, .aload_n 0, 1, 0, 0, 0), (844, .iload_n 3, 1, 0, 0, 0), (845, .iconst 1, 1, 0, 0, 0), (846, .iadd, 1, 0, 0, 0), (847, .iaload, 1, 0, 0, 0), (848, .invokevirtual 109, 3, 230, 1, 41), (851, .aload_n 2, 1, 0, 0, 0), (852, .aload_n 0, 1, 0, 0, 0), (853, .iload_n 3, 1, 0, 0, 0), (854, .iconst 1, 1, 0, 0, 0), (855, .iadd, 1, 0, 0, 0), (856, .iaload, 1, 0, 0, 0), (857, .invokevirtual 112, 3, 231, 1, 45), (860, .if_icmp .eq 300, 3, 1160, 0, 0), (863, .iconst 0, 1, 0, 0, 0), (864, .ireturn, 1, 0, 0, 0), (865, .aload_n 1, 1, 0, 0, 0), (866, .aload_n 0, 1, 0, 0, 0), (867, .iload_n 3, 1, 0, 0, 0), (868, .iconst 1, 1, 0, 0, 0), (869, .iadd, 1, 0, 0, 0), (870, .iaload, 1, 0, 0, 0), (871, .aload_n 0, 1, 0, 0, 0), (872, .iload_n 3, 1, 0, 0, 0), (873, .iconst 2, 1, 0, 0, 0), (874, .iadd, 1, 0, 0, 0), (875, .iaload, 1, 0, 0, 0), (876, .aload_n 0, 1, 0, 0, 0), (877, .iload_n 3, 1, 0, 0, 0), (878, .iconst 3, 1, 0, 0, 0), (879, .iadd, 1, 0, 0, 0), (880, .iaload, 1, 0, 0, 0), (881, .invokevirtual 113, 3, 236, 3, 41), (884, .aload_n 2, 1, 0, 0, 0), (885, .aload_n 0, 1, 0, 0, 0)]
def cd_252_10 : List tm_E := [(886, .iload_n 3, 1, 0, 0, 0), (887, .iconst 1, 1, 0, 0, 0), (888, .iadd, 1, 0, 0, 0), (889, .iaload, 1, 0, 0, 0), (890, .aload_n 0, 1, 0, 0, 0), (891, .iload_n 3, 1, 0, 0, 0), (892, .iconst 2, 1, 0, 0, 0), (893, .iadd, 1, 0, 0, 0), (894, .iaload, 1, 0, 0, 0), (895, .aload_n 0, 1, 0, 0, 0), (896, .iload_n 3, 1, 0, 0, 0), (897, .iconst 3, 1, 0, 0, 0), (898, .iadd, 1, 0, 0, 0), (899, .iaload, 1, 0, 0, 0), (900, .invokevirtual 116, 3, 240, 3, 45), (903, .if_icmp .eq 257, 3, 1160, 0, 0), (906, .iconst 0, 1, 0, 0, 0), (907, .ireturn, 1, 0, 0, 0), (908, .aload_n 1, 1, 0, 0, 0), (909, .aload_n 0, 1, 0, 0, 0), (910, .iload_n 3, 1, 0, 0, 0), (911, .iconst 1, 1, 0, 0, 0), (912, .iadd, 1, 0, 0, 0), (913, .iaload, 1, 0, 0, 0), (914, .aload_n 0, 1, 0, 0, 0), (915, .iload_n 3, 1, 0, 0, 0), (916, .iconst 2, 1, 0, 0, 0), (917, .iadd, 1, 0, 0, 0), (918, .iaload, 1, 0, 0, 0), (919, .aload_n 0, 1, 0, 0, 0), (920, .iload_n 3, 1, 0, 0, 0), (921, .iconst 3, 1, 0, 0, 0), (922, .iadd, 1, 0, 0, 0), (923, .iaload, 1, 0, 0, 0), (924, .aload_n 0, 1, 0, 0, 0), (925, .iload_n 3, 1, 0, 0, 0), (926, .iconst 4, 1, 0, 0, 0), (927, .iadd, 1, 0, 0, 0), (928, .iaload, 1, 0, 0, 0), (929, .aload_n 0, 1, 0, 0, 0), (930, .iload_n 3, 1, 0, 0, 0), (931, .iconst 5, 1, 0, 0, 0), (932, .iadd, 1, 0, 0, 0), (933, .iaload, 1, 0, 0, 0), (934, .ifCond .eq 7, 3, 941, 0, 0), (937, .iconst 1, 1, 0, 0, 0), (938, .goto 4, 3, 942, 0, 0), (941, .iconst 0, 1, 0, 0, 0), (942, .aload_n 0, 1, 0, 0, 0), (943, .iload_n 3, 1, 0, 0, 0), (944, .bipush 6, 2, 0, 0, 0), (946, .iadd, 1, 0, 0, 0), (947, .iaload, 1, 0, 0, 0), (948, .invokevirtual 117, 3, 242, 6, 41), (951, .aload_n 2, 1, 0, 0, 0), (952, .aload_n 0, 1, 0, 0, 0), (953, .iload_n 3, 1, 0, 0, 0), (954, .iconst 1, 1, 0, 0, 0), (955, .iadd, 1, 0, 0, 0), (956, .iaload, 1, 0, 0, 0)]
def cd_252_11 : List tm_E := [(957, .aload_n 0, 1, 0, 0, 0), (958, .iload_n 3, 1, 0, 0, 0), (959, .iconst 2, 1, 0, 0, 0), (960, .iadd, 1, 0, 0, 0), (961, .iaload, 1, 0, 0, 0), (962, .aload_n 0, 1, 0, 0, 0), (963, .iload_n 3, 1, 0, 0, 0), (964, .iconst 3, 1, 0, 0, 0), (965, .iadd, 1, 0, 0, 0), (966, .iaload, 1, 0, 0, 0), (967, .aload_n 0, 1, 0, 0, 0), (968, .iload_n 3, 1, 0, 0, 0), (969, .iconst 4, 1, 0, 0, 0), (970, .iadd, 1, 0, 0, 0), (971, .iaload, 1, 0, 0, 0), (972, .aload_n 0, 1, 0, 0, 0), (973, .iload_n 3, 1, 0, 0, 0), (974, .iconst 5, 1, 0, 0, 0), (975, .iadd, 1, 0, 0, 0), (976, .iaload, 1, 0, 0, 0), (977, .ifCond .eq 7, 3, 984, 0, 0), (980, .iconst 1, 1, 0, 0, 0), (981, .goto 4, 3, 985, 0, 0), (984, .iconst 0, 1, 0, 0, 0), (985, .aload_n 0, 1, 0, 0, 0), (986, .iload_n 3, 1, 0, 0, 0), (987, .bipush 6, 2, 0, 0, 0), (989, .iadd, 1, 0, 0, 0), (990, .iaload, 1, 0, 0, 0), (991, .invokevirtual 121, 3, 243, 6, 45), (994, .if_icmp .eq 166, 3, 1160, 0, 0), (997, .iconst 0, 1, 0, 0, 0), (998, .ireturn, 1, 0, 0, 0), (999, .aload_n 1, 1, 0, 0, 0), (1000, .aload_n 0, 1, 0, 0, 0), (1001, .iload_n 3, 1, 0, 0, 0), (1002, .iconst 1, 1, 0, 0, 0), (1003, .iadd, 1, 0, 0, 0), (1004, .iaload, 1, 0, 0, 0), (1005, .aload_n 0, 1, 0, 0, 0), (1006, .iload_n 3, 1, 0, 0, 0), (1007, .iconst 2, 1, 0, 0, 0), (1008, .iadd, 1, 0, 0, 0), (1009, .iaload, 1, 0, 0, 0), (1010, .aload_n 0, 1, 0, 0, 0), (1011, .iload_n 3, 1, 0, 0, 0), (1012, .iconst 3, 1, 0, 0, 0), (1013, .iadd, 1, 0, 0, 0), (1014, .iaload, 1, 0, 0, 0), (1015, .aload_n 0, 1, 0, 0, 0), (1016, .iload_n 3, 1, 0, 0, 0), (1017, .iconst 4, 1, 0, 0, 0), (1018, .iadd, 1, 0, 0, 0), (1019, .iaload, 1, 0, 0, 0), (1020, .ifCond .eq 7, 3, 1027, 0, 0), (1023, .iconst 1, 1, 0, 0, 0), (1024, .goto 4, 3, 1028, 0, 0), (1027, .iconst 0, 1, 0, 0, 0), (1028, .aload_n 0, 1, 0, 0, 0), (1029, .iload_n 3, 1, 0, 0, 0)]
def cd_252_12 : List tm_E := [(1030, .iconst 5, 1, 0, 0, 0), (1031, .iadd, 1, 0, 0, 0), (1032, .iaload, 1, 0, 0, 0), (1033, .invokevirtual 122, 3, 245, 5, 41), (1036, .aload_n 2, 1, 0, 0, 0), (1037, .aload_n 0, 1, 0, 0, 0), (1038, .iload_n 3, 1, 0, 0, 0), (1039, .iconst 1, 1, 0, 0, 0), (1040, .iadd, 1, 0, 0, 0), (1041, .iaload, 1, 0, 0, 0), (1042, .aload_n 0, 1, 0, 0, 0), (1043, .iload_n 3, 1, 0, 0, 0), (1044, .iconst 2, 1, 0, 0, 0), (1045, .iadd, 1, 0, 0, 0), (1046, .iaload, 1, 0, 0, 0), (1047, .aload_n 0, 1, 0, 0, 0), (1048, .iload_n 3, 1, 0, 0, 0), (1049, .iconst 3, 1, 0, 0, 0), (1050, .iadd, 1, 0, 0, 0), (1051, .iaload, 1, 0, 0, 0), (1052, .aload_n 0, 1, 0, 0, 0), (1053, .iload_n 3, 1, 0, 0, 0), (1054, .iconst 4, 1, 0, 0, 0), (1055, .iadd, 1, 0, 0, 0), (1056, .iaload, 1, 0, 0, 0), (1057, .ifCond .eq 7, 3, 1064, 0, 0), (1060, .iconst 1, 1, 0, 0, 0), (1061, .goto 4, 3, 1065, 0, 0), (1064, .iconst 0, 1, 0, 0, 0), (1065, .aload_n 0, 1, 0, 0, 0), (1066, .iload_n 3, 1, 0, 0, 0), (1067, .iconst 5, 1, 0, 0, 0), (1068, .iadd, 1, 0, 0, 0), (1069, .iaload, 1, 0, 0, 0), (1070, .invokevirtual 126, 3, 246, 5, 45), (1073, .if_icmp .eq 87, 3, 1160, 0, 0), (1076, .iconst 0, 1, 0, 0, 0), (1077, .ireturn, 1, 0, 0, 0), (1078, .aload_n 1, 1, 0, 0, 0), (1079, .aload_n 0, 1, 0, 0, 0), (1080, .iload_n 3, 1, 0, 0, 0), (1081, .iconst 1, 1, 0, 0, 0), (1082, .iadd, 1, 0, 0, 0), (1083, .iaload, 1, 0, 0, 0), (1084, .aload_n 0, 1, 0, 0, 0), (1085, .iload_n 3, 1, 0, 0, 0), (1086, .iconst 2, 1, 0, 0, 0), (1087, .iadd, 1, 0, 0, 0), (1088, .iaload, 1, 0, 0, 0), (1089, .ifCond .eq 7, 3, 1096, 0, 0), (1092, .iconst 1, 1, 0, 0, 0), (1093, .goto 4, 3, 1097, 0, 0), (1096, .iconst 0, 1, 0, 0, 0), (1097, .aload_n 0, 1, 0, 0, 0), (1098, .iload_n 3, 1, 0, 0, 0), (1099, .iconst 3, 1, 0, 0, 0), (1100, .iadd, 1, 0, 0, 0), (1101, .iaload, 1, 0, 0, 0), (1102, .invokevirtual 127, 3, 248, 3, 41), (1105, .aload_n 2, 1, 0, 0, 0)]
def cd_252_13 : List tm_E := [(1106, .aload_n 0, 1, 0, 0, 0), (1107, .iload_n 3, 1, 0, 0, 0), (1108, .iconst 1, 1, 0, 0, 0), (1109, .iadd, 1, 0, 0, 0), (1110, .iaload, 1, 0, 0, 0), (1111, .aload_n 0, 1, 0, 0, 0), (1112, .iload_n 3, 1, 0, 0, 0), (1113, .iconst 2, 1, 0, 0, 0), (1114, .iadd, 1, 0, 0, 0), (1115, .iaload, 1, 0, 0, 0), (1116, .ifCond .eq 7, 3, 1123, 0, 0), (1119, .iconst 1, 1, 0, 0, 0), (1120, .goto 4, 3, 1124, 0, 0), (1123, .iconst 0, 1, 0, 0, 0), (1124, .aload_n 0, 1, 0, 0, 0), (1125, .iload_n 3, 1, 0, 0, 0), (1126, .iconst 3, 1, 0, 0, 0), (1127, .iadd, 1, 0, 0, 0), (1128, .iaload, 1, 0, 0, 0), (1129, .invokevirtual 130, 3, 249, 3, 45), (1132, .if_icmp .eq 28, 3, 1160, 0, 0), (1135, .iconst 0, 1, 0, 0, 0), (1136, .ireturn, 1, 0, 0, 0), (1137, .aload_n 1, 1, 0, 0, 0), (1138, .aload_n 0, 1, 0, 0, 0), (1139, .iload_n 3, 1, 0, 0, 0), (1140, .iconst 1, 1, 0, 0, 0), (1141, .iadd, 1, 0, 0, 0), (1142, .iaload, 1, 0, 0, 0), (1143, .invokevirtual 131, 3, 250, 1, 41), (1146, .aload_n 2, 1, 0, 0, 0), (1147, .aload_n 0, 1, 0, 0, 0), (1148, .iload_n 3, 1, 0, 0, 0), (1149, .iconst 1, 1, 0, 0, 0), (1150, .iadd, 1, 0, 0, 0), (1151, .iaload, 1, 0, 0, 0), (1152, .invokevirtual 134, 3, 251, 1, 45), (1155, .if_icmp .eq 5, 3, 1160, 0, 0), (1158, .iconst 0, 1, 0, 0, 0), (1159, .ireturn, 1, 0, 0, 0), (1160, .iinc 3 7, 3, 0, 0, 0), (1163, .goto (-1145), 3, 18, 0, 0), (1166, .iconst 1, 1, 0, 0, 0), (1167, .ireturn, 1, 0, 0, 0)]
def cd_252 : List tm_E := cd_252_0 ++ (cd_252_1 ++ (cd_252_2 ++ (cd_252_3 ++ (cd_252_4 ++ (cd_252_5 ++ (cd_252_6 ++ (cd_252_7 ++ (cd_252_8 ++ (cd_252_9 ++ (cd_252_10 ++ (cd_252_11 ++ (cd_252_12 ++ (cd_252_13)))))))))))))
theorem tm_at_app {a b : List tm_E} {pc : Nat} {q : Instr × Nat × Nat × Nat × Nat} (h : tm_at (a ++ b) pc = some q) : tm_at a pc = some q ∨ tm_at b pc = some q := by
  induction a with
  | nil => exact Or.inr h
  | cons e r ih =>
    rw [List.cons_append] at h
    unfold tm_at at h ⊢
    cases hb : Nat.beq e.1 pc with
    | true => rw [hb] at h; exact Or.inl h
    | false =>
      rw [hb] at h
      rcases ih h with h | h
      · exact Or.inl h
      · right
        unfold tm_at at h
        exact h
theorem tm_cdk_app {own : String} {ini : Bool} {mt : Nat → tm_Mt} {t : tm_Mt} {tz : Bool} {a b : List tm_E} (ha : tm_cdk own ini mt t tz a) (hb : tm_cdk own ini mt t tz b) : tm_cdk own ini mt t tz (a ++ b) := fun pc q h => (tm_at_app h).elim (ha pc q) (hb pc q)
def cu_252 : List (Nat × List Nat) := [(7, [0]), (15, [0, 1]), (18, [0, 1, 2, 3]), (189, [0, 1, 2, 3]), (218, [0, 1, 2, 3]), (232, [0, 1, 2, 3]), (241, [0, 1, 2, 3]), (250, [0, 1, 2, 3]), (254, [0, 1, 2, 3]), (263, [0, 1, 2, 3]), (267, [0, 1, 2, 3]), (281, [0, 1, 2, 3]), (290, [0, 1, 2, 3]), (314, [0, 1, 2, 3]), (322, [0, 1, 2, 3]), (341, [0, 1, 2, 3]), (349, [0, 1, 2, 3]), (363, [0, 1, 2, 3]), (372, [0, 1, 2, 3]), (391, [0, 1, 2, 3]), (405, [0, 1, 2, 3]), (414, [0, 1, 2, 3]), (418, [0, 1, 2, 3]), (432, [0, 1, 2, 3]), (441, [0, 1, 2, 3]), (460, [0, 1, 2, 3]), (474, [0, 1, 2, 3]), (493, [0, 1, 2, 3]), (507, [0, 1, 2, 3]), (521, [0, 1, 2, 3]), (530, [0, 1, 2, 3]), (554, [0, 1, 2, 3]), (573, [0, 1, 2, 3]), (592, [0, 1, 2, 3]), (606, [0, 1, 2, 3]), (630, [0, 1, 2, 3]), (649, [0, 1, 2, 3]), (683, [0, 1, 2, 3]), (712, [0, 1, 2, 3]), (721, [0, 1, 2, 3]), (725, [0, 1, 2, 3]), (739, [0, 1, 2, 3]), (748, [0, 1, 2, 3]), (762, [0, 1, 2, 3]), (771, [0, 1, 2, 3]), (795, [0, 1, 2, 3]), (814, [0, 1, 2, 3]), (828, [0, 1, 2, 3]), (837, [0, 1, 2, 3]), (851, [0, 1, 2, 3]), (860, [0, 1, 2, 3]), (884, [0, 1, 2, 3]), (903, [0, 1, 2, 3]), (942, [0, 1, 2, 3]), (951, [0, 1, 2, 3]), (985, [0, 1, 2, 3]), (994, [0, 1, 2, 3]), (1028, [0, 1, 2, 3]), (1036, [0, 1, 2, 3]), (1065, [0, 1, 2, 3]), (1073, [0, 1, 2, 3]), (1097, [0, 1, 2, 3]), (1105, [0, 1, 2, 3]), (1124, [0, 1, 2, 3]), (1132, [0, 1, 2, 3]), (1146, [0, 1, 2, 3]), (1155, [0, 1, 2, 3]), (1160, [0, 1, 2, 3])]
noncomputable def G_252 : tm_G := fun id as M => if id = 12 then F_12 as M else if id = 13 then F_13 as M else if id = 15 then F_15 as M else if id = 16 then F_16 as M else if id = 17 then F_17 as M else if id = 18 then F_18 as M else if id = 53 then F_53 as M else if id = 73 then F_73 as M else if id = 79 then F_79 as M else if id = 81 then F_81 as M else if id = 82 then F_82 as M else if id = 83 then F_83 as M else if id = 92 then F_92 as M else if id = 101 then F_101 as M else if id = 104 then F_104 as M else if id = 107 then F_107 as M else if id = 108 then F_108 as M else if id = 109 then F_109 as M else if id = 145 then F_145 as M else if id = 164 then F_164 as M else if id = 165 then F_165 as M else if id = 166 then F_166 as M else if id = 168 then F_168 as M else if id = 169 then F_169 as M else if id = 171 then F_171 as M else if id = 172 then F_172 as M else if id = 175 then F_175 as M else if id = 177 then F_177 as M else if id = 179 then F_179 as M else if id = 181 then F_181 as M else if id = 183 then F_183 as M else if id = 184 then F_184 as M else if id = 197 then F_197 as M else if id = 205 then F_205 as M else if id = 207 then F_207 as M else if id = 208 then F_208 as M else if id = 212 then F_212 as M else if id = 214 then F_214 as M else if id = 215 then F_215 as M else if id = 216 then F_216 as M else if id = 218 then F_218 as M else if id = 220 then F_220 as M else if id = 224 then F_224 as M else if id = 225 then F_225 as M else if id = 227 then F_227 as M else if id = 228 then F_228 as M else if id = 230 then F_230 as M else if id = 231 then F_231 as M else if id = 236 then F_236 as M else if id = 240 then F_240 as M else if id = 242 then F_242 as M else if id = 243 then F_243 as M else if id = 245 then F_245 as M else if id = 246 then F_246 as M else if id = 248 then F_248 as M else if id = 249 then F_249 as M else if id = 250 then F_250 as M else if id = 251 then F_251 as M else none
theorem gg_252 : tm_Gg G_252 := by
  intro id as M r h
  unfold G_252 at h
  rcases tm_ite_e h with ⟨_, h⟩ | ⟨_, h⟩
  · exact gr_12 h
  rcases tm_ite_e h with ⟨_, h⟩ | ⟨_, h⟩
  · exact gr_13 h
  rcases tm_ite_e h with ⟨_, h⟩ | ⟨_, h⟩
  · exact gr_15 h
  rcases tm_ite_e h with ⟨_, h⟩ | ⟨_, h⟩
  · exact gr_16 h
  rcases tm_ite_e h with ⟨_, h⟩ | ⟨_, h⟩
  · exact gr_17 h
  rcases tm_ite_e h with ⟨_, h⟩ | ⟨_, h⟩
  · exact gr_18 h
  rcases tm_ite_e h with ⟨_, h⟩ | ⟨_, h⟩
  · exact gr_53 h
  rcases tm_ite_e h with ⟨_, h⟩ | ⟨_, h⟩
  · exact gr_73 h
  rcases tm_ite_e h with ⟨_, h⟩ | ⟨_, h⟩
  · exact gr_79 h
  rcases tm_ite_e h with ⟨_, h⟩ | ⟨_, h⟩
  · exact gr_81 h
  rcases tm_ite_e h with ⟨_, h⟩ | ⟨_, h⟩
  · exact gr_82 h
  rcases tm_ite_e h with ⟨_, h⟩ | ⟨_, h⟩
  · exact gr_83 h
  rcases tm_ite_e h with ⟨_, h⟩ | ⟨_, h⟩
  · exact gr_92 h
  rcases tm_ite_e h with ⟨_, h⟩ | ⟨_, h⟩
  · exact gr_101 h
  rcases tm_ite_e h with ⟨_, h⟩ | ⟨_, h⟩
  · exact gr_104 h
  rcases tm_ite_e h with ⟨_, h⟩ | ⟨_, h⟩
  · exact gr_107 h
  rcases tm_ite_e h with ⟨_, h⟩ | ⟨_, h⟩
  · exact gr_108 h
  rcases tm_ite_e h with ⟨_, h⟩ | ⟨_, h⟩
  · exact gr_109 h
  rcases tm_ite_e h with ⟨_, h⟩ | ⟨_, h⟩
  · exact gr_145 h
  rcases tm_ite_e h with ⟨_, h⟩ | ⟨_, h⟩
  · exact gr_164 h
  rcases tm_ite_e h with ⟨_, h⟩ | ⟨_, h⟩
  · exact gr_165 h
  rcases tm_ite_e h with ⟨_, h⟩ | ⟨_, h⟩
  · exact gr_166 h
  rcases tm_ite_e h with ⟨_, h⟩ | ⟨_, h⟩
  · exact gr_168 h
  rcases tm_ite_e h with ⟨_, h⟩ | ⟨_, h⟩
  · exact gr_169 h
  rcases tm_ite_e h with ⟨_, h⟩ | ⟨_, h⟩
  · exact gr_171 h
  rcases tm_ite_e h with ⟨_, h⟩ | ⟨_, h⟩
  · exact gr_172 h
  rcases tm_ite_e h with ⟨_, h⟩ | ⟨_, h⟩
  · exact gr_175 h
  rcases tm_ite_e h with ⟨_, h⟩ | ⟨_, h⟩
  · exact gr_177 h
  rcases tm_ite_e h with ⟨_, h⟩ | ⟨_, h⟩
  · exact gr_179 h
  rcases tm_ite_e h with ⟨_, h⟩ | ⟨_, h⟩
  · exact gr_181 h
  rcases tm_ite_e h with ⟨_, h⟩ | ⟨_, h⟩
  · exact gr_183 h
  rcases tm_ite_e h with ⟨_, h⟩ | ⟨_, h⟩
  · exact gr_184 h
  rcases tm_ite_e h with ⟨_, h⟩ | ⟨_, h⟩
  · exact gr_197 h
  rcases tm_ite_e h with ⟨_, h⟩ | ⟨_, h⟩
  · exact gr_205 h
  rcases tm_ite_e h with ⟨_, h⟩ | ⟨_, h⟩
  · exact gr_207 h
  rcases tm_ite_e h with ⟨_, h⟩ | ⟨_, h⟩
  · exact gr_208 h
  rcases tm_ite_e h with ⟨_, h⟩ | ⟨_, h⟩
  · exact gr_212 h
  rcases tm_ite_e h with ⟨_, h⟩ | ⟨_, h⟩
  · exact gr_214 h
  rcases tm_ite_e h with ⟨_, h⟩ | ⟨_, h⟩
  · exact gr_215 h
  rcases tm_ite_e h with ⟨_, h⟩ | ⟨_, h⟩
  · exact gr_216 h
  rcases tm_ite_e h with ⟨_, h⟩ | ⟨_, h⟩
  · exact gr_218 h
  rcases tm_ite_e h with ⟨_, h⟩ | ⟨_, h⟩
  · exact gr_220 h
  rcases tm_ite_e h with ⟨_, h⟩ | ⟨_, h⟩
  · exact gr_224 h
  rcases tm_ite_e h with ⟨_, h⟩ | ⟨_, h⟩
  · exact gr_225 h
  rcases tm_ite_e h with ⟨_, h⟩ | ⟨_, h⟩
  · exact gr_227 h
  rcases tm_ite_e h with ⟨_, h⟩ | ⟨_, h⟩
  · exact gr_228 h
  rcases tm_ite_e h with ⟨_, h⟩ | ⟨_, h⟩
  · exact gr_230 h
  rcases tm_ite_e h with ⟨_, h⟩ | ⟨_, h⟩
  · exact gr_231 h
  rcases tm_ite_e h with ⟨_, h⟩ | ⟨_, h⟩
  · exact gr_236 h
  rcases tm_ite_e h with ⟨_, h⟩ | ⟨_, h⟩
  · exact gr_240 h
  rcases tm_ite_e h with ⟨_, h⟩ | ⟨_, h⟩
  · exact gr_242 h
  rcases tm_ite_e h with ⟨_, h⟩ | ⟨_, h⟩
  · exact gr_243 h
  rcases tm_ite_e h with ⟨_, h⟩ | ⟨_, h⟩
  · exact gr_245 h
  rcases tm_ite_e h with ⟨_, h⟩ | ⟨_, h⟩
  · exact gr_246 h
  rcases tm_ite_e h with ⟨_, h⟩ | ⟨_, h⟩
  · exact gr_248 h
  rcases tm_ite_e h with ⟨_, h⟩ | ⟨_, h⟩
  · exact gr_249 h
  rcases tm_ite_e h with ⟨_, h⟩ | ⟨_, h⟩
  · exact gr_250 h
  rcases tm_ite_e h with ⟨_, h⟩ | ⟨_, h⟩
  · exact gr_251 h
  cases h
theorem gm_252 (l : Launch) : ∀ id as M r, G_252 id as M = some r → tm_MA tm_sh l (tm_mt id) as M r := by
  intro id as M r h
  unfold G_252 at h
  rcases tm_ite_e h with ⟨rfl, h⟩ | ⟨_, h⟩
  · exact con_12 l h
  rcases tm_ite_e h with ⟨rfl, h⟩ | ⟨_, h⟩
  · exact con_13 l h
  rcases tm_ite_e h with ⟨rfl, h⟩ | ⟨_, h⟩
  · exact con_15 l h
  rcases tm_ite_e h with ⟨rfl, h⟩ | ⟨_, h⟩
  · exact con_16 l h
  rcases tm_ite_e h with ⟨rfl, h⟩ | ⟨_, h⟩
  · exact con_17 l h
  rcases tm_ite_e h with ⟨rfl, h⟩ | ⟨_, h⟩
  · exact con_18 l h
  rcases tm_ite_e h with ⟨rfl, h⟩ | ⟨_, h⟩
  · exact con_53 l h
  rcases tm_ite_e h with ⟨rfl, h⟩ | ⟨_, h⟩
  · exact con_73 l h
  rcases tm_ite_e h with ⟨rfl, h⟩ | ⟨_, h⟩
  · exact con_79 l h
  rcases tm_ite_e h with ⟨rfl, h⟩ | ⟨_, h⟩
  · exact con_81 l h
  rcases tm_ite_e h with ⟨rfl, h⟩ | ⟨_, h⟩
  · exact con_82 l h
  rcases tm_ite_e h with ⟨rfl, h⟩ | ⟨_, h⟩
  · exact con_83 l h
  rcases tm_ite_e h with ⟨rfl, h⟩ | ⟨_, h⟩
  · exact con_92 l h
  rcases tm_ite_e h with ⟨rfl, h⟩ | ⟨_, h⟩
  · exact con_101 l h
  rcases tm_ite_e h with ⟨rfl, h⟩ | ⟨_, h⟩
  · exact con_104 l h
  rcases tm_ite_e h with ⟨rfl, h⟩ | ⟨_, h⟩
  · exact con_107 l h
  rcases tm_ite_e h with ⟨rfl, h⟩ | ⟨_, h⟩
  · exact con_108 l h
  rcases tm_ite_e h with ⟨rfl, h⟩ | ⟨_, h⟩
  · exact con_109 l h
  rcases tm_ite_e h with ⟨rfl, h⟩ | ⟨_, h⟩
  · exact con_145 l h
  rcases tm_ite_e h with ⟨rfl, h⟩ | ⟨_, h⟩
  · exact con_164 l h
  rcases tm_ite_e h with ⟨rfl, h⟩ | ⟨_, h⟩
  · exact con_165 l h
  rcases tm_ite_e h with ⟨rfl, h⟩ | ⟨_, h⟩
  · exact con_166 l h
  rcases tm_ite_e h with ⟨rfl, h⟩ | ⟨_, h⟩
  · exact con_168 l h
  rcases tm_ite_e h with ⟨rfl, h⟩ | ⟨_, h⟩
  · exact con_169 l h
  rcases tm_ite_e h with ⟨rfl, h⟩ | ⟨_, h⟩
  · exact con_171 l h
  rcases tm_ite_e h with ⟨rfl, h⟩ | ⟨_, h⟩
  · exact con_172 l h
  rcases tm_ite_e h with ⟨rfl, h⟩ | ⟨_, h⟩
  · exact con_175 l h
  rcases tm_ite_e h with ⟨rfl, h⟩ | ⟨_, h⟩
  · exact con_177 l h
  rcases tm_ite_e h with ⟨rfl, h⟩ | ⟨_, h⟩
  · exact con_179 l h
  rcases tm_ite_e h with ⟨rfl, h⟩ | ⟨_, h⟩
  · exact con_181 l h
  rcases tm_ite_e h with ⟨rfl, h⟩ | ⟨_, h⟩
  · exact con_183 l h
  rcases tm_ite_e h with ⟨rfl, h⟩ | ⟨_, h⟩
  · exact con_184 l h
  rcases tm_ite_e h with ⟨rfl, h⟩ | ⟨_, h⟩
  · exact con_197 l h
  rcases tm_ite_e h with ⟨rfl, h⟩ | ⟨_, h⟩
  · exact con_205 l h
  rcases tm_ite_e h with ⟨rfl, h⟩ | ⟨_, h⟩
  · exact con_207 l h
  rcases tm_ite_e h with ⟨rfl, h⟩ | ⟨_, h⟩
  · exact con_208 l h
  rcases tm_ite_e h with ⟨rfl, h⟩ | ⟨_, h⟩
  · exact con_212 l h
  rcases tm_ite_e h with ⟨rfl, h⟩ | ⟨_, h⟩
  · exact con_214 l h
  rcases tm_ite_e h with ⟨rfl, h⟩ | ⟨_, h⟩
  · exact con_215 l h
  rcases tm_ite_e h with ⟨rfl, h⟩ | ⟨_, h⟩
  · exact con_216 l h
  rcases tm_ite_e h with ⟨rfl, h⟩ | ⟨_, h⟩
  · exact con_218 l h
  rcases tm_ite_e h with ⟨rfl, h⟩ | ⟨_, h⟩
  · exact con_220 l h
  rcases tm_ite_e h with ⟨rfl, h⟩ | ⟨_, h⟩
  · exact con_224 l h
  rcases tm_ite_e h with ⟨rfl, h⟩ | ⟨_, h⟩
  · exact con_225 l h
  rcases tm_ite_e h with ⟨rfl, h⟩ | ⟨_, h⟩
  · exact con_227 l h
  rcases tm_ite_e h with ⟨rfl, h⟩ | ⟨_, h⟩
  · exact con_228 l h
  rcases tm_ite_e h with ⟨rfl, h⟩ | ⟨_, h⟩
  · exact con_230 l h
  rcases tm_ite_e h with ⟨rfl, h⟩ | ⟨_, h⟩
  · exact con_231 l h
  rcases tm_ite_e h with ⟨rfl, h⟩ | ⟨_, h⟩
  · exact con_236 l h
  rcases tm_ite_e h with ⟨rfl, h⟩ | ⟨_, h⟩
  · exact con_240 l h
  rcases tm_ite_e h with ⟨rfl, h⟩ | ⟨_, h⟩
  · exact con_242 l h
  rcases tm_ite_e h with ⟨rfl, h⟩ | ⟨_, h⟩
  · exact con_243 l h
  rcases tm_ite_e h with ⟨rfl, h⟩ | ⟨_, h⟩
  · exact con_245 l h
  rcases tm_ite_e h with ⟨rfl, h⟩ | ⟨_, h⟩
  · exact con_246 l h
  rcases tm_ite_e h with ⟨rfl, h⟩ | ⟨_, h⟩
  · exact con_248 l h
  rcases tm_ite_e h with ⟨rfl, h⟩ | ⟨_, h⟩
  · exact con_249 l h
  rcases tm_ite_e h with ⟨rfl, h⟩ | ⟨_, h⟩
  · exact con_250 l h
  rcases tm_ite_e h with ⟨rfl, h⟩ | ⟨_, h⟩
  · exact con_251 l h
  cases h
theorem ck_252_0 : tm_cdk RL false tm_mt (tm_mt 252) true cd_252_0 := tm_cdk_of (LK := lk_L) (ix := [0, 1, 2, 3, 4]) lc_L (by decide +kernel)
theorem ck_252_1 : tm_cdk RL false tm_mt (tm_mt 252) true cd_252_1 := tm_cdk_of (LK := lk_L) (ix := [5, 6, 7, 8, 9, 10, 11, 12]) lc_L (by decide +kernel)
theorem ck_252_2 : tm_cdk RL false tm_mt (tm_mt 252) true cd_252_2 := tm_cdk_of (LK := lk_L) (ix := [13, 14, 15, 16]) lc_L (by decide +kernel)
theorem ck_252_3 : tm_cdk RL false tm_mt (tm_mt 252) true cd_252_3 := tm_cdk_of (LK := lk_L) (ix := [17, 18, 19, 20, 21, 22, 23]) lc_L (by decide +kernel)
theorem ck_252_4 : tm_cdk RL false tm_mt (tm_mt 252) true cd_252_4 := tm_cdk_of (LK := lk_L) (ix := [24, 25, 26, 27]) lc_L (by decide +kernel)
theorem ck_252_5 : tm_cdk RL false tm_mt (tm_mt 252) true cd_252_5 := tm_cdk_of (LK := lk_L) (ix := [28, 29, 30, 31, 32]) lc_L (by decide +kernel)
theorem ck_252_6 : tm_cdk RL false tm_mt (tm_mt 252) true cd_252_6 := tm_cdk_of (LK := lk_L) (ix := [33, 34, 35]) lc_L (by decide +kernel)
theorem ck_252_7 : tm_cdk RL false tm_mt (tm_mt 252) true cd_252_7 := tm_cdk_of (LK := lk_L) (ix := [36, 37, 38, 39]) lc_L (by decide +kernel)
theorem ck_252_8 : tm_cdk RL false tm_mt (tm_mt 252) true cd_252_8 := tm_cdk_of (LK := lk_L) (ix := [40, 41, 42, 43, 44]) lc_L (by decide +kernel)
theorem ck_252_9 : tm_cdk RL false tm_mt (tm_mt 252) true cd_252_9 := tm_cdk_of (LK := lk_L) (ix := [45, 46, 47, 48, 49, 50]) lc_L (by decide +kernel)
theorem ck_252_10 : tm_cdk RL false tm_mt (tm_mt 252) true cd_252_10 := tm_cdk_of (LK := lk_L) (ix := [51, 52]) lc_L (by decide +kernel)
theorem ck_252_11 : tm_cdk RL false tm_mt (tm_mt 252) true cd_252_11 := tm_cdk_of (LK := lk_L) (ix := [53]) lc_L (by decide +kernel)
theorem ck_252_12 : tm_cdk RL false tm_mt (tm_mt 252) true cd_252_12 := tm_cdk_of (LK := lk_L) (ix := [54, 55, 56]) lc_L (by decide +kernel)
theorem ck_252_13 : tm_cdk RL false tm_mt (tm_mt 252) true cd_252_13 := tm_cdk_of (LK := lk_L) (ix := [57, 58, 59]) lc_L (by decide +kernel)
theorem ck_252 : tm_cdk RL false tm_mt (tm_mt 252) true cd_252 := tm_cdk_app ck_252_0 (tm_cdk_app ck_252_1 (tm_cdk_app ck_252_2 (tm_cdk_app ck_252_3 (tm_cdk_app ck_252_4 (tm_cdk_app ck_252_5 (tm_cdk_app ck_252_6 (tm_cdk_app ck_252_7 (tm_cdk_app ck_252_8 (tm_cdk_app ck_252_9 (tm_cdk_app ck_252_10 (tm_cdk_app ck_252_11 (tm_cdk_app ck_252_12 (ck_252_13)))))))))))))
theorem nos_252 : cd_252.all (fun e => tm_nos e.2.1 e.2.2.2.1 e.2.2.2.2.2) = true := by decide +kernel
