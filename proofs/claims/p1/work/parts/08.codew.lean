def mt_cwd (q : mt_Q) : Prop := q.1.cls ≠ "PeopleStoreLaw" → Cond.code q.1 q.2.1 q.2.2.1 q.2.2.2.1 ∈ mt_tbl
theorem mt_w0 : mt_cwd mt_q0 := fun h => absurd rfl h
set_option maxRecDepth 100000 in
theorem mt_w1 : mt_cwd mt_q1 := fun _ => List.mem_of_getElem? (i := 161) rfl
set_option maxRecDepth 100000 in
theorem mt_w2 : mt_cwd mt_q2 := fun _ => List.mem_of_getElem? (i := 169) rfl
set_option maxRecDepth 100000 in
theorem mt_w3 : mt_cwd mt_q3 := fun _ => List.mem_of_getElem? (i := 175) rfl
set_option maxRecDepth 100000 in
theorem mt_w4 : mt_cwd mt_q4 := fun _ => List.mem_of_getElem? (i := 178) rfl
set_option maxRecDepth 100000 in
theorem mt_w5 : mt_cwd mt_q5 := fun _ => List.mem_of_getElem? (i := 184) rfl
set_option maxRecDepth 100000 in
theorem mt_w6 : mt_cwd mt_q6 := fun _ => List.mem_of_getElem? (i := 187) rfl
set_option maxRecDepth 100000 in
theorem mt_w7 : mt_cwd mt_q7 := fun _ => List.mem_of_getElem? (i := 235) rfl
set_option maxRecDepth 100000 in
theorem mt_w8 : mt_cwd mt_q8 := fun _ => List.mem_of_getElem? (i := 238) rfl
set_option maxRecDepth 100000 in
theorem mt_w9 : mt_cwd mt_q9 := fun _ => List.mem_of_getElem? (i := 241) rfl
set_option maxRecDepth 100000 in
theorem mt_w10 : mt_cwd mt_q10 := fun _ => List.mem_of_getElem? (i := 284) rfl
set_option maxRecDepth 100000 in
theorem mt_w11 : mt_cwd mt_q11 := fun _ => List.mem_of_getElem? (i := 288) rfl
set_option maxRecDepth 100000 in
theorem mt_w12 : mt_cwd mt_q12 := fun _ => List.mem_of_getElem? (i := 291) rfl
set_option maxRecDepth 100000 in
theorem mt_w13 : mt_cwd mt_q13 := fun _ => List.mem_of_getElem? (i := 294) rfl
set_option maxRecDepth 100000 in
theorem mt_w14 : mt_cwd mt_q14 := fun _ => List.mem_of_getElem? (i := 298) rfl
set_option maxRecDepth 100000 in
theorem mt_w15 : mt_cwd mt_q15 := fun _ => List.mem_of_getElem? (i := 302) rfl
set_option maxRecDepth 100000 in
theorem mt_w16 : mt_cwd mt_q16 := fun _ => List.mem_of_getElem? (i := 306) rfl
set_option maxRecDepth 100000 in
theorem mt_w17 : mt_cwd mt_q17 := fun _ => List.mem_of_getElem? (i := 310) rfl
set_option maxRecDepth 100000 in
theorem mt_w18 : mt_cwd mt_q18 := fun _ => List.mem_of_getElem? (i := 314) rfl
set_option maxRecDepth 100000 in
theorem mt_w19 : mt_cwd mt_q19 := fun _ => List.mem_of_getElem? (i := 318) rfl
set_option maxRecDepth 100000 in
theorem mt_w20 : mt_cwd mt_q20 := fun _ => List.mem_of_getElem? (i := 323) rfl
set_option maxRecDepth 100000 in
theorem mt_w21 : mt_cwd mt_q21 := fun _ => List.mem_of_getElem? (i := 327) rfl
set_option maxRecDepth 100000 in
theorem mt_w22 : mt_cwd mt_q22 := fun _ => List.mem_of_getElem? (i := 331) rfl
set_option maxRecDepth 100000 in
theorem mt_w23 : mt_cwd mt_q23 := fun _ => List.mem_of_getElem? (i := 336) rfl
set_option maxRecDepth 100000 in
theorem mt_w24 : mt_cwd mt_q24 := fun _ => List.mem_of_getElem? (i := 340) rfl
set_option maxRecDepth 100000 in
theorem mt_w25 : mt_cwd mt_q25 := fun _ => List.mem_of_getElem? (i := 343) rfl
set_option maxRecDepth 100000 in
theorem mt_w26 : mt_cwd mt_q26 := fun _ => List.mem_of_getElem? (i := 346) rfl
set_option maxRecDepth 100000 in
theorem mt_w27 : mt_cwd mt_q27 := fun _ => List.mem_of_getElem? (i := 349) rfl
set_option maxRecDepth 100000 in
theorem mt_w28 : mt_cwd mt_q28 := fun _ => List.mem_of_getElem? (i := 352) rfl
set_option maxRecDepth 100000 in
theorem mt_w29 : mt_cwd mt_q29 := fun _ => List.mem_of_getElem? (i := 355) rfl
set_option maxRecDepth 100000 in
theorem mt_w30 : mt_cwd mt_q30 := fun _ => List.mem_of_getElem? (i := 358) rfl
set_option maxRecDepth 100000 in
theorem mt_w31 : mt_cwd mt_q31 := fun _ => List.mem_of_getElem? (i := 364) rfl
set_option maxRecDepth 100000 in
theorem mt_w32 : mt_cwd mt_q32 := fun _ => List.mem_of_getElem? (i := 367) rfl
set_option maxRecDepth 100000 in
theorem mt_w33 : mt_cwd mt_q33 := fun _ => List.mem_of_getElem? (i := 370) rfl
set_option maxRecDepth 100000 in
theorem mt_w34 : mt_cwd mt_q34 := fun _ => List.mem_of_getElem? (i := 373) rfl
set_option maxRecDepth 100000 in
theorem mt_w35 : mt_cwd mt_q35 := fun _ => List.mem_of_getElem? (i := 378) rfl
set_option maxRecDepth 100000 in
theorem mt_w36 : mt_cwd mt_q36 := fun _ => List.mem_of_getElem? (i := 381) rfl
set_option maxRecDepth 100000 in
theorem mt_w37 : mt_cwd mt_q37 := fun _ => List.mem_of_getElem? (i := 384) rfl
set_option maxRecDepth 100000 in
theorem mt_w38 : mt_cwd mt_q38 := fun _ => List.mem_of_getElem? (i := 393) rfl
set_option maxRecDepth 100000 in
theorem mt_w39 : mt_cwd mt_q39 := fun _ => List.mem_of_getElem? (i := 396) rfl
set_option maxRecDepth 100000 in
theorem mt_w40 : mt_cwd mt_q40 := fun _ => List.mem_of_getElem? (i := 399) rfl
set_option maxRecDepth 100000 in
theorem mt_w41 : mt_cwd mt_q41 := fun _ => List.mem_of_getElem? (i := 403) rfl
set_option maxRecDepth 100000 in
theorem mt_w42 : mt_cwd mt_q42 := fun _ => List.mem_of_getElem? (i := 408) rfl
set_option maxRecDepth 100000 in
theorem mt_w43 : mt_cwd mt_q43 := fun _ => List.mem_of_getElem? (i := 411) rfl
set_option maxRecDepth 100000 in
theorem mt_w44 : mt_cwd mt_q44 := fun _ => List.mem_of_getElem? (i := 415) rfl
set_option maxRecDepth 100000 in
theorem mt_w45 : mt_cwd mt_q45 := fun _ => List.mem_of_getElem? (i := 419) rfl
set_option maxRecDepth 100000 in
theorem mt_w46 : mt_cwd mt_q46 := fun _ => List.mem_of_getElem? (i := 423) rfl
set_option maxRecDepth 100000 in
theorem mt_w47 : mt_cwd mt_q47 := fun _ => List.mem_of_getElem? (i := 427) rfl
set_option maxRecDepth 100000 in
theorem mt_w48 : mt_cwd mt_q48 := fun _ => List.mem_of_getElem? (i := 431) rfl
set_option maxRecDepth 100000 in
theorem mt_w49 : mt_cwd mt_q49 := fun _ => List.mem_of_getElem? (i := 435) rfl
set_option maxRecDepth 100000 in
theorem mt_w50 : mt_cwd mt_q50 := fun _ => List.mem_of_getElem? (i := 438) rfl
set_option maxRecDepth 100000 in
theorem mt_w51 : mt_cwd mt_q51 := fun _ => List.mem_of_getElem? (i := 442) rfl
set_option maxRecDepth 100000 in
theorem mt_w52 : mt_cwd mt_q52 := fun _ => List.mem_of_getElem? (i := 446) rfl
set_option maxRecDepth 100000 in
theorem mt_w53 : mt_cwd mt_q53 := fun _ => List.mem_of_getElem? (i := 452) rfl
set_option maxRecDepth 100000 in
theorem mt_w54 : mt_cwd mt_q54 := fun _ => List.mem_of_getElem? (i := 484) rfl
set_option maxRecDepth 100000 in
theorem mt_w55 : mt_cwd mt_q55 := fun _ => List.mem_of_getElem? (i := 488) rfl
set_option maxRecDepth 100000 in
theorem mt_w56 : mt_cwd mt_q56 := fun _ => List.mem_of_getElem? (i := 493) rfl
set_option maxRecDepth 100000 in
theorem mt_w57 : mt_cwd mt_q57 := fun _ => List.mem_of_getElem? (i := 496) rfl
set_option maxRecDepth 100000 in
theorem mt_w58 : mt_cwd mt_q58 := fun _ => List.mem_of_getElem? (i := 500) rfl
set_option maxRecDepth 100000 in
theorem mt_w59 : mt_cwd mt_q59 := fun _ => List.mem_of_getElem? (i := 504) rfl
set_option maxRecDepth 100000 in
theorem mt_w60 : mt_cwd mt_q60 := fun _ => List.mem_of_getElem? (i := 507) rfl
set_option maxRecDepth 100000 in
theorem mt_w61 : mt_cwd mt_q61 := fun _ => List.mem_of_getElem? (i := 512) rfl
set_option maxRecDepth 100000 in
theorem mt_w62 : mt_cwd mt_q62 := fun _ => List.mem_of_getElem? (i := 516) rfl
set_option maxRecDepth 100000 in
theorem mt_w63 : mt_cwd mt_q63 := fun _ => List.mem_of_getElem? (i := 532) rfl
set_option maxRecDepth 100000 in
theorem mt_w64 : mt_cwd mt_q64 := fun _ => List.mem_of_getElem? (i := 535) rfl
set_option maxRecDepth 100000 in
theorem mt_w65 : mt_cwd mt_q65 := fun _ => List.mem_of_getElem? (i := 538) rfl
set_option maxRecDepth 100000 in
theorem mt_w66 : mt_cwd mt_q66 := fun _ => List.mem_of_getElem? (i := 541) rfl
set_option maxRecDepth 100000 in
theorem mt_w67 : mt_cwd mt_q67 := fun _ => List.mem_of_getElem? (i := 544) rfl
set_option maxRecDepth 100000 in
theorem mt_w68 : mt_cwd mt_q68 := fun _ => List.mem_of_getElem? (i := 549) rfl
set_option maxRecDepth 100000 in
theorem mt_w69 : mt_cwd mt_q69 := fun _ => List.mem_of_getElem? (i := 552) rfl
set_option maxRecDepth 100000 in
theorem mt_w70 : mt_cwd mt_q70 := fun _ => List.mem_of_getElem? (i := 555) rfl
set_option maxRecDepth 100000 in
theorem mt_w71 : mt_cwd mt_q71 := fun _ => List.mem_of_getElem? (i := 559) rfl
set_option maxRecDepth 100000 in
theorem mt_w72 : mt_cwd mt_q72 := fun _ => List.mem_of_getElem? (i := 562) rfl
set_option maxRecDepth 100000 in
theorem mt_w73 : mt_cwd mt_q73 := fun _ => List.mem_of_getElem? (i := 565) rfl
set_option maxRecDepth 100000 in
theorem mt_w74 : mt_cwd mt_q74 := fun _ => List.mem_of_getElem? (i := 568) rfl
set_option maxRecDepth 100000 in
theorem mt_w75 : mt_cwd mt_q75 := fun _ => List.mem_of_getElem? (i := 571) rfl
set_option maxRecDepth 100000 in
theorem mt_w76 : mt_cwd mt_q76 := fun _ => List.mem_of_getElem? (i := 574) rfl
set_option maxRecDepth 100000 in
theorem mt_w77 : mt_cwd mt_q77 := fun _ => List.mem_of_getElem? (i := 577) rfl
set_option maxRecDepth 100000 in
theorem mt_w78 : mt_cwd mt_q78 := fun _ => List.mem_of_getElem? (i := 580) rfl
set_option maxRecDepth 100000 in
theorem mt_w79 : mt_cwd mt_q79 := fun _ => List.mem_of_getElem? (i := 583) rfl
set_option maxRecDepth 100000 in
theorem mt_w80 : mt_cwd mt_q80 := fun _ => List.mem_of_getElem? (i := 586) rfl
set_option maxRecDepth 100000 in
theorem mt_w81 : mt_cwd mt_q81 := fun _ => List.mem_of_getElem? (i := 589) rfl
set_option maxRecDepth 100000 in
theorem mt_w82 : mt_cwd mt_q82 := fun _ => List.mem_of_getElem? (i := 593) rfl
set_option maxRecDepth 100000 in
theorem mt_w83 : mt_cwd mt_q83 := fun _ => List.mem_of_getElem? (i := 598) rfl
set_option maxRecDepth 100000 in
theorem mt_w84 : mt_cwd mt_q84 := fun _ => List.mem_of_getElem? (i := 601) rfl
set_option maxRecDepth 100000 in
theorem mt_w85 : mt_cwd mt_q85 := fun _ => List.mem_of_getElem? (i := 607) rfl
set_option maxRecDepth 100000 in
theorem mt_w86 : mt_cwd mt_q86 := fun _ => List.mem_of_getElem? (i := 613) rfl
set_option maxRecDepth 100000 in
theorem mt_w87 : mt_cwd mt_q87 := fun _ => List.mem_of_getElem? (i := 615) rfl
set_option maxRecDepth 100000 in
theorem mt_w88 : mt_cwd mt_q88 := fun _ => List.mem_of_getElem? (i := 619) rfl
set_option maxRecDepth 100000 in
theorem mt_w89 : mt_cwd mt_q89 := fun _ => List.mem_of_getElem? (i := 622) rfl
set_option maxRecDepth 100000 in
theorem mt_w90 : mt_cwd mt_q90 := fun _ => List.mem_of_getElem? (i := 625) rfl
set_option maxRecDepth 100000 in
theorem mt_w91 : mt_cwd mt_q91 := fun _ => List.mem_of_getElem? (i := 628) rfl
set_option maxRecDepth 100000 in
theorem mt_w92 : mt_cwd mt_q92 := fun _ => List.mem_of_getElem? (i := 631) rfl
set_option maxRecDepth 100000 in
theorem mt_w93 : mt_cwd mt_q93 := fun _ => List.mem_of_getElem? (i := 635) rfl
set_option maxRecDepth 100000 in
theorem mt_w94 : mt_cwd mt_q94 := fun _ => List.mem_of_getElem? (i := 649) rfl
set_option maxRecDepth 100000 in
theorem mt_w95 : mt_cwd mt_q95 := fun _ => List.mem_of_getElem? (i := 653) rfl
set_option maxRecDepth 100000 in
theorem mt_w96 : mt_cwd mt_q96 := fun _ => List.mem_of_getElem? (i := 656) rfl
set_option maxRecDepth 100000 in
theorem mt_w97 : mt_cwd mt_q97 := fun _ => List.mem_of_getElem? (i := 659) rfl
set_option maxRecDepth 100000 in
theorem mt_w98 : mt_cwd mt_q98 := fun _ => List.mem_of_getElem? (i := 662) rfl
set_option maxRecDepth 100000 in
theorem mt_w99 : mt_cwd mt_q99 := fun _ => List.mem_of_getElem? (i := 665) rfl
set_option maxRecDepth 100000 in
theorem mt_w100 : mt_cwd mt_q100 := fun _ => List.mem_of_getElem? (i := 670) rfl
set_option maxRecDepth 100000 in
theorem mt_w101 : mt_cwd mt_q101 := fun _ => List.mem_of_getElem? (i := 673) rfl
set_option maxRecDepth 100000 in
theorem mt_w102 : mt_cwd mt_q102 := fun _ => List.mem_of_getElem? (i := 677) rfl
set_option maxRecDepth 100000 in
theorem mt_w103 : mt_cwd mt_q103 := fun _ => List.mem_of_getElem? (i := 680) rfl
set_option maxRecDepth 100000 in
theorem mt_w104 : mt_cwd mt_q104 := fun _ => List.mem_of_getElem? (i := 683) rfl
set_option maxRecDepth 100000 in
theorem mt_w105 : mt_cwd mt_q105 := fun _ => List.mem_of_getElem? (i := 689) rfl
set_option maxRecDepth 100000 in
theorem mt_w106 : mt_cwd mt_q106 := fun _ => List.mem_of_getElem? (i := 693) rfl
set_option maxRecDepth 100000 in
theorem mt_w107 : mt_cwd mt_q107 := fun _ => List.mem_of_getElem? (i := 699) rfl
set_option maxRecDepth 100000 in
theorem mt_w108 : mt_cwd mt_q108 := fun _ => List.mem_of_getElem? (i := 723) rfl
set_option maxRecDepth 100000 in
theorem mt_w109 : mt_cwd mt_q109 := fun _ => List.mem_of_getElem? (i := 726) rfl
set_option maxRecDepth 100000 in
theorem mt_w110 : mt_cwd mt_q110 := fun _ => List.mem_of_getElem? (i := 731) rfl
set_option maxRecDepth 100000 in
theorem mt_w111 : mt_cwd mt_q111 := fun _ => List.mem_of_getElem? (i := 736) rfl
set_option maxRecDepth 100000 in
theorem mt_w112 : mt_cwd mt_q112 := fun _ => List.mem_of_getElem? (i := 739) rfl
set_option maxRecDepth 100000 in
theorem mt_w113 : mt_cwd mt_q113 := fun _ => List.mem_of_getElem? (i := 743) rfl
set_option maxRecDepth 100000 in
theorem mt_w114 : mt_cwd mt_q114 := fun _ => List.mem_of_getElem? (i := 746) rfl
set_option maxRecDepth 100000 in
theorem mt_w115 : mt_cwd mt_q115 := fun _ => List.mem_of_getElem? (i := 751) rfl
set_option maxRecDepth 100000 in
theorem mt_w116 : mt_cwd mt_q116 := fun _ => List.mem_of_getElem? (i := 754) rfl
set_option maxRecDepth 100000 in
theorem mt_w117 : mt_cwd mt_q117 := fun _ => List.mem_of_getElem? (i := 757) rfl
set_option maxRecDepth 100000 in
theorem mt_w118 : mt_cwd mt_q118 := fun _ => List.mem_of_getElem? (i := 762) rfl
set_option maxRecDepth 100000 in
theorem mt_w119 : mt_cwd mt_q119 := fun _ => List.mem_of_getElem? (i := 765) rfl
set_option maxRecDepth 100000 in
theorem mt_w120 : mt_cwd mt_q120 := fun _ => List.mem_of_getElem? (i := 772) rfl
set_option maxRecDepth 100000 in
theorem mt_w121 : mt_cwd mt_q121 := fun _ => List.mem_of_getElem? (i := 805) rfl
set_option maxRecDepth 100000 in
theorem mt_w122 : mt_cwd mt_q122 := fun _ => List.mem_of_getElem? (i := 808) rfl
set_option maxRecDepth 100000 in
theorem mt_w123 : mt_cwd mt_q123 := fun _ => List.mem_of_getElem? (i := 821) rfl
set_option maxRecDepth 100000 in
theorem mt_w124 : mt_cwd mt_q124 := fun _ => List.mem_of_getElem? (i := 824) rfl
set_option maxRecDepth 100000 in
theorem mt_w125 : mt_cwd mt_q125 := fun _ => List.mem_of_getElem? (i := 827) rfl
set_option maxRecDepth 100000 in
theorem mt_w126 : mt_cwd mt_q126 := fun _ => List.mem_of_getElem? (i := 835) rfl
set_option maxRecDepth 100000 in
theorem mt_w127 : mt_cwd mt_q127 := fun _ => List.mem_of_getElem? (i := 840) rfl
set_option maxRecDepth 100000 in
theorem mt_w128 : mt_cwd mt_q128 := fun _ => List.mem_of_getElem? (i := 861) rfl
set_option maxRecDepth 100000 in
theorem mt_w129 : mt_cwd mt_q129 := fun _ => List.mem_of_getElem? (i := 864) rfl
set_option maxRecDepth 100000 in
theorem mt_w130 : mt_cwd mt_q130 := fun _ => List.mem_of_getElem? (i := 867) rfl
set_option maxRecDepth 100000 in
theorem mt_w131 : mt_cwd mt_q131 := fun _ => List.mem_of_getElem? (i := 874) rfl
set_option maxRecDepth 100000 in
theorem mt_w132 : mt_cwd mt_q132 := fun _ => List.mem_of_getElem? (i := 878) rfl
set_option maxRecDepth 100000 in
theorem mt_w133 : mt_cwd mt_q133 := fun _ => List.mem_of_getElem? (i := 882) rfl
set_option maxRecDepth 100000 in
theorem mt_w134 : mt_cwd mt_q134 := fun _ => List.mem_of_getElem? (i := 886) rfl
set_option maxRecDepth 100000 in
theorem mt_w135 : mt_cwd mt_q135 := fun _ => List.mem_of_getElem? (i := 890) rfl
set_option maxRecDepth 100000 in
theorem mt_w136 : mt_cwd mt_q136 := fun _ => List.mem_of_getElem? (i := 909) rfl
set_option maxRecDepth 100000 in
theorem mt_w137 : mt_cwd mt_q137 := fun _ => List.mem_of_getElem? (i := 918) rfl
set_option maxRecDepth 100000 in
theorem mt_w138 : mt_cwd mt_q138 := fun _ => List.mem_of_getElem? (i := 922) rfl
set_option maxRecDepth 100000 in
theorem mt_w139 : mt_cwd mt_q139 := fun _ => List.mem_of_getElem? (i := 926) rfl
set_option maxRecDepth 100000 in
theorem mt_w140 : mt_cwd mt_q140 := fun _ => List.mem_of_getElem? (i := 929) rfl
set_option maxRecDepth 100000 in
theorem mt_w141 : mt_cwd mt_q141 := fun _ => List.mem_of_getElem? (i := 934) rfl
set_option maxRecDepth 100000 in
theorem mt_w142 : mt_cwd mt_q142 := fun _ => List.mem_of_getElem? (i := 939) rfl
set_option maxRecDepth 100000 in
theorem mt_w143 : mt_cwd mt_q143 := fun _ => List.mem_of_getElem? (i := 943) rfl
set_option maxRecDepth 100000 in
theorem mt_w144 : mt_cwd mt_q144 := fun _ => List.mem_of_getElem? (i := 946) rfl
set_option maxRecDepth 100000 in
theorem mt_w145 : mt_cwd mt_q145 := fun _ => List.mem_of_getElem? (i := 950) rfl
set_option maxRecDepth 100000 in
theorem mt_w146 : mt_cwd mt_q146 := fun _ => List.mem_of_getElem? (i := 956) rfl
set_option maxRecDepth 100000 in
theorem mt_w147 : mt_cwd mt_q147 := fun _ => List.mem_of_getElem? (i := 961) rfl
set_option maxRecDepth 100000 in
theorem mt_w148 : mt_cwd mt_q148 := fun _ => List.mem_of_getElem? (i := 967) rfl
set_option maxRecDepth 100000 in
theorem mt_w149 : mt_cwd mt_q149 := fun _ => List.mem_of_getElem? (i := 976) rfl
set_option maxRecDepth 100000 in
theorem mt_w150 : mt_cwd mt_q150 := fun _ => List.mem_of_getElem? (i := 980) rfl
set_option maxRecDepth 100000 in
theorem mt_w151 : mt_cwd mt_q151 := fun _ => List.mem_of_getElem? (i := 984) rfl
set_option maxRecDepth 100000 in
theorem mt_w152 : mt_cwd mt_q152 := fun _ => List.mem_of_getElem? (i := 988) rfl
set_option maxRecDepth 100000 in
theorem mt_w153 : mt_cwd mt_q153 := fun _ => List.mem_of_getElem? (i := 992) rfl
set_option maxRecDepth 100000 in
theorem mt_w154 : mt_cwd mt_q154 := fun _ => List.mem_of_getElem? (i := 996) rfl
set_option maxRecDepth 100000 in
theorem mt_w155 : mt_cwd mt_q155 := fun _ => List.mem_of_getElem? (i := 1003) rfl
set_option maxRecDepth 100000 in
theorem mt_w156 : mt_cwd mt_q156 := fun _ => List.mem_of_getElem? (i := 1007) rfl
set_option maxRecDepth 100000 in
theorem mt_w157 : mt_cwd mt_q157 := fun _ => List.mem_of_getElem? (i := 1010) rfl
set_option maxRecDepth 100000 in
theorem mt_w158 : mt_cwd mt_q158 := fun _ => List.mem_of_getElem? (i := 1017) rfl
set_option maxRecDepth 100000 in
theorem mt_w159 : mt_cwd mt_q159 := fun _ => List.mem_of_getElem? (i := 1020) rfl
set_option maxRecDepth 100000 in
theorem mt_w160 : mt_cwd mt_q160 := fun _ => List.mem_of_getElem? (i := 1043) rfl
set_option maxRecDepth 100000 in
theorem mt_w161 : mt_cwd mt_q161 := fun _ => List.mem_of_getElem? (i := 1047) rfl
set_option maxRecDepth 100000 in
theorem mt_w162 : mt_cwd mt_q162 := fun _ => List.mem_of_getElem? (i := 1052) rfl
set_option maxRecDepth 100000 in
theorem mt_w163 : mt_cwd mt_q163 := fun _ => List.mem_of_getElem? (i := 1058) rfl
set_option maxRecDepth 100000 in
theorem mt_w164 : mt_cwd mt_q164 := fun _ => List.mem_of_getElem? (i := 1061) rfl
set_option maxRecDepth 100000 in
theorem mt_w165 : mt_cwd mt_q165 := fun _ => List.mem_of_getElem? (i := 1066) rfl
set_option maxRecDepth 100000 in
theorem mt_w166 : mt_cwd mt_q166 := fun _ => List.mem_of_getElem? (i := 1089) rfl
set_option maxRecDepth 100000 in
theorem mt_w167 : mt_cwd mt_q167 := fun _ => List.mem_of_getElem? (i := 1095) rfl
set_option maxRecDepth 100000 in
theorem mt_w168 : mt_cwd mt_q168 := fun _ => List.mem_of_getElem? (i := 1103) rfl
set_option maxRecDepth 100000 in
theorem mt_w169 : mt_cwd mt_q169 := fun _ => List.mem_of_getElem? (i := 1106) rfl
set_option maxRecDepth 100000 in
theorem mt_w170 : mt_cwd mt_q170 := fun _ => List.mem_of_getElem? (i := 1109) rfl
set_option maxRecDepth 100000 in
theorem mt_w171 : mt_cwd mt_q171 := fun _ => List.mem_of_getElem? (i := 1125) rfl
set_option maxRecDepth 100000 in
theorem mt_w172 : mt_cwd mt_q172 := fun _ => List.mem_of_getElem? (i := 1133) rfl
set_option maxRecDepth 100000 in
theorem mt_w173 : mt_cwd mt_q173 := fun _ => List.mem_of_getElem? (i := 1140) rfl
set_option maxRecDepth 100000 in
theorem mt_w174 : mt_cwd mt_q174 := fun _ => List.mem_of_getElem? (i := 1145) rfl
set_option maxRecDepth 100000 in
theorem mt_w175 : mt_cwd mt_q175 := fun _ => List.mem_of_getElem? (i := 1151) rfl
set_option maxRecDepth 100000 in
theorem mt_w176 : mt_cwd mt_q176 := fun _ => List.mem_of_getElem? (i := 1155) rfl
set_option maxRecDepth 100000 in
theorem mt_w177 : mt_cwd mt_q177 := fun _ => List.mem_of_getElem? (i := 1158) rfl
set_option maxRecDepth 100000 in
theorem mt_w178 : mt_cwd mt_q178 := fun _ => List.mem_of_getElem? (i := 1162) rfl
set_option maxRecDepth 100000 in
theorem mt_w179 : mt_cwd mt_q179 := fun _ => List.mem_of_getElem? (i := 1169) rfl
set_option maxRecDepth 100000 in
theorem mt_w180 : mt_cwd mt_q180 := fun _ => List.mem_of_getElem? (i := 1173) rfl
set_option maxRecDepth 100000 in
theorem mt_w181 : mt_cwd mt_q181 := fun _ => List.mem_of_getElem? (i := 1177) rfl
set_option maxRecDepth 100000 in
theorem mt_w182 : mt_cwd mt_q182 := fun _ => List.mem_of_getElem? (i := 1181) rfl
set_option maxRecDepth 100000 in
theorem mt_w183 : mt_cwd mt_q183 := fun _ => List.mem_of_getElem? (i := 1187) rfl
set_option maxRecDepth 100000 in
theorem mt_w184 : mt_cwd mt_q184 := fun _ => List.mem_of_getElem? (i := 1193) rfl
set_option maxRecDepth 100000 in
theorem mt_w185 : mt_cwd mt_q185 := fun _ => List.mem_of_getElem? (i := 1197) rfl
set_option maxRecDepth 100000 in
theorem mt_w186 : mt_cwd mt_q186 := fun _ => List.mem_of_getElem? (i := 1205) rfl
set_option maxRecDepth 100000 in
theorem mt_w187 : mt_cwd mt_q187 := fun _ => List.mem_of_getElem? (i := 1210) rfl
set_option maxRecDepth 100000 in
theorem mt_w188 : mt_cwd mt_q188 := fun _ => List.mem_of_getElem? (i := 1214) rfl
set_option maxRecDepth 100000 in
theorem mt_w189 : mt_cwd mt_q189 := fun _ => List.mem_of_getElem? (i := 1218) rfl
set_option maxRecDepth 100000 in
theorem mt_w190 : mt_cwd mt_q190 := fun _ => List.mem_of_getElem? (i := 1224) rfl
set_option maxRecDepth 100000 in
theorem mt_w191 : mt_cwd mt_q191 := fun _ => List.mem_of_getElem? (i := 1227) rfl
set_option maxRecDepth 100000 in
theorem mt_w192 : mt_cwd mt_q192 := fun _ => List.mem_of_getElem? (i := 1231) rfl
set_option maxRecDepth 100000 in
theorem mt_w193 : mt_cwd mt_q193 := fun _ => List.mem_of_getElem? (i := 1235) rfl
set_option maxRecDepth 100000 in
theorem mt_w194 : mt_cwd mt_q194 := fun _ => List.mem_of_getElem? (i := 1241) rfl
set_option maxRecDepth 100000 in
theorem mt_w195 : mt_cwd mt_q195 := fun _ => List.mem_of_getElem? (i := 1246) rfl
set_option maxRecDepth 100000 in
theorem mt_w196 : mt_cwd mt_q196 := fun _ => List.mem_of_getElem? (i := 1250) rfl
set_option maxRecDepth 100000 in
theorem mt_w197 : mt_cwd mt_q197 := fun _ => List.mem_of_getElem? (i := 1254) rfl
set_option maxRecDepth 100000 in
theorem mt_w198 : mt_cwd mt_q198 := fun _ => List.mem_of_getElem? (i := 1259) rfl
set_option maxRecDepth 100000 in
theorem mt_w199 : mt_cwd mt_q199 := fun _ => List.mem_of_getElem? (i := 1265) rfl
set_option maxRecDepth 100000 in
theorem mt_w200 : mt_cwd mt_q200 := fun _ => List.mem_of_getElem? (i := 1271) rfl
set_option maxRecDepth 100000 in
theorem mt_w201 : mt_cwd mt_q201 := fun _ => List.mem_of_getElem? (i := 1276) rfl
set_option maxRecDepth 100000 in
theorem mt_w202 : mt_cwd mt_q202 := fun _ => List.mem_of_getElem? (i := 1285) rfl
set_option maxRecDepth 100000 in
theorem mt_w203 : mt_cwd mt_q203 := fun _ => List.mem_of_getElem? (i := 1288) rfl
set_option maxRecDepth 100000 in
theorem mt_w204 : mt_cwd mt_q204 := fun _ => List.mem_of_getElem? (i := 1292) rfl
set_option maxRecDepth 100000 in
theorem mt_w205 : mt_cwd mt_q205 := fun _ => List.mem_of_getElem? (i := 1297) rfl
set_option maxRecDepth 100000 in
theorem mt_w206 : mt_cwd mt_q206 := fun _ => List.mem_of_getElem? (i := 1302) rfl
set_option maxRecDepth 100000 in
theorem mt_w207 : mt_cwd mt_q207 := fun _ => List.mem_of_getElem? (i := 1306) rfl
set_option maxRecDepth 100000 in
theorem mt_w208 : mt_cwd mt_q208 := fun _ => List.mem_of_getElem? (i := 1310) rfl
set_option maxRecDepth 100000 in
theorem mt_w209 : mt_cwd mt_q209 := fun _ => List.mem_of_getElem? (i := 1315) rfl
set_option maxRecDepth 100000 in
theorem mt_w210 : mt_cwd mt_q210 := fun _ => List.mem_of_getElem? (i := 1319) rfl
set_option maxRecDepth 100000 in
theorem mt_w211 : mt_cwd mt_q211 := fun _ => List.mem_of_getElem? (i := 1323) rfl
set_option maxRecDepth 100000 in
theorem mt_w212 : mt_cwd mt_q212 := fun _ => List.mem_of_getElem? (i := 1327) rfl
set_option maxRecDepth 100000 in
theorem mt_w213 : mt_cwd mt_q213 := fun _ => List.mem_of_getElem? (i := 1331) rfl
set_option maxRecDepth 100000 in
theorem mt_w214 : mt_cwd mt_q214 := fun _ => List.mem_of_getElem? (i := 1336) rfl
set_option maxRecDepth 100000 in
theorem mt_w215 : mt_cwd mt_q215 := fun _ => List.mem_of_getElem? (i := 1340) rfl
set_option maxRecDepth 100000 in
theorem mt_w216 : mt_cwd mt_q216 := fun _ => List.mem_of_getElem? (i := 1345) rfl
set_option maxRecDepth 100000 in
theorem mt_w217 : mt_cwd mt_q217 := fun _ => List.mem_of_getElem? (i := 1348) rfl
set_option maxRecDepth 100000 in
theorem mt_w218 : mt_cwd mt_q218 := fun _ => List.mem_of_getElem? (i := 1352) rfl
set_option maxRecDepth 100000 in
theorem mt_w219 : mt_cwd mt_q219 := fun _ => List.mem_of_getElem? (i := 1355) rfl
set_option maxRecDepth 100000 in
theorem mt_w220 : mt_cwd mt_q220 := fun _ => List.mem_of_getElem? (i := 1360) rfl
set_option maxRecDepth 100000 in
theorem mt_w221 : mt_cwd mt_q221 := fun _ => List.mem_of_getElem? (i := 1364) rfl
set_option maxRecDepth 100000 in
theorem mt_w222 : mt_cwd mt_q222 := fun _ => List.mem_of_getElem? (i := 1369) rfl
set_option maxRecDepth 100000 in
theorem mt_w223 : mt_cwd mt_q223 := fun _ => List.mem_of_getElem? (i := 1376) rfl
set_option maxRecDepth 100000 in
theorem mt_w224 : mt_cwd mt_q224 := fun _ => List.mem_of_getElem? (i := 1380) rfl
set_option maxRecDepth 100000 in
theorem mt_w225 : mt_cwd mt_q225 := fun _ => List.mem_of_getElem? (i := 1383) rfl
set_option maxRecDepth 100000 in
theorem mt_w226 : mt_cwd mt_q226 := fun _ => List.mem_of_getElem? (i := 1386) rfl
set_option maxRecDepth 100000 in
theorem mt_w227 : mt_cwd mt_q227 := fun _ => List.mem_of_getElem? (i := 1389) rfl
set_option maxRecDepth 100000 in
theorem mt_w228 : mt_cwd mt_q228 := fun _ => List.mem_of_getElem? (i := 1396) rfl
set_option maxRecDepth 100000 in
theorem mt_w229 : mt_cwd mt_q229 := fun _ => List.mem_of_getElem? (i := 1399) rfl
set_option maxRecDepth 100000 in
theorem mt_w230 : mt_cwd mt_q230 := fun _ => List.mem_of_getElem? (i := 1406) rfl
set_option maxRecDepth 100000 in
theorem mt_w231 : mt_cwd mt_q231 := fun _ => List.mem_of_getElem? (i := 1411) rfl
set_option maxRecDepth 100000 in
theorem mt_w232 : mt_cwd mt_q232 := fun _ => List.mem_of_getElem? (i := 1416) rfl
set_option maxRecDepth 100000 in
theorem mt_w233 : mt_cwd mt_q233 := fun _ => List.mem_of_getElem? (i := 1423) rfl
set_option maxRecDepth 100000 in
theorem mt_w234 : mt_cwd mt_q234 := fun _ => List.mem_of_getElem? (i := 1427) rfl
set_option maxRecDepth 100000 in
theorem mt_w235 : mt_cwd mt_q235 := fun _ => List.mem_of_getElem? (i := 1430) rfl
set_option maxRecDepth 100000 in
theorem mt_w236 : mt_cwd mt_q236 := fun _ => List.mem_of_getElem? (i := 1438) rfl
set_option maxRecDepth 100000 in
theorem mt_w237 : mt_cwd mt_q237 := fun _ => List.mem_of_getElem? (i := 1566) rfl
set_option maxRecDepth 100000 in
theorem mt_w238 : mt_cwd mt_q238 := fun _ => List.mem_of_getElem? (i := 1570) rfl
set_option maxRecDepth 100000 in
theorem mt_w239 : mt_cwd mt_q239 := fun _ => List.mem_of_getElem? (i := 1574) rfl
set_option maxRecDepth 100000 in
theorem mt_w240 : mt_cwd mt_q240 := fun _ => List.mem_of_getElem? (i := 1578) rfl
set_option maxRecDepth 100000 in
theorem mt_w241 : mt_cwd mt_q241 := fun _ => List.mem_of_getElem? (i := 1582) rfl
set_option maxRecDepth 100000 in
theorem mt_w242 : mt_cwd mt_q242 := fun _ => List.mem_of_getElem? (i := 1585) rfl
set_option maxRecDepth 100000 in
theorem mt_w243 : mt_cwd mt_q243 := fun _ => List.mem_of_getElem? (i := 1588) rfl
set_option maxRecDepth 100000 in
theorem mt_w244 : mt_cwd mt_q244 := fun _ => List.mem_of_getElem? (i := 1591) rfl
set_option maxRecDepth 100000 in
theorem mt_w245 : mt_cwd mt_q245 := fun _ => List.mem_of_getElem? (i := 1595) rfl
set_option maxRecDepth 100000 in
theorem mt_w246 : mt_cwd mt_q246 := fun _ => List.mem_of_getElem? (i := 1602) rfl
set_option maxRecDepth 100000 in
theorem mt_w247 : mt_cwd mt_q247 := fun _ => List.mem_of_getElem? (i := 1608) rfl
set_option maxRecDepth 100000 in
theorem mt_w248 : mt_cwd mt_q248 := fun _ => List.mem_of_getElem? (i := 1611) rfl
set_option maxRecDepth 100000 in
theorem mt_w249 : mt_cwd mt_q249 := fun _ => List.mem_of_getElem? (i := 1615) rfl
set_option maxRecDepth 100000 in
theorem mt_w250 : mt_cwd mt_q250 := fun _ => List.mem_of_getElem? (i := 1619) rfl
set_option maxRecDepth 100000 in
theorem mt_w251 : mt_cwd mt_q251 := fun _ => List.mem_of_getElem? (i := 1623) rfl
set_option maxRecDepth 100000 in
theorem mt_w252 : mt_cwd mt_q252 := fun _ => List.mem_of_getElem? (i := 1627) rfl
set_option maxRecDepth 100000 in
theorem mt_w253 : mt_cwd mt_q253 := fun _ => List.mem_of_getElem? (i := 1631) rfl
set_option maxRecDepth 100000 in
theorem mt_w254 : mt_cwd mt_q254 := fun _ => List.mem_of_getElem? (i := 1636) rfl
set_option maxRecDepth 100000 in
theorem mt_w255 : mt_cwd mt_q255 := fun _ => List.mem_of_getElem? (i := 1641) rfl
set_option maxRecDepth 100000 in
theorem mt_w256 : mt_cwd mt_q256 := fun _ => List.mem_of_getElem? (i := 1645) rfl
set_option maxRecDepth 100000 in
theorem mt_w257 : mt_cwd mt_q257 := fun _ => List.mem_of_getElem? (i := 1649) rfl
set_option maxRecDepth 100000 in
theorem mt_w258 : mt_cwd mt_q258 := fun _ => List.mem_of_getElem? (i := 1653) rfl
set_option maxRecDepth 100000 in
theorem mt_w259 : mt_cwd mt_q259 := fun _ => List.mem_of_getElem? (i := 1657) rfl
set_option maxRecDepth 100000 in
theorem mt_w260 : mt_cwd mt_q260 := fun _ => List.mem_of_getElem? (i := 1661) rfl
set_option maxRecDepth 100000 in
theorem mt_w261 : mt_cwd mt_q261 := fun _ => List.mem_of_getElem? (i := 1665) rfl
set_option maxRecDepth 100000 in
theorem mt_w262 : mt_cwd mt_q262 := fun _ => List.mem_of_getElem? (i := 1669) rfl
set_option maxRecDepth 100000 in
theorem mt_w263 : mt_cwd mt_q263 := fun _ => List.mem_of_getElem? (i := 1676) rfl
set_option maxRecDepth 100000 in
theorem mt_w264 : mt_cwd mt_q264 := fun _ => List.mem_of_getElem? (i := 1683) rfl
set_option maxRecDepth 100000 in
theorem mt_w265 : mt_cwd mt_q265 := fun _ => List.mem_of_getElem? (i := 1687) rfl
set_option maxRecDepth 100000 in
theorem mt_w266 : mt_cwd mt_q266 := fun _ => List.mem_of_getElem? (i := 1691) rfl
set_option maxRecDepth 100000 in
theorem mt_w267 : mt_cwd mt_q267 := fun _ => List.mem_of_getElem? (i := 1696) rfl
set_option maxRecDepth 100000 in
theorem mt_w268 : mt_cwd mt_q268 := fun _ => List.mem_of_getElem? (i := 1701) rfl
set_option maxRecDepth 100000 in
theorem mt_w269 : mt_cwd mt_q269 := fun _ => List.mem_of_getElem? (i := 1705) rfl
set_option maxRecDepth 100000 in
theorem mt_w270 : mt_cwd mt_q270 := fun _ => List.mem_of_getElem? (i := 1709) rfl
set_option maxRecDepth 100000 in
theorem mt_w271 : mt_cwd mt_q271 := fun _ => List.mem_of_getElem? (i := 1713) rfl
set_option maxRecDepth 100000 in
theorem mt_w272 : mt_cwd mt_q272 := fun _ => List.mem_of_getElem? (i := 1717) rfl
set_option maxRecDepth 100000 in
theorem mt_w273 : mt_cwd mt_q273 := fun _ => List.mem_of_getElem? (i := 1721) rfl
set_option maxRecDepth 100000 in
theorem mt_w274 : mt_cwd mt_q274 := fun _ => List.mem_of_getElem? (i := 1725) rfl
set_option maxRecDepth 100000 in
theorem mt_w275 : mt_cwd mt_q275 := fun _ => List.mem_of_getElem? (i := 1729) rfl
set_option maxRecDepth 100000 in
theorem mt_w276 : mt_cwd mt_q276 := fun _ => List.mem_of_getElem? (i := 1733) rfl
set_option maxRecDepth 100000 in
theorem mt_w277 : mt_cwd mt_q277 := fun _ => List.mem_of_getElem? (i := 1737) rfl
set_option maxRecDepth 100000 in
theorem mt_w278 : mt_cwd mt_q278 := fun _ => List.mem_of_getElem? (i := 1741) rfl
set_option maxRecDepth 100000 in
theorem mt_w279 : mt_cwd mt_q279 := fun _ => List.mem_of_getElem? (i := 1745) rfl
set_option maxRecDepth 100000 in
theorem mt_w280 : mt_cwd mt_q280 := fun _ => List.mem_of_getElem? (i := 1749) rfl
set_option maxRecDepth 100000 in
theorem mt_w281 : mt_cwd mt_q281 := fun _ => List.mem_of_getElem? (i := 1753) rfl
set_option maxRecDepth 100000 in
theorem mt_w282 : mt_cwd mt_q282 := fun _ => List.mem_of_getElem? (i := 1757) rfl
set_option maxRecDepth 100000 in
theorem mt_w283 : mt_cwd mt_q283 := fun _ => List.mem_of_getElem? (i := 1761) rfl
set_option maxRecDepth 100000 in
theorem mt_w284 : mt_cwd mt_q284 := fun _ => List.mem_of_getElem? (i := 1765) rfl
set_option maxRecDepth 100000 in
theorem mt_w285 : mt_cwd mt_q285 := fun _ => List.mem_of_getElem? (i := 1769) rfl
set_option maxRecDepth 100000 in
theorem mt_w286 : mt_cwd mt_q286 := fun _ => List.mem_of_getElem? (i := 1773) rfl
set_option maxRecDepth 100000 in
theorem mt_w287 : mt_cwd mt_q287 := fun _ => List.mem_of_getElem? (i := 1777) rfl
set_option maxRecDepth 100000 in
theorem mt_w288 : mt_cwd mt_q288 := fun _ => List.mem_of_getElem? (i := 1781) rfl
set_option maxRecDepth 100000 in
theorem mt_w289 : mt_cwd mt_q289 := fun _ => List.mem_of_getElem? (i := 1785) rfl
set_option maxRecDepth 100000 in
theorem mt_w290 : mt_cwd mt_q290 := fun _ => List.mem_of_getElem? (i := 1789) rfl
set_option maxRecDepth 100000 in
theorem mt_w291 : mt_cwd mt_q291 := fun _ => List.mem_of_getElem? (i := 1793) rfl
set_option maxRecDepth 100000 in
theorem mt_w292 : mt_cwd mt_q292 := fun _ => List.mem_of_getElem? (i := 1797) rfl
set_option maxRecDepth 100000 in
theorem mt_w293 : mt_cwd mt_q293 := fun _ => List.mem_of_getElem? (i := 1801) rfl
set_option maxRecDepth 100000 in
theorem mt_w294 : mt_cwd mt_q294 := fun _ => List.mem_of_getElem? (i := 1806) rfl
set_option maxRecDepth 100000 in
theorem mt_w295 : mt_cwd mt_q295 := fun _ => List.mem_of_getElem? (i := 1810) rfl
set_option maxRecDepth 100000 in
theorem mt_w296 : mt_cwd mt_q296 := fun _ => List.mem_of_getElem? (i := 1814) rfl
set_option maxRecDepth 100000 in
theorem mt_w297 : mt_cwd mt_q297 := fun _ => List.mem_of_getElem? (i := 1818) rfl
set_option maxRecDepth 100000 in
theorem mt_w298 : mt_cwd mt_q298 := fun _ => List.mem_of_getElem? (i := 1828) rfl
set_option maxRecDepth 100000 in
theorem mt_w299 : mt_cwd mt_q299 := fun _ => List.mem_of_getElem? (i := 1837) rfl
set_option maxRecDepth 100000 in
theorem mt_w300 : mt_cwd mt_q300 := fun _ => List.mem_of_getElem? (i := 1841) rfl
set_option maxRecDepth 100000 in
theorem mt_w301 : mt_cwd mt_q301 := fun _ => List.mem_of_getElem? (i := 1845) rfl
set_option maxRecDepth 100000 in
theorem mt_w302 : mt_cwd mt_q302 := fun _ => List.mem_of_getElem? (i := 1849) rfl
set_option maxRecDepth 100000 in
theorem mt_w303 : mt_cwd mt_q303 := fun _ => List.mem_of_getElem? (i := 1853) rfl
set_option maxRecDepth 100000 in
theorem mt_w304 : mt_cwd mt_q304 := fun _ => List.mem_of_getElem? (i := 1857) rfl
set_option maxRecDepth 100000 in
theorem mt_w305 : mt_cwd mt_q305 := fun _ => List.mem_of_getElem? (i := 1861) rfl
set_option maxRecDepth 100000 in
theorem mt_w306 : mt_cwd mt_q306 := fun _ => List.mem_of_getElem? (i := 1865) rfl
set_option maxRecDepth 100000 in
theorem mt_w307 : mt_cwd mt_q307 := fun _ => List.mem_of_getElem? (i := 1869) rfl
set_option maxRecDepth 100000 in
theorem mt_w308 : mt_cwd mt_q308 := fun _ => List.mem_of_getElem? (i := 1873) rfl
set_option maxRecDepth 100000 in
theorem mt_w309 : mt_cwd mt_q309 := fun _ => List.mem_of_getElem? (i := 1877) rfl
set_option maxRecDepth 100000 in
theorem mt_w310 : mt_cwd mt_q310 := fun _ => List.mem_of_getElem? (i := 1881) rfl
set_option maxRecDepth 100000 in
theorem mt_w311 : mt_cwd mt_q311 := fun _ => List.mem_of_getElem? (i := 1885) rfl
set_option maxRecDepth 100000 in
theorem mt_w312 : mt_cwd mt_q312 := fun _ => List.mem_of_getElem? (i := 1889) rfl
set_option maxRecDepth 100000 in
theorem mt_w313 : mt_cwd mt_q313 := fun _ => List.mem_of_getElem? (i := 1893) rfl
set_option maxRecDepth 100000 in
theorem mt_w314 : mt_cwd mt_q314 := fun _ => List.mem_of_getElem? (i := 1897) rfl
set_option maxRecDepth 100000 in
theorem mt_w315 : mt_cwd mt_q315 := fun _ => List.mem_of_getElem? (i := 1901) rfl
set_option maxRecDepth 100000 in
theorem mt_w316 : mt_cwd mt_q316 := fun _ => List.mem_of_getElem? (i := 1905) rfl
set_option maxRecDepth 100000 in
theorem mt_w317 : mt_cwd mt_q317 := fun _ => List.mem_of_getElem? (i := 1909) rfl
set_option maxRecDepth 100000 in
theorem mt_w318 : mt_cwd mt_q318 := fun _ => List.mem_of_getElem? (i := 1913) rfl
set_option maxRecDepth 100000 in
theorem mt_w319 : mt_cwd mt_q319 := fun _ => List.mem_of_getElem? (i := 1917) rfl
set_option maxRecDepth 100000 in
theorem mt_w320 : mt_cwd mt_q320 := fun _ => List.mem_of_getElem? (i := 1921) rfl
set_option maxRecDepth 100000 in
theorem mt_w321 : mt_cwd mt_q321 := fun _ => List.mem_of_getElem? (i := 1925) rfl
set_option maxRecDepth 100000 in
theorem mt_w322 : mt_cwd mt_q322 := fun _ => List.mem_of_getElem? (i := 1929) rfl
set_option maxRecDepth 100000 in
theorem mt_w323 : mt_cwd mt_q323 := fun _ => List.mem_of_getElem? (i := 1933) rfl
set_option maxRecDepth 100000 in
theorem mt_w324 : mt_cwd mt_q324 := fun _ => List.mem_of_getElem? (i := 1937) rfl
set_option maxRecDepth 100000 in
theorem mt_w325 : mt_cwd mt_q325 := fun _ => List.mem_of_getElem? (i := 1941) rfl
set_option maxRecDepth 100000 in
theorem mt_w326 : mt_cwd mt_q326 := fun _ => List.mem_of_getElem? (i := 1945) rfl
set_option maxRecDepth 100000 in
theorem mt_w327 : mt_cwd mt_q327 := fun _ => List.mem_of_getElem? (i := 1949) rfl
set_option maxRecDepth 100000 in
theorem mt_w328 : mt_cwd mt_q328 := fun _ => List.mem_of_getElem? (i := 1953) rfl
set_option maxRecDepth 100000 in
theorem mt_w329 : mt_cwd mt_q329 := fun _ => List.mem_of_getElem? (i := 1957) rfl
set_option maxRecDepth 100000 in
theorem mt_w330 : mt_cwd mt_q330 := fun _ => List.mem_of_getElem? (i := 1961) rfl
set_option maxRecDepth 100000 in
theorem mt_w331 : mt_cwd mt_q331 := fun _ => List.mem_of_getElem? (i := 1965) rfl
set_option maxRecDepth 100000 in
theorem mt_w332 : mt_cwd mt_q332 := fun _ => List.mem_of_getElem? (i := 1969) rfl
set_option maxRecDepth 100000 in
theorem mt_w333 : mt_cwd mt_q333 := fun _ => List.mem_of_getElem? (i := 1973) rfl
set_option maxRecDepth 100000 in
theorem mt_w334 : mt_cwd mt_q334 := fun _ => List.mem_of_getElem? (i := 1977) rfl
set_option maxRecDepth 100000 in
theorem mt_w335 : mt_cwd mt_q335 := fun _ => List.mem_of_getElem? (i := 1981) rfl
set_option maxRecDepth 100000 in
theorem mt_w336 : mt_cwd mt_q336 := fun _ => List.mem_of_getElem? (i := 1985) rfl
set_option maxRecDepth 100000 in
theorem mt_w337 : mt_cwd mt_q337 := fun _ => List.mem_of_getElem? (i := 1989) rfl
set_option maxRecDepth 100000 in
theorem mt_w338 : mt_cwd mt_q338 := fun _ => List.mem_of_getElem? (i := 1993) rfl
theorem mt_wk0 : ∀ q ∈ mt_qk0, mt_cwd q := List.forall_mem_cons.mpr ⟨mt_w0, List.forall_mem_cons.mpr ⟨mt_w1, List.forall_mem_cons.mpr ⟨mt_w2, List.forall_mem_cons.mpr ⟨mt_w3, List.forall_mem_cons.mpr ⟨mt_w4, List.forall_mem_cons.mpr ⟨mt_w5, List.forall_mem_cons.mpr ⟨mt_w6, List.forall_mem_cons.mpr ⟨mt_w7, List.forall_mem_cons.mpr ⟨mt_w8, List.forall_mem_cons.mpr ⟨mt_w9, List.forall_mem_cons.mpr ⟨mt_w10, List.forall_mem_cons.mpr ⟨mt_w11, List.forall_mem_cons.mpr ⟨mt_w12, List.forall_mem_cons.mpr ⟨mt_w13, List.forall_mem_cons.mpr ⟨mt_w14, List.forall_mem_cons.mpr ⟨mt_w15, fun _ h => absurd h List.not_mem_nil⟩⟩⟩⟩⟩⟩⟩⟩⟩⟩⟩⟩⟩⟩⟩⟩
theorem mt_wk1 : ∀ q ∈ mt_qk1, mt_cwd q := List.forall_mem_cons.mpr ⟨mt_w16, List.forall_mem_cons.mpr ⟨mt_w17, List.forall_mem_cons.mpr ⟨mt_w18, List.forall_mem_cons.mpr ⟨mt_w19, List.forall_mem_cons.mpr ⟨mt_w20, List.forall_mem_cons.mpr ⟨mt_w21, List.forall_mem_cons.mpr ⟨mt_w22, List.forall_mem_cons.mpr ⟨mt_w23, List.forall_mem_cons.mpr ⟨mt_w24, List.forall_mem_cons.mpr ⟨mt_w25, List.forall_mem_cons.mpr ⟨mt_w26, List.forall_mem_cons.mpr ⟨mt_w27, List.forall_mem_cons.mpr ⟨mt_w28, List.forall_mem_cons.mpr ⟨mt_w29, List.forall_mem_cons.mpr ⟨mt_w30, List.forall_mem_cons.mpr ⟨mt_w31, fun _ h => absurd h List.not_mem_nil⟩⟩⟩⟩⟩⟩⟩⟩⟩⟩⟩⟩⟩⟩⟩⟩
theorem mt_wk2 : ∀ q ∈ mt_qk2, mt_cwd q := List.forall_mem_cons.mpr ⟨mt_w32, List.forall_mem_cons.mpr ⟨mt_w33, List.forall_mem_cons.mpr ⟨mt_w34, List.forall_mem_cons.mpr ⟨mt_w35, List.forall_mem_cons.mpr ⟨mt_w36, List.forall_mem_cons.mpr ⟨mt_w37, List.forall_mem_cons.mpr ⟨mt_w38, List.forall_mem_cons.mpr ⟨mt_w39, List.forall_mem_cons.mpr ⟨mt_w40, List.forall_mem_cons.mpr ⟨mt_w41, List.forall_mem_cons.mpr ⟨mt_w42, List.forall_mem_cons.mpr ⟨mt_w43, List.forall_mem_cons.mpr ⟨mt_w44, List.forall_mem_cons.mpr ⟨mt_w45, List.forall_mem_cons.mpr ⟨mt_w46, List.forall_mem_cons.mpr ⟨mt_w47, fun _ h => absurd h List.not_mem_nil⟩⟩⟩⟩⟩⟩⟩⟩⟩⟩⟩⟩⟩⟩⟩⟩
theorem mt_wk3 : ∀ q ∈ mt_qk3, mt_cwd q := List.forall_mem_cons.mpr ⟨mt_w48, List.forall_mem_cons.mpr ⟨mt_w49, List.forall_mem_cons.mpr ⟨mt_w50, List.forall_mem_cons.mpr ⟨mt_w51, List.forall_mem_cons.mpr ⟨mt_w52, List.forall_mem_cons.mpr ⟨mt_w53, List.forall_mem_cons.mpr ⟨mt_w54, List.forall_mem_cons.mpr ⟨mt_w55, List.forall_mem_cons.mpr ⟨mt_w56, List.forall_mem_cons.mpr ⟨mt_w57, List.forall_mem_cons.mpr ⟨mt_w58, List.forall_mem_cons.mpr ⟨mt_w59, List.forall_mem_cons.mpr ⟨mt_w60, List.forall_mem_cons.mpr ⟨mt_w61, List.forall_mem_cons.mpr ⟨mt_w62, List.forall_mem_cons.mpr ⟨mt_w63, fun _ h => absurd h List.not_mem_nil⟩⟩⟩⟩⟩⟩⟩⟩⟩⟩⟩⟩⟩⟩⟩⟩
theorem mt_wk4 : ∀ q ∈ mt_qk4, mt_cwd q := List.forall_mem_cons.mpr ⟨mt_w64, List.forall_mem_cons.mpr ⟨mt_w65, List.forall_mem_cons.mpr ⟨mt_w66, List.forall_mem_cons.mpr ⟨mt_w67, List.forall_mem_cons.mpr ⟨mt_w68, List.forall_mem_cons.mpr ⟨mt_w69, List.forall_mem_cons.mpr ⟨mt_w70, List.forall_mem_cons.mpr ⟨mt_w71, List.forall_mem_cons.mpr ⟨mt_w72, List.forall_mem_cons.mpr ⟨mt_w73, List.forall_mem_cons.mpr ⟨mt_w74, List.forall_mem_cons.mpr ⟨mt_w75, List.forall_mem_cons.mpr ⟨mt_w76, List.forall_mem_cons.mpr ⟨mt_w77, List.forall_mem_cons.mpr ⟨mt_w78, List.forall_mem_cons.mpr ⟨mt_w79, fun _ h => absurd h List.not_mem_nil⟩⟩⟩⟩⟩⟩⟩⟩⟩⟩⟩⟩⟩⟩⟩⟩
theorem mt_wk5 : ∀ q ∈ mt_qk5, mt_cwd q := List.forall_mem_cons.mpr ⟨mt_w80, List.forall_mem_cons.mpr ⟨mt_w81, List.forall_mem_cons.mpr ⟨mt_w82, List.forall_mem_cons.mpr ⟨mt_w83, List.forall_mem_cons.mpr ⟨mt_w84, List.forall_mem_cons.mpr ⟨mt_w85, List.forall_mem_cons.mpr ⟨mt_w86, List.forall_mem_cons.mpr ⟨mt_w87, List.forall_mem_cons.mpr ⟨mt_w88, List.forall_mem_cons.mpr ⟨mt_w89, List.forall_mem_cons.mpr ⟨mt_w90, List.forall_mem_cons.mpr ⟨mt_w91, List.forall_mem_cons.mpr ⟨mt_w92, List.forall_mem_cons.mpr ⟨mt_w93, List.forall_mem_cons.mpr ⟨mt_w94, List.forall_mem_cons.mpr ⟨mt_w95, fun _ h => absurd h List.not_mem_nil⟩⟩⟩⟩⟩⟩⟩⟩⟩⟩⟩⟩⟩⟩⟩⟩
theorem mt_wk6 : ∀ q ∈ mt_qk6, mt_cwd q := List.forall_mem_cons.mpr ⟨mt_w96, List.forall_mem_cons.mpr ⟨mt_w97, List.forall_mem_cons.mpr ⟨mt_w98, List.forall_mem_cons.mpr ⟨mt_w99, List.forall_mem_cons.mpr ⟨mt_w100, List.forall_mem_cons.mpr ⟨mt_w101, List.forall_mem_cons.mpr ⟨mt_w102, List.forall_mem_cons.mpr ⟨mt_w103, List.forall_mem_cons.mpr ⟨mt_w104, List.forall_mem_cons.mpr ⟨mt_w105, List.forall_mem_cons.mpr ⟨mt_w106, List.forall_mem_cons.mpr ⟨mt_w107, List.forall_mem_cons.mpr ⟨mt_w108, List.forall_mem_cons.mpr ⟨mt_w109, List.forall_mem_cons.mpr ⟨mt_w110, List.forall_mem_cons.mpr ⟨mt_w111, fun _ h => absurd h List.not_mem_nil⟩⟩⟩⟩⟩⟩⟩⟩⟩⟩⟩⟩⟩⟩⟩⟩
theorem mt_wk7 : ∀ q ∈ mt_qk7, mt_cwd q := List.forall_mem_cons.mpr ⟨mt_w112, List.forall_mem_cons.mpr ⟨mt_w113, List.forall_mem_cons.mpr ⟨mt_w114, List.forall_mem_cons.mpr ⟨mt_w115, List.forall_mem_cons.mpr ⟨mt_w116, List.forall_mem_cons.mpr ⟨mt_w117, List.forall_mem_cons.mpr ⟨mt_w118, List.forall_mem_cons.mpr ⟨mt_w119, List.forall_mem_cons.mpr ⟨mt_w120, List.forall_mem_cons.mpr ⟨mt_w121, List.forall_mem_cons.mpr ⟨mt_w122, List.forall_mem_cons.mpr ⟨mt_w123, List.forall_mem_cons.mpr ⟨mt_w124, List.forall_mem_cons.mpr ⟨mt_w125, List.forall_mem_cons.mpr ⟨mt_w126, List.forall_mem_cons.mpr ⟨mt_w127, fun _ h => absurd h List.not_mem_nil⟩⟩⟩⟩⟩⟩⟩⟩⟩⟩⟩⟩⟩⟩⟩⟩
theorem mt_wk8 : ∀ q ∈ mt_qk8, mt_cwd q := List.forall_mem_cons.mpr ⟨mt_w128, List.forall_mem_cons.mpr ⟨mt_w129, List.forall_mem_cons.mpr ⟨mt_w130, List.forall_mem_cons.mpr ⟨mt_w131, List.forall_mem_cons.mpr ⟨mt_w132, List.forall_mem_cons.mpr ⟨mt_w133, List.forall_mem_cons.mpr ⟨mt_w134, List.forall_mem_cons.mpr ⟨mt_w135, List.forall_mem_cons.mpr ⟨mt_w136, List.forall_mem_cons.mpr ⟨mt_w137, List.forall_mem_cons.mpr ⟨mt_w138, List.forall_mem_cons.mpr ⟨mt_w139, List.forall_mem_cons.mpr ⟨mt_w140, List.forall_mem_cons.mpr ⟨mt_w141, List.forall_mem_cons.mpr ⟨mt_w142, List.forall_mem_cons.mpr ⟨mt_w143, fun _ h => absurd h List.not_mem_nil⟩⟩⟩⟩⟩⟩⟩⟩⟩⟩⟩⟩⟩⟩⟩⟩
theorem mt_wk9 : ∀ q ∈ mt_qk9, mt_cwd q := List.forall_mem_cons.mpr ⟨mt_w144, List.forall_mem_cons.mpr ⟨mt_w145, List.forall_mem_cons.mpr ⟨mt_w146, List.forall_mem_cons.mpr ⟨mt_w147, List.forall_mem_cons.mpr ⟨mt_w148, List.forall_mem_cons.mpr ⟨mt_w149, List.forall_mem_cons.mpr ⟨mt_w150, List.forall_mem_cons.mpr ⟨mt_w151, List.forall_mem_cons.mpr ⟨mt_w152, List.forall_mem_cons.mpr ⟨mt_w153, List.forall_mem_cons.mpr ⟨mt_w154, List.forall_mem_cons.mpr ⟨mt_w155, List.forall_mem_cons.mpr ⟨mt_w156, List.forall_mem_cons.mpr ⟨mt_w157, List.forall_mem_cons.mpr ⟨mt_w158, List.forall_mem_cons.mpr ⟨mt_w159, fun _ h => absurd h List.not_mem_nil⟩⟩⟩⟩⟩⟩⟩⟩⟩⟩⟩⟩⟩⟩⟩⟩
theorem mt_wk10 : ∀ q ∈ mt_qk10, mt_cwd q := List.forall_mem_cons.mpr ⟨mt_w160, List.forall_mem_cons.mpr ⟨mt_w161, List.forall_mem_cons.mpr ⟨mt_w162, List.forall_mem_cons.mpr ⟨mt_w163, List.forall_mem_cons.mpr ⟨mt_w164, List.forall_mem_cons.mpr ⟨mt_w165, List.forall_mem_cons.mpr ⟨mt_w166, List.forall_mem_cons.mpr ⟨mt_w167, List.forall_mem_cons.mpr ⟨mt_w168, List.forall_mem_cons.mpr ⟨mt_w169, List.forall_mem_cons.mpr ⟨mt_w170, List.forall_mem_cons.mpr ⟨mt_w171, List.forall_mem_cons.mpr ⟨mt_w172, List.forall_mem_cons.mpr ⟨mt_w173, List.forall_mem_cons.mpr ⟨mt_w174, List.forall_mem_cons.mpr ⟨mt_w175, fun _ h => absurd h List.not_mem_nil⟩⟩⟩⟩⟩⟩⟩⟩⟩⟩⟩⟩⟩⟩⟩⟩
theorem mt_wk11 : ∀ q ∈ mt_qk11, mt_cwd q := List.forall_mem_cons.mpr ⟨mt_w176, List.forall_mem_cons.mpr ⟨mt_w177, List.forall_mem_cons.mpr ⟨mt_w178, List.forall_mem_cons.mpr ⟨mt_w179, List.forall_mem_cons.mpr ⟨mt_w180, List.forall_mem_cons.mpr ⟨mt_w181, List.forall_mem_cons.mpr ⟨mt_w182, List.forall_mem_cons.mpr ⟨mt_w183, List.forall_mem_cons.mpr ⟨mt_w184, List.forall_mem_cons.mpr ⟨mt_w185, List.forall_mem_cons.mpr ⟨mt_w186, List.forall_mem_cons.mpr ⟨mt_w187, List.forall_mem_cons.mpr ⟨mt_w188, List.forall_mem_cons.mpr ⟨mt_w189, List.forall_mem_cons.mpr ⟨mt_w190, List.forall_mem_cons.mpr ⟨mt_w191, fun _ h => absurd h List.not_mem_nil⟩⟩⟩⟩⟩⟩⟩⟩⟩⟩⟩⟩⟩⟩⟩⟩
theorem mt_wk12 : ∀ q ∈ mt_qk12, mt_cwd q := List.forall_mem_cons.mpr ⟨mt_w192, List.forall_mem_cons.mpr ⟨mt_w193, List.forall_mem_cons.mpr ⟨mt_w194, List.forall_mem_cons.mpr ⟨mt_w195, List.forall_mem_cons.mpr ⟨mt_w196, List.forall_mem_cons.mpr ⟨mt_w197, List.forall_mem_cons.mpr ⟨mt_w198, List.forall_mem_cons.mpr ⟨mt_w199, List.forall_mem_cons.mpr ⟨mt_w200, List.forall_mem_cons.mpr ⟨mt_w201, List.forall_mem_cons.mpr ⟨mt_w202, List.forall_mem_cons.mpr ⟨mt_w203, List.forall_mem_cons.mpr ⟨mt_w204, List.forall_mem_cons.mpr ⟨mt_w205, List.forall_mem_cons.mpr ⟨mt_w206, List.forall_mem_cons.mpr ⟨mt_w207, fun _ h => absurd h List.not_mem_nil⟩⟩⟩⟩⟩⟩⟩⟩⟩⟩⟩⟩⟩⟩⟩⟩
theorem mt_wk13 : ∀ q ∈ mt_qk13, mt_cwd q := List.forall_mem_cons.mpr ⟨mt_w208, List.forall_mem_cons.mpr ⟨mt_w209, List.forall_mem_cons.mpr ⟨mt_w210, List.forall_mem_cons.mpr ⟨mt_w211, List.forall_mem_cons.mpr ⟨mt_w212, List.forall_mem_cons.mpr ⟨mt_w213, List.forall_mem_cons.mpr ⟨mt_w214, List.forall_mem_cons.mpr ⟨mt_w215, List.forall_mem_cons.mpr ⟨mt_w216, List.forall_mem_cons.mpr ⟨mt_w217, List.forall_mem_cons.mpr ⟨mt_w218, List.forall_mem_cons.mpr ⟨mt_w219, List.forall_mem_cons.mpr ⟨mt_w220, List.forall_mem_cons.mpr ⟨mt_w221, List.forall_mem_cons.mpr ⟨mt_w222, List.forall_mem_cons.mpr ⟨mt_w223, fun _ h => absurd h List.not_mem_nil⟩⟩⟩⟩⟩⟩⟩⟩⟩⟩⟩⟩⟩⟩⟩⟩
theorem mt_wk14 : ∀ q ∈ mt_qk14, mt_cwd q := List.forall_mem_cons.mpr ⟨mt_w224, List.forall_mem_cons.mpr ⟨mt_w225, List.forall_mem_cons.mpr ⟨mt_w226, List.forall_mem_cons.mpr ⟨mt_w227, List.forall_mem_cons.mpr ⟨mt_w228, List.forall_mem_cons.mpr ⟨mt_w229, List.forall_mem_cons.mpr ⟨mt_w230, List.forall_mem_cons.mpr ⟨mt_w231, List.forall_mem_cons.mpr ⟨mt_w232, List.forall_mem_cons.mpr ⟨mt_w233, List.forall_mem_cons.mpr ⟨mt_w234, List.forall_mem_cons.mpr ⟨mt_w235, List.forall_mem_cons.mpr ⟨mt_w236, List.forall_mem_cons.mpr ⟨mt_w237, List.forall_mem_cons.mpr ⟨mt_w238, List.forall_mem_cons.mpr ⟨mt_w239, fun _ h => absurd h List.not_mem_nil⟩⟩⟩⟩⟩⟩⟩⟩⟩⟩⟩⟩⟩⟩⟩⟩
theorem mt_wk15 : ∀ q ∈ mt_qk15, mt_cwd q := List.forall_mem_cons.mpr ⟨mt_w240, List.forall_mem_cons.mpr ⟨mt_w241, List.forall_mem_cons.mpr ⟨mt_w242, List.forall_mem_cons.mpr ⟨mt_w243, List.forall_mem_cons.mpr ⟨mt_w244, List.forall_mem_cons.mpr ⟨mt_w245, List.forall_mem_cons.mpr ⟨mt_w246, List.forall_mem_cons.mpr ⟨mt_w247, List.forall_mem_cons.mpr ⟨mt_w248, List.forall_mem_cons.mpr ⟨mt_w249, List.forall_mem_cons.mpr ⟨mt_w250, List.forall_mem_cons.mpr ⟨mt_w251, List.forall_mem_cons.mpr ⟨mt_w252, List.forall_mem_cons.mpr ⟨mt_w253, List.forall_mem_cons.mpr ⟨mt_w254, List.forall_mem_cons.mpr ⟨mt_w255, fun _ h => absurd h List.not_mem_nil⟩⟩⟩⟩⟩⟩⟩⟩⟩⟩⟩⟩⟩⟩⟩⟩
theorem mt_wk16 : ∀ q ∈ mt_qk16, mt_cwd q := List.forall_mem_cons.mpr ⟨mt_w256, List.forall_mem_cons.mpr ⟨mt_w257, List.forall_mem_cons.mpr ⟨mt_w258, List.forall_mem_cons.mpr ⟨mt_w259, List.forall_mem_cons.mpr ⟨mt_w260, List.forall_mem_cons.mpr ⟨mt_w261, List.forall_mem_cons.mpr ⟨mt_w262, List.forall_mem_cons.mpr ⟨mt_w263, List.forall_mem_cons.mpr ⟨mt_w264, List.forall_mem_cons.mpr ⟨mt_w265, List.forall_mem_cons.mpr ⟨mt_w266, List.forall_mem_cons.mpr ⟨mt_w267, List.forall_mem_cons.mpr ⟨mt_w268, List.forall_mem_cons.mpr ⟨mt_w269, List.forall_mem_cons.mpr ⟨mt_w270, List.forall_mem_cons.mpr ⟨mt_w271, fun _ h => absurd h List.not_mem_nil⟩⟩⟩⟩⟩⟩⟩⟩⟩⟩⟩⟩⟩⟩⟩⟩
theorem mt_wk17 : ∀ q ∈ mt_qk17, mt_cwd q := List.forall_mem_cons.mpr ⟨mt_w272, List.forall_mem_cons.mpr ⟨mt_w273, List.forall_mem_cons.mpr ⟨mt_w274, List.forall_mem_cons.mpr ⟨mt_w275, List.forall_mem_cons.mpr ⟨mt_w276, List.forall_mem_cons.mpr ⟨mt_w277, List.forall_mem_cons.mpr ⟨mt_w278, List.forall_mem_cons.mpr ⟨mt_w279, List.forall_mem_cons.mpr ⟨mt_w280, List.forall_mem_cons.mpr ⟨mt_w281, List.forall_mem_cons.mpr ⟨mt_w282, List.forall_mem_cons.mpr ⟨mt_w283, List.forall_mem_cons.mpr ⟨mt_w284, List.forall_mem_cons.mpr ⟨mt_w285, List.forall_mem_cons.mpr ⟨mt_w286, List.forall_mem_cons.mpr ⟨mt_w287, fun _ h => absurd h List.not_mem_nil⟩⟩⟩⟩⟩⟩⟩⟩⟩⟩⟩⟩⟩⟩⟩⟩
theorem mt_wk18 : ∀ q ∈ mt_qk18, mt_cwd q := List.forall_mem_cons.mpr ⟨mt_w288, List.forall_mem_cons.mpr ⟨mt_w289, List.forall_mem_cons.mpr ⟨mt_w290, List.forall_mem_cons.mpr ⟨mt_w291, List.forall_mem_cons.mpr ⟨mt_w292, List.forall_mem_cons.mpr ⟨mt_w293, List.forall_mem_cons.mpr ⟨mt_w294, List.forall_mem_cons.mpr ⟨mt_w295, List.forall_mem_cons.mpr ⟨mt_w296, List.forall_mem_cons.mpr ⟨mt_w297, List.forall_mem_cons.mpr ⟨mt_w298, List.forall_mem_cons.mpr ⟨mt_w299, List.forall_mem_cons.mpr ⟨mt_w300, List.forall_mem_cons.mpr ⟨mt_w301, List.forall_mem_cons.mpr ⟨mt_w302, List.forall_mem_cons.mpr ⟨mt_w303, fun _ h => absurd h List.not_mem_nil⟩⟩⟩⟩⟩⟩⟩⟩⟩⟩⟩⟩⟩⟩⟩⟩
theorem mt_wk19 : ∀ q ∈ mt_qk19, mt_cwd q := List.forall_mem_cons.mpr ⟨mt_w304, List.forall_mem_cons.mpr ⟨mt_w305, List.forall_mem_cons.mpr ⟨mt_w306, List.forall_mem_cons.mpr ⟨mt_w307, List.forall_mem_cons.mpr ⟨mt_w308, List.forall_mem_cons.mpr ⟨mt_w309, List.forall_mem_cons.mpr ⟨mt_w310, List.forall_mem_cons.mpr ⟨mt_w311, List.forall_mem_cons.mpr ⟨mt_w312, List.forall_mem_cons.mpr ⟨mt_w313, List.forall_mem_cons.mpr ⟨mt_w314, List.forall_mem_cons.mpr ⟨mt_w315, List.forall_mem_cons.mpr ⟨mt_w316, List.forall_mem_cons.mpr ⟨mt_w317, List.forall_mem_cons.mpr ⟨mt_w318, List.forall_mem_cons.mpr ⟨mt_w319, fun _ h => absurd h List.not_mem_nil⟩⟩⟩⟩⟩⟩⟩⟩⟩⟩⟩⟩⟩⟩⟩⟩
theorem mt_wk20 : ∀ q ∈ mt_qk20, mt_cwd q := List.forall_mem_cons.mpr ⟨mt_w320, List.forall_mem_cons.mpr ⟨mt_w321, List.forall_mem_cons.mpr ⟨mt_w322, List.forall_mem_cons.mpr ⟨mt_w323, List.forall_mem_cons.mpr ⟨mt_w324, List.forall_mem_cons.mpr ⟨mt_w325, List.forall_mem_cons.mpr ⟨mt_w326, List.forall_mem_cons.mpr ⟨mt_w327, List.forall_mem_cons.mpr ⟨mt_w328, List.forall_mem_cons.mpr ⟨mt_w329, List.forall_mem_cons.mpr ⟨mt_w330, List.forall_mem_cons.mpr ⟨mt_w331, List.forall_mem_cons.mpr ⟨mt_w332, List.forall_mem_cons.mpr ⟨mt_w333, List.forall_mem_cons.mpr ⟨mt_w334, List.forall_mem_cons.mpr ⟨mt_w335, fun _ h => absurd h List.not_mem_nil⟩⟩⟩⟩⟩⟩⟩⟩⟩⟩⟩⟩⟩⟩⟩⟩
theorem mt_wk21 : ∀ q ∈ mt_qk21, mt_cwd q := List.forall_mem_cons.mpr ⟨mt_w336, List.forall_mem_cons.mpr ⟨mt_w337, List.forall_mem_cons.mpr ⟨mt_w338, fun _ h => absurd h List.not_mem_nil⟩⟩⟩
theorem mt_ws : ∀ l ∈ mt_qs, ∀ q ∈ l, mt_cwd q := List.forall_mem_cons.mpr ⟨mt_wk0, List.forall_mem_cons.mpr ⟨mt_wk1, List.forall_mem_cons.mpr ⟨mt_wk2, List.forall_mem_cons.mpr ⟨mt_wk3, List.forall_mem_cons.mpr ⟨mt_wk4, List.forall_mem_cons.mpr ⟨mt_wk5, List.forall_mem_cons.mpr ⟨mt_wk6, List.forall_mem_cons.mpr ⟨mt_wk7, List.forall_mem_cons.mpr ⟨mt_wk8, List.forall_mem_cons.mpr ⟨mt_wk9, List.forall_mem_cons.mpr ⟨mt_wk10, List.forall_mem_cons.mpr ⟨mt_wk11, List.forall_mem_cons.mpr ⟨mt_wk12, List.forall_mem_cons.mpr ⟨mt_wk13, List.forall_mem_cons.mpr ⟨mt_wk14, List.forall_mem_cons.mpr ⟨mt_wk15, List.forall_mem_cons.mpr ⟨mt_wk16, List.forall_mem_cons.mpr ⟨mt_wk17, List.forall_mem_cons.mpr ⟨mt_wk18, List.forall_mem_cons.mpr ⟨mt_wk19, List.forall_mem_cons.mpr ⟨mt_wk20, List.forall_mem_cons.mpr ⟨mt_wk21, fun _ h => absurd h List.not_mem_nil⟩⟩⟩⟩⟩⟩⟩⟩⟩⟩⟩⟩⟩⟩⟩⟩⟩⟩⟩⟩⟩⟩
