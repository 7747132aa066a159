set_option maxRecDepth 20000 in
theorem ggL_law_X11_split : GoodIn wsL_law wsX11_split := by sorry
set_option maxRecDepth 20000 in
theorem gL_law_X11_split : GoodIn wsL_law (wsV RL 80 RX11 yX11_split wsX11_split) := by sorry
set_option maxRecDepth 20000 in
theorem ggL_law_X10_guess : GoodIn wsL_law wsX10_guess := by sorry
set_option maxRecDepth 20000 in
theorem gL_law_X10_guess : GoodIn wsL_law (wsV RL 81 RX10 yX10_guess wsX10_guess) := by sorry
set_option maxRecDepth 20000 in
theorem ggL_law_X11_guess : GoodIn wsL_law wsX11_guess := by sorry
set_option maxRecDepth 20000 in
theorem gL_law_X11_guess : GoodIn wsL_law (wsV RL 85 RX11 yX11_guess wsX11_guess) := by sorry
set_option maxRecDepth 20000 in
theorem ggL_law_X10_doubt : GoodIn wsL_law wsX10_doubt := by sorry
set_option maxRecDepth 20000 in
theorem gL_law_X10_doubt : GoodIn wsL_law (wsV RL 86 RX10 yX10_doubt wsX10_doubt) := by sorry
set_option maxRecDepth 20000 in
theorem ggL_law_X11_doubt : GoodIn wsL_law wsX11_doubt := by sorry
set_option maxRecDepth 20000 in
theorem gL_law_X11_doubt : GoodIn wsL_law (wsV RL 89 RX11 yX11_doubt wsX11_doubt) := by sorry
set_option maxRecDepth 20000 in
theorem ggL_law_X10_foretold : GoodIn wsL_law wsX10_foretold := by sorry
set_option maxRecDepth 20000 in
theorem gL_law_X10_foretold : GoodIn wsL_law (wsV RL 90 RX10 yX10_foretold wsX10_foretold) := by sorry
set_option maxRecDepth 20000 in
theorem ggL_law_X11_foretold : GoodIn wsL_law wsX11_foretold := by sorry
set_option maxRecDepth 20000 in
theorem gL_law_X11_foretold : GoodIn wsL_law (wsV RL 93 RX11 yX11_foretold wsX11_foretold) := by sorry
set_option maxRecDepth 20000 in
theorem ggL_law_X10_tight : GoodIn wsL_law wsX10_tight := by sorry
set_option maxRecDepth 20000 in
theorem gL_law_X10_tight : GoodIn wsL_law (wsV RL 94 RX10 yX10_tight wsX10_tight) := by sorry
set_option maxRecDepth 20000 in
theorem ggL_law_X11_tight : GoodIn wsL_law wsX11_tight := by sorry
set_option maxRecDepth 20000 in
theorem gL_law_X11_tight : GoodIn wsL_law (wsV RL 98 RX11 yX11_tight wsX11_tight) := by sorry
set_option maxRecDepth 20000 in
theorem ggL_law_X10_plan : GoodIn wsL_law wsX10_plan := by sorry
set_option maxRecDepth 20000 in
theorem gL_law_X10_plan : GoodIn wsL_law (wsV RL 99 RX10 yX10_plan wsX10_plan) := by sorry
set_option maxRecDepth 20000 in
theorem ggL_law_X11_plan : GoodIn wsL_law wsX11_plan := by sorry
set_option maxRecDepth 20000 in
theorem gL_law_X11_plan : GoodIn wsL_law (wsV RL 102 RX11 yX11_plan wsX11_plan) := by sorry
set_option maxRecDepth 20000 in
theorem ggL_law_X10_feed : GoodIn wsL_law wsX10_feed := by sorry
set_option maxRecDepth 20000 in
theorem gL_law_X10_feed : GoodIn wsL_law (wsV RL 103 RX10 yX10_feed wsX10_feed) := by sorry
set_option maxRecDepth 20000 in
theorem ggL_law_X11_feed : GoodIn wsL_law wsX11_feed := by sorry
set_option maxRecDepth 20000 in
theorem gL_law_X11_feed : GoodIn wsL_law (wsV RL 106 RX11 yX11_feed wsX11_feed) := by sorry
set_option maxRecDepth 20000 in
theorem ggL_law_X10_end : GoodIn wsL_law wsX10_end := by sorry
set_option maxRecDepth 20000 in
theorem gL_law_X10_end : GoodIn wsL_law (wsV RL 107 RX10 yX10_end wsX10_end) := by sorry
set_option maxRecDepth 20000 in
theorem ggL_law_X11_end : GoodIn wsL_law wsX11_end := by sorry
set_option maxRecDepth 20000 in
theorem gL_law_X11_end : GoodIn wsL_law (wsV RL 110 RX11 yX11_end wsX11_end) := by sorry
set_option maxRecDepth 20000 in
theorem ggL_law_X10_fault : GoodIn wsL_law wsX10_fault := by sorry
set_option maxRecDepth 20000 in
theorem gL_law_X10_fault : GoodIn wsL_law (wsV RL 111 RX10 yX10_fault wsX10_fault) := by sorry
set_option maxRecDepth 20000 in
theorem ggL_law_X11_fault : GoodIn wsL_law wsX11_fault := by sorry
set_option maxRecDepth 20000 in
theorem gL_law_X11_fault : GoodIn wsL_law (wsV RL 114 RX11 yX11_fault wsX11_fault) := by sorry
set_option maxRecDepth 20000 in
theorem ggL_law_X10_list : GoodIn wsL_law wsX10_list := by sorry
set_option maxRecDepth 20000 in
theorem gL_law_X10_list : GoodIn wsL_law (wsV RL 115 RX10 yX10_list wsX10_list) := by sorry
set_option maxRecDepth 20000 in
theorem ggL_law_X11_list_ : GoodIn wsL_law wsX11_list_ := by sorry
set_option maxRecDepth 20000 in
theorem gL_law_X11_list_ : GoodIn wsL_law (wsV RL 118 RX11 yX11_list_ wsX11_list_) := by sorry
set_option maxRecDepth 20000 in
theorem ggL_law_X10_place : GoodIn wsL_law wsX10_place := by sorry
set_option maxRecDepth 20000 in
theorem gL_law_X10_place : GoodIn wsL_law (wsV RL 119 RX10 yX10_place wsX10_place) := by sorry
set_option maxRecDepth 20000 in
theorem ggL_law_X11_place : GoodIn wsL_law wsX11_place := by sorry
set_option maxRecDepth 20000 in
theorem gL_law_X11_place : GoodIn wsL_law (wsV RL 122 RX11 yX11_place wsX11_place) := by sorry
set_option maxRecDepth 20000 in
theorem ggL_law_X10_many : GoodIn wsL_law wsX10_many := by sorry
set_option maxRecDepth 20000 in
theorem gL_law_X10_many : GoodIn wsL_law (wsV RL 123 RX10 yX10_many wsX10_many) := by sorry
set_option maxRecDepth 20000 in
theorem ggL_law_X11_many : GoodIn wsL_law wsX11_many := by sorry
set_option maxRecDepth 20000 in
theorem gL_law_X11_many : GoodIn wsL_law (wsV RL 126 RX11 yX11_many wsX11_many) := by sorry
set_option maxRecDepth 20000 in
theorem ggL_law_X10_prizes : GoodIn wsL_law wsX10_prizes := by sorry
set_option maxRecDepth 20000 in
theorem gL_law_X10_prizes : GoodIn wsL_law (wsV RL 127 RX10 yX10_prizes wsX10_prizes) := by sorry
set_option maxRecDepth 20000 in
theorem ggL_law_X11_prizes : GoodIn wsL_law wsX11_prizes := by sorry
set_option maxRecDepth 20000 in
theorem gL_law_X11_prizes : GoodIn wsL_law (wsV RL 130 RX11 yX11_prizes wsX11_prizes) := by sorry
set_option maxRecDepth 20000 in
theorem ggL_law_X10_team : GoodIn wsL_law wsX10_team := by sorry
set_option maxRecDepth 20000 in
theorem gL_law_X10_team : GoodIn wsL_law (wsV RL 131 RX10 yX10_team wsX10_team) := by sorry
set_option maxRecDepth 20000 in
theorem ggL_law_X11_team : GoodIn wsL_law wsX11_team := by sorry
set_option maxRecDepth 20000 in
theorem gL_law_X11_team : GoodIn wsL_law (wsV RL 134 RX11 yX11_team wsX11_team) := by sorry
set_option maxRecDepth 20000 in
theorem ggL_law_X10_state : GoodIn wsL_law wsX10_state := by sorry
set_option maxRecDepth 20000 in
theorem gL_law_X10_state : GoodIn wsL_law (wsV RL 135 RX10 yX10_state wsX10_state) := by sorry
set_option maxRecDepth 20000 in
theorem ggL_law_X11_state : GoodIn wsL_law wsX11_state := by sorry
set_option maxRecDepth 20000 in
theorem gL_law_X11_state : GoodIn wsL_law (wsV RL 138 RX11 yX11_state wsX11_state) := by sorry
set_option maxRecDepth 20000 in
theorem ggL_law_X10_count : GoodIn wsL_law wsX10_count := by sorry
set_option maxRecDepth 20000 in
theorem gL_law_X10_count : GoodIn wsL_law (wsV RL 139 RX10 yX10_count wsX10_count) := by sorry
set_option maxRecDepth 20000 in
theorem ggL_law_X11_count : GoodIn wsL_law wsX11_count := by sorry
set_option maxRecDepth 20000 in
theorem gL_law_X11_count : GoodIn wsL_law (wsV RL 142 RX11 yX11_count wsX11_count) := by sorry
set_option maxRecDepth 20000 in
theorem ggL_law_X10_image : GoodIn wsL_law wsX10_image := by sorry
set_option maxRecDepth 20000 in
theorem gL_law_X10_image : GoodIn wsL_law (wsV RL 143 RX10 yX10_image wsX10_image) := by sorry
set_option maxRecDepth 20000 in
theorem ggL_law_X11_image : GoodIn wsL_law wsX11_image := by sorry
set_option maxRecDepth 20000 in
theorem gL_law_X11_image : GoodIn wsL_law (wsV RL 146 RX11 yX11_image wsX11_image) := by sorry
set_option maxRecDepth 20000 in
theorem ggL_law_X11_back : GoodIn wsL_law wsX11_back := by sorry
set_option maxRecDepth 20000 in
theorem gL_law_X11_back : GoodIn wsL_law (wsV RL 152 RX11 yX11_back wsX11_back) := by sorry
