abbrev vwCl : List vw_C := [(RX0, TX0, 3), (RX1, TX1, 8), (RX2, TX2, 13), (RX3, TX3, 9), (RX4, TX4, 5), (RX5, TX5, 32)]
